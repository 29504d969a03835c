/-! methods that change nothing -/
section RP
variable {d n t M : Nat} {K L : Nat → Nat} {I : Nat → Nat → Int32} {R : Nat → Nat → Nat} {P : Option Value → AH → Prop}
theorem lp_habitOf_19 (hS : m_S M K L R) (hR : mR M I) {r a : Int32} (hr : 0 ≤ r ∧ r ≤ 5) (ha : 0 ≤ a ∧ a < 30) (hC : ∀ s q o, a_at d (a_xm a_m194) 7 [some (a_rf M), some (.int r), some (.int s), some (.int q), some (.int (a + 1)), some (.int o)] [] (n, t, K, L, I, R) P) : ∀ o : Int32, o ≤ 6 → ∀ s q, 0 ≤ o → a_at d (a_xm a_m194) 19 [some (a_rf M), some (.int r), some (.int s), some (.int q), some (.int a), some (.int o)] [] (n, t, K, L, I, R) P := by
  refine up_ind 6 (fun o ho ih => ?_)
  intro s q h0
  rw [q194_19]
  repeat' first
    | with_reducible apply And.intro
    | with_reducible assumption
    | with_reducible intro _
    | with_reducible apply ih
    | with_reducible apply hC
    | simp only [q194_0, q194_1, q194_2, q194_3, q194_4, q194_5, q194_9, q194_10, q194_13, q194_16, q194_17, q194_21, q194_23, q194_26, q194_27, q194_30, q194_32, q194_33, q194_34, q194_36, q194_37, q194_38, q194_41, q194_43, q194_44, q194_47, q194_48, q194_51, q194_53, q194_55, q194_56, q194_58, q194_59, q194_60, q194_63, q194_64, q194_65, q194_68, q194_70, q194_71, q194_72, q194_74, q194_75, q194_76, q194_77, q194_80, q194_82, q194_84, q194_85, q194_87, q194_88, q194_89, q194_90, q194_91, q194_92, q194_95, q194_98, q194_101, q194_104, q194_107, q194_108, q194_111, q194_112, q194_113, q194_114, q194_117, q194_118, q194_119, q194_120, q194_123, q194_124, q194_125, q194_126, q194_127, q194_128, q194_129, q194_130, q194_131, m_0 hS, m_K hS, mR_doesCount hS, mK_doesCount hS, mL_doesCount hS, mR_marks hS, mK_marks hS, mL_marks hS, as_nil, as_i, as_r, Nat.reduceAdd, Nat.reduceLeDiff, z_eq0, z_eq1, z_or, z_em, Classical.not_not, not_false_eq_true, not_true_eq_false, true_and, and_true, false_and, and_false, and_self, true_implies, false_implies, implies_true, Option.toList_some, Option.toList_none, List.cons_append, List.nil_append, Nat.add_eq_zero_iff, a_nl_i, a_nl_r, a_nl_n, true_or, or_true, eq_self, ok_4, ok_5, ok_6, ok_7, ok_9, ok_10, ok_20, ok_21, ok_24, ok_30, ok_48, ok_50, ok_60, ok_80, ok_120, ok_180, ok_192, ok_200, ok_900, ok_1000, ok_84000]
  all_goals grind [ui_ap]
theorem lp_habitOf_7 (hS : m_S M K L R) (hR : mR M I) {r : Int32} (hr : 0 ≤ r ∧ r ≤ 5) (hP : ∀ v, P (some (.int v)) (n, t, K, L, I, R)) : ∀ a : Int32, a ≤ 30 → ∀ s q o, 0 ≤ a → a_at d (a_xm a_m194) 7 [some (a_rf M), some (.int r), some (.int s), some (.int q), some (.int a), o] [] (n, t, K, L, I, R) P := by
  refine up_ind 30 (fun a ha ih => ?_)
  intro s q o h0
  have g1 := rg_asks hR
  rw [q194_7]
  repeat' first
    | with_reducible apply And.intro
    | with_reducible assumption
    | with_reducible intro _
    | with_reducible apply ih
    | with_reducible apply hP
    | with_reducible apply lp_habitOf_19 hS hR hr
    | simp only [q194_0, q194_1, q194_2, q194_3, q194_4, q194_5, q194_9, q194_10, q194_13, q194_16, q194_17, q194_21, q194_23, q194_26, q194_27, q194_30, q194_32, q194_33, q194_34, q194_36, q194_37, q194_38, q194_41, q194_43, q194_44, q194_47, q194_48, q194_51, q194_53, q194_55, q194_56, q194_58, q194_59, q194_60, q194_63, q194_64, q194_65, q194_68, q194_70, q194_71, q194_72, q194_74, q194_75, q194_76, q194_77, q194_80, q194_82, q194_84, q194_85, q194_87, q194_88, q194_89, q194_90, q194_91, q194_92, q194_95, q194_98, q194_101, q194_104, q194_107, q194_108, q194_111, q194_112, q194_113, q194_114, q194_117, q194_118, q194_119, q194_120, q194_123, q194_124, q194_125, q194_126, q194_127, q194_128, q194_129, q194_130, q194_131, m_0 hS, m_K hS, mR_doesCount hS, mK_doesCount hS, mL_doesCount hS, mR_marks hS, mK_marks hS, mL_marks hS, as_nil, as_i, as_r, Nat.reduceAdd, Nat.reduceLeDiff, z_eq0, z_eq1, z_or, z_em, Classical.not_not, not_false_eq_true, not_true_eq_false, true_and, and_true, false_and, and_false, and_self, true_implies, false_implies, implies_true, Option.toList_some, Option.toList_none, List.cons_append, List.nil_append, Nat.add_eq_zero_iff, a_nl_i, a_nl_r, a_nl_n, true_or, or_true, eq_self, ok_4, ok_5, ok_6, ok_7, ok_9, ok_10, ok_20, ok_21, ok_24, ok_30, ok_48, ok_50, ok_60, ok_80, ok_120, ok_180, ok_192, ok_200, ok_900, ok_1000, ok_84000]
  all_goals grind [ui_ap]
theorem ct_habitOf (hS : m_S M K L R) (hR : mR M I) {r : Int32} (hr : 0 ≤ r ∧ r ≤ 5) (hP : ∀ v, P (some (.int v)) (n, t, K, L, I, R)) : a_does (d + 1) 194 [a_rf M, .int r] (n, t, K, L, I, R) P := by
  rw [a_enter1 (M := a_m194) rfl (a_cat_rf (a_cat_int a_cat_nil)) (show 2 ≤ 6 by decide)]
  show a_at _ (a_xm a_m194) 0 [some (a_rf M), some (.int r), none, none, none, none] [] _ _
  repeat' first
    | with_reducible apply And.intro
    | with_reducible assumption
    | with_reducible intro _
    | with_reducible apply lp_habitOf_7 hS hR hr hP
    | simp only [q194_0, q194_1, q194_2, q194_3, q194_4, q194_5, q194_9, q194_10, q194_13, q194_16, q194_17, q194_21, q194_23, q194_26, q194_27, q194_30, q194_32, q194_33, q194_34, q194_36, q194_37, q194_38, q194_41, q194_43, q194_44, q194_47, q194_48, q194_51, q194_53, q194_55, q194_56, q194_58, q194_59, q194_60, q194_63, q194_64, q194_65, q194_68, q194_70, q194_71, q194_72, q194_74, q194_75, q194_76, q194_77, q194_80, q194_82, q194_84, q194_85, q194_87, q194_88, q194_89, q194_90, q194_91, q194_92, q194_95, q194_98, q194_101, q194_104, q194_107, q194_108, q194_111, q194_112, q194_113, q194_114, q194_117, q194_118, q194_119, q194_120, q194_123, q194_124, q194_125, q194_126, q194_127, q194_128, q194_129, q194_130, q194_131, m_0 hS, m_K hS, mR_doesCount hS, mK_doesCount hS, mL_doesCount hS, mR_marks hS, mK_marks hS, mL_marks hS, as_nil, as_i, as_r, Nat.reduceAdd, Nat.reduceLeDiff, z_eq0, z_eq1, z_or, z_em, Classical.not_not, not_false_eq_true, not_true_eq_false, true_and, and_true, false_and, and_false, and_self, true_implies, false_implies, implies_true, Option.toList_some, Option.toList_none, List.cons_append, List.nil_append, Nat.add_eq_zero_iff, a_nl_i, a_nl_r, a_nl_n, true_or, or_true, eq_self, ok_4, ok_5, ok_6, ok_7, ok_9, ok_10, ok_20, ok_21, ok_24, ok_30, ok_48, ok_50, ok_60, ok_80, ok_120, ok_180, ok_192, ok_200, ok_900, ok_1000, ok_84000]
  all_goals grind [ui_ap]
theorem lp_doubtOf_23 (hS : m_S M K L R) (hR : mR M I) {r a : Int32} (hr : 0 ≤ r ∧ r ≤ 5) (ha : 0 ≤ a ∧ a < 30) (hC : ∀ s q o l, a_at d (a_xm a_m219) 11 [some (a_rf M), some (.int r), some (.int s), some (.int q), some (.int (a + 1)), some (.int o), l] [] (n, t, K, L, I, R) P) : ∀ o : Int32, o ≤ 6 → ∀ s q l, 0 ≤ o → a_at d (a_xm a_m219) 23 [some (a_rf M), some (.int r), some (.int s), some (.int q), some (.int a), some (.int o), l] [] (n, t, K, L, I, R) P := by
  refine up_ind 6 (fun o ho ih => ?_)
  intro s q l h0
  rw [q219_23]
  repeat' first
    | with_reducible apply And.intro
    | with_reducible assumption
    | with_reducible intro _
    | with_reducible apply ih
    | with_reducible apply hC
    | simp only [q219_0, q219_3, q219_4, q219_7, q219_8, q219_9, q219_13, q219_14, q219_17, q219_20, q219_21, q219_25, q219_27, q219_30, q219_31, q219_34, q219_36, q219_37, q219_38, q219_40, q219_41, q219_42, q219_45, q219_47, q219_48, q219_51, q219_52, q219_55, q219_57, q219_59, q219_60, q219_62, q219_63, q219_64, q219_67, q219_68, q219_71, q219_73, q219_74, q219_75, q219_77, q219_78, q219_79, q219_80, q219_83, q219_85, q219_87, q219_88, q219_90, q219_91, q219_92, q219_93, q219_95, q219_97, q219_98, q219_101, q219_103, q219_106, q219_107, q219_108, q219_110, q219_111, q219_114, q219_116, q219_119, q219_120, q219_121, q219_124, q219_127, q219_130, q219_133, q219_134, q219_135, q219_138, q219_139, q219_142, q219_143, q219_144, q219_145, m_0 hS, m_K hS, mR_doesCount hS, mK_doesCount hS, mL_doesCount hS, mR_marks hS, mK_marks hS, mL_marks hS, as_nil, as_i, as_r, Nat.reduceAdd, Nat.reduceLeDiff, z_eq0, z_eq1, z_or, z_em, Classical.not_not, not_false_eq_true, not_true_eq_false, true_and, and_true, false_and, and_false, and_self, true_implies, false_implies, implies_true, Option.toList_some, Option.toList_none, List.cons_append, List.nil_append, Nat.add_eq_zero_iff, a_nl_i, a_nl_r, a_nl_n, true_or, or_true, eq_self, ok_4, ok_5, ok_6, ok_7, ok_9, ok_10, ok_20, ok_21, ok_24, ok_30, ok_48, ok_50, ok_60, ok_80, ok_120, ok_180, ok_192, ok_200, ok_900, ok_1000, ok_84000]
  all_goals grind [ui_ap]
theorem lp_doubtOf_11 (hS : m_S M K L R) (hR : mR M I) {r : Int32} (hr : 0 ≤ r ∧ r ≤ 5) (hP : ∀ v, P (some (.int v)) (n, t, K, L, I, R)) : ∀ a : Int32, a ≤ 30 → ∀ s q o l, 0 ≤ a → a_at d (a_xm a_m219) 11 [some (a_rf M), some (.int r), some (.int s), some (.int q), some (.int a), o, l] [] (n, t, K, L, I, R) P := by
  refine up_ind 30 (fun a ha ih => ?_)
  intro s q o l h0
  have g1 := rg_asks hR
  rw [q219_11]
  repeat' first
    | with_reducible apply And.intro
    | with_reducible assumption
    | with_reducible intro _
    | with_reducible apply ih
    | with_reducible apply hP
    | with_reducible apply lp_doubtOf_23 hS hR hr
    | simp only [q219_0, q219_3, q219_4, q219_7, q219_8, q219_9, q219_13, q219_14, q219_17, q219_20, q219_21, q219_25, q219_27, q219_30, q219_31, q219_34, q219_36, q219_37, q219_38, q219_40, q219_41, q219_42, q219_45, q219_47, q219_48, q219_51, q219_52, q219_55, q219_57, q219_59, q219_60, q219_62, q219_63, q219_64, q219_67, q219_68, q219_71, q219_73, q219_74, q219_75, q219_77, q219_78, q219_79, q219_80, q219_83, q219_85, q219_87, q219_88, q219_90, q219_91, q219_92, q219_93, q219_95, q219_97, q219_98, q219_101, q219_103, q219_106, q219_107, q219_108, q219_110, q219_111, q219_114, q219_116, q219_119, q219_120, q219_121, q219_124, q219_127, q219_130, q219_133, q219_134, q219_135, q219_138, q219_139, q219_142, q219_143, q219_144, q219_145, m_0 hS, m_K hS, mR_doesCount hS, mK_doesCount hS, mL_doesCount hS, mR_marks hS, mK_marks hS, mL_marks hS, as_nil, as_i, as_r, Nat.reduceAdd, Nat.reduceLeDiff, z_eq0, z_eq1, z_or, z_em, Classical.not_not, not_false_eq_true, not_true_eq_false, true_and, and_true, false_and, and_false, and_self, true_implies, false_implies, implies_true, Option.toList_some, Option.toList_none, List.cons_append, List.nil_append, Nat.add_eq_zero_iff, a_nl_i, a_nl_r, a_nl_n, true_or, or_true, eq_self, ok_4, ok_5, ok_6, ok_7, ok_9, ok_10, ok_20, ok_21, ok_24, ok_30, ok_48, ok_50, ok_60, ok_80, ok_120, ok_180, ok_192, ok_200, ok_900, ok_1000, ok_84000]
  all_goals grind [ui_ap]
theorem ct_doubtOf (hS : m_S M K L R) (hR : mR M I) {r : Int32} (hr : 0 ≤ r ∧ r ≤ 5) (hP : ∀ v, P (some (.int v)) (n, t, K, L, I, R)) : a_does (d + 1) 219 [a_rf M, .int r] (n, t, K, L, I, R) P := by
  rw [a_enter1 (M := a_m219) rfl (a_cat_rf (a_cat_int a_cat_nil)) (show 2 ≤ 7 by decide)]
  show a_at _ (a_xm a_m219) 0 [some (a_rf M), some (.int r), none, none, none, none, none] [] _ _
  repeat' first
    | with_reducible apply And.intro
    | with_reducible assumption
    | with_reducible intro _
    | with_reducible apply lp_doubtOf_11 hS hR hr hP
    | simp only [q219_0, q219_3, q219_4, q219_7, q219_8, q219_9, q219_13, q219_14, q219_17, q219_20, q219_21, q219_25, q219_27, q219_30, q219_31, q219_34, q219_36, q219_37, q219_38, q219_40, q219_41, q219_42, q219_45, q219_47, q219_48, q219_51, q219_52, q219_55, q219_57, q219_59, q219_60, q219_62, q219_63, q219_64, q219_67, q219_68, q219_71, q219_73, q219_74, q219_75, q219_77, q219_78, q219_79, q219_80, q219_83, q219_85, q219_87, q219_88, q219_90, q219_91, q219_92, q219_93, q219_95, q219_97, q219_98, q219_101, q219_103, q219_106, q219_107, q219_108, q219_110, q219_111, q219_114, q219_116, q219_119, q219_120, q219_121, q219_124, q219_127, q219_130, q219_133, q219_134, q219_135, q219_138, q219_139, q219_142, q219_143, q219_144, q219_145, m_0 hS, m_K hS, mR_doesCount hS, mK_doesCount hS, mL_doesCount hS, mR_marks hS, mK_marks hS, mL_marks hS, as_nil, as_i, as_r, Nat.reduceAdd, Nat.reduceLeDiff, z_eq0, z_eq1, z_or, z_em, Classical.not_not, not_false_eq_true, not_true_eq_false, true_and, and_true, false_and, and_false, and_self, true_implies, false_implies, implies_true, Option.toList_some, Option.toList_none, List.cons_append, List.nil_append, Nat.add_eq_zero_iff, a_nl_i, a_nl_r, a_nl_n, true_or, or_true, eq_self, ok_4, ok_5, ok_6, ok_7, ok_9, ok_10, ok_20, ok_21, ok_24, ok_30, ok_48, ok_50, ok_60, ok_80, ok_120, ok_180, ok_192, ok_200, ok_900, ok_1000, ok_84000]
  all_goals grind [ui_ap]
theorem lp_markFor_7 (hS : m_S M K L R) (hR : mR M I) {a : Int32} (ha : 0 ≤ a ∧ a < 30) (hP : ∀ v, -9 ≤ v → P (some (.int v)) (n, t, K, L, I, R)) : ∀ r : Int32, r ≤ 6 → ∀ c s, 0 ≤ r → a_at (d + 1) (a_xm a_m193) 7 [some (a_rf M), some (.int a), some (.int c), some (.int s), some (.int r)] [] (n, t, K, L, I, R) P := by
  refine up_ind 6 (fun r hr ih => ?_)
  intro c s h0
  rw [q193_7]
  repeat' first
    | with_reducible apply And.intro
    | with_reducible assumption
    | with_reducible intro _
    | with_reducible apply ih
    | with_reducible apply hP
    | with_reducible apply ct_habitOf hS hR
    | simp only [q193_0, q193_1, q193_2, q193_3, q193_4, q193_5, q193_9, q193_11, q193_14, q193_15, q193_18, q193_20, q193_22, q193_23, q193_24, q193_25, q193_26, q193_29, q193_32, q193_33, q193_34, q193_37, q193_39, q193_41, q193_42, q193_43, q193_44, q193_45, q193_46, q193_49, q193_50, q193_53, q193_54, q193_56, q193_59, q193_62, q193_63, q193_64, q193_65, q193_66, q193_69, q193_72, q193_73, q193_76, q193_78, q193_79, q193_80, q193_81, q193_82, q193_84, q193_86, q193_89, q193_90, q193_93, q193_95, q193_97, q193_100, q193_102, q193_105, q193_107, m_0 hS, m_K hS, mR_doesCount hS, mK_doesCount hS, mL_doesCount hS, mR_marks hS, mK_marks hS, mL_marks hS, as_nil, as_i, as_r, Nat.reduceAdd, Nat.reduceLeDiff, z_eq0, z_eq1, z_or, z_em, Classical.not_not, not_false_eq_true, not_true_eq_false, true_and, and_true, false_and, and_false, and_self, true_implies, false_implies, implies_true, Option.toList_some, Option.toList_none, List.cons_append, List.nil_append, Nat.add_eq_zero_iff, a_nl_i, a_nl_r, a_nl_n, true_or, or_true, eq_self, ok_4, ok_5, ok_6, ok_7, ok_9, ok_10, ok_20, ok_21, ok_24, ok_30, ok_48, ok_50, ok_60, ok_80, ok_120, ok_180, ok_192, ok_200, ok_900, ok_1000, ok_84000]
  all_goals grind [ui_ap]
theorem ct_markFor (hS : m_S M K L R) (hR : mR M I) {a : Int32} (ha : 0 ≤ a ∧ a < 30) (hP : ∀ v, -9 ≤ v → P (some (.int v)) (n, t, K, L, I, R)) : a_does (d + 2) 193 [a_rf M, .int a] (n, t, K, L, I, R) P := by
  rw [a_enter1 (M := a_m193) rfl (a_cat_rf (a_cat_int a_cat_nil)) (show 2 ≤ 5 by decide)]
  show a_at _ (a_xm a_m193) 0 [some (a_rf M), some (.int a), none, none, none] [] _ _
  repeat' first
    | with_reducible apply And.intro
    | with_reducible assumption
    | with_reducible intro _
    | with_reducible apply lp_markFor_7 hS hR ha hP
    | simp only [q193_0, q193_1, q193_2, q193_3, q193_4, q193_5, q193_9, q193_11, q193_14, q193_15, q193_18, q193_20, q193_22, q193_23, q193_24, q193_25, q193_26, q193_29, q193_32, q193_33, q193_34, q193_37, q193_39, q193_41, q193_42, q193_43, q193_44, q193_45, q193_46, q193_49, q193_50, q193_53, q193_54, q193_56, q193_59, q193_62, q193_63, q193_64, q193_65, q193_66, q193_69, q193_72, q193_73, q193_76, q193_78, q193_79, q193_80, q193_81, q193_82, q193_84, q193_86, q193_89, q193_90, q193_93, q193_95, q193_97, q193_100, q193_102, q193_105, q193_107, m_0 hS, m_K hS, mR_doesCount hS, mK_doesCount hS, mL_doesCount hS, mR_marks hS, mK_marks hS, mL_marks hS, as_nil, as_i, as_r, Nat.reduceAdd, Nat.reduceLeDiff, z_eq0, z_eq1, z_or, z_em, Classical.not_not, not_false_eq_true, not_true_eq_false, true_and, and_true, false_and, and_false, and_self, true_implies, false_implies, implies_true, Option.toList_some, Option.toList_none, List.cons_append, List.nil_append, Nat.add_eq_zero_iff, a_nl_i, a_nl_r, a_nl_n, true_or, or_true, eq_self, ok_4, ok_5, ok_6, ok_7, ok_9, ok_10, ok_20, ok_21, ok_24, ok_30, ok_48, ok_50, ok_60, ok_80, ok_120, ok_180, ok_192, ok_200, ok_900, ok_1000, ok_84000]
  all_goals grind [ui_ap]
theorem ct_markAt (hS : m_S M K L R) (hR : mR M I) {a : Int32} (ha : 0 ≤ a ∧ a < 30) (hP : ∀ v, 0 ≤ v → P (some (.int v)) (n, t, K, L, I, R)) : a_does (d + 3) 244 [a_rf M, .int a] (n, t, K, L, I, R) P := by
  rw [a_enter1 (M := a_m244) rfl (a_cat_rf (a_cat_int a_cat_nil)) (show 2 ≤ 3 by decide)]
  show a_at _ (a_xm a_m244) 0 [some (a_rf M), some (.int a), none] [] _ _
  repeat' first
    | with_reducible apply And.intro
    | with_reducible assumption
    | with_reducible intro _
    | with_reducible apply hP
    | with_reducible apply ct_markFor hS hR ha
    | simp only [q244_0, q244_1, q244_2, q244_5, q244_6, q244_7, q244_10, q244_11, q244_14, q244_15, m_0 hS, m_K hS, as_nil, as_i, as_r, Nat.reduceAdd, Nat.reduceLeDiff, z_eq0, z_eq1, z_or, z_em, Classical.not_not, not_false_eq_true, not_true_eq_false, true_and, and_true, false_and, and_false, and_self, true_implies, false_implies, implies_true, Option.toList_some, Option.toList_none, List.cons_append, List.nil_append, Nat.add_eq_zero_iff, a_nl_i, a_nl_r, a_nl_n, true_or, or_true, eq_self, ok_4, ok_5, ok_6, ok_7, ok_9, ok_10, ok_20, ok_21, ok_24, ok_30, ok_48, ok_50, ok_60, ok_80, ok_120, ok_180, ok_192, ok_200, ok_900, ok_1000, ok_84000]
  all_goals grind [ui_ap]
theorem lp_lostIn_26 (hS : m_S M K L R) (hR : mR M I) {s k b h : Int32} (hC : ∀ is j, a_at d (a_xm a_m177) 96 [some (a_rf M), some (.int s), some (.int k), some (.int b), some (.int h), some (.int is), some (.int j)] [] (n, t, K, L, I, R) P) : ∀ j : Int32, j ≤ 20 → ∀ is, 0 ≤ j → a_at d (a_xm a_m177) 26 [some (a_rf M), some (.int s), some (.int k), some (.int b), some (.int h), some (.int is), some (.int j)] [] (n, t, K, L, I, R) P := by
  refine up_ind 20 (fun j hj ih => ?_)
  intro is h0
  have g1 := rg_trips hR
  rw [q177_26]
  repeat' first
    | with_reducible apply And.intro
    | with_reducible assumption
    | with_reducible intro _
    | with_reducible apply ih
    | with_reducible apply hC
    | simp only [q177_0, q177_1, q177_2, q177_4, q177_5, q177_6, q177_10, q177_12, q177_13, q177_14, q177_16, q177_17, q177_20, q177_21, q177_23, q177_24, q177_28, q177_29, q177_32, q177_35, q177_37, q177_40, q177_41, q177_44, q177_46, q177_47, q177_48, q177_51, q177_53, q177_54, q177_57, q177_59, q177_60, q177_63, q177_65, q177_66, q177_69, q177_71, q177_72, q177_73, q177_76, q177_78, q177_79, q177_80, q177_83, q177_84, q177_87, q177_88, q177_90, q177_93, q177_97, q177_99, q177_102, q177_103, q177_106, q177_107, q177_108, q177_109, q177_112, q177_115, q177_116, m_0 hS, m_K hS, mR_tFound hS, mK_tFound hS, mL_tFound hS, mR_tHour hS, mK_tHour hS, mL_tHour hS, mR_tMany hS, mK_tMany hS, mL_tMany hS, as_nil, as_i, as_r, Nat.reduceAdd, Nat.reduceLeDiff, z_eq0, z_eq1, z_or, z_em, Classical.not_not, not_false_eq_true, not_true_eq_false, true_and, and_true, false_and, and_false, and_self, true_implies, false_implies, implies_true, Option.toList_some, Option.toList_none, List.cons_append, List.nil_append, Nat.add_eq_zero_iff, a_nl_i, a_nl_r, a_nl_n, true_or, or_true, eq_self, ok_4, ok_5, ok_6, ok_7, ok_9, ok_10, ok_20, ok_21, ok_24, ok_30, ok_48, ok_50, ok_60, ok_80, ok_120, ok_180, ok_192, ok_200, ok_900, ok_1000, ok_84000]
  all_goals grind [ui_ap]
theorem lp_lostIn_8 (hS : m_S M K L R) (hR : mR M I) {s k : Int32} (hs : -1000 ≤ s ∧ s ≤ 1000) (hP : ∀ v, (0 ≤ v ∧ v ≤ 8) → P (some (.int v)) (n, t, K, L, I, R)) : ∀ h : Int32, h ≤ 8 * s + 8 → ∀ b is j, 8 * s ≤ h → (0 ≤ b ∧ b ≤ h - 8 * s) → a_at d (a_xm a_m177) 8 [some (a_rf M), some (.int s), some (.int k), some (.int b), some (.int h), is, j] [] (n, t, K, L, I, R) P := by
  refine up_ind (8 * s + 8) (fun h hh ih => ?_)
  intro b is j h0 hb
  rw [q177_8]
  repeat' first
    | with_reducible apply And.intro
    | with_reducible assumption
    | with_reducible intro _
    | with_reducible apply ih
    | with_reducible apply hP
    | with_reducible apply lp_lostIn_26 hS hR
    | simp only [q177_0, q177_1, q177_2, q177_4, q177_5, q177_6, q177_10, q177_12, q177_13, q177_14, q177_16, q177_17, q177_20, q177_21, q177_23, q177_24, q177_28, q177_29, q177_32, q177_35, q177_37, q177_40, q177_41, q177_44, q177_46, q177_47, q177_48, q177_51, q177_53, q177_54, q177_57, q177_59, q177_60, q177_63, q177_65, q177_66, q177_69, q177_71, q177_72, q177_73, q177_76, q177_78, q177_79, q177_80, q177_83, q177_84, q177_87, q177_88, q177_90, q177_93, q177_96, q177_97, q177_99, q177_102, q177_103, q177_106, q177_107, q177_108, q177_109, q177_112, q177_115, q177_116, m_0 hS, m_K hS, mR_tFound hS, mK_tFound hS, mL_tFound hS, mR_tHour hS, mK_tHour hS, mL_tHour hS, mR_tMany hS, mK_tMany hS, mL_tMany hS, as_nil, as_i, as_r, Nat.reduceAdd, Nat.reduceLeDiff, z_eq0, z_eq1, z_or, z_em, Classical.not_not, not_false_eq_true, not_true_eq_false, true_and, and_true, false_and, and_false, and_self, true_implies, false_implies, implies_true, Option.toList_some, Option.toList_none, List.cons_append, List.nil_append, Nat.add_eq_zero_iff, a_nl_i, a_nl_r, a_nl_n, true_or, or_true, eq_self, ok_4, ok_5, ok_6, ok_7, ok_9, ok_10, ok_20, ok_21, ok_24, ok_30, ok_48, ok_50, ok_60, ok_80, ok_120, ok_180, ok_192, ok_200, ok_900, ok_1000, ok_84000]
  all_goals grind [ui_ap]
theorem ct_lostIn (hS : m_S M K L R) (hR : mR M I) {s k : Int32} (hs : -1000 ≤ s ∧ s ≤ 1000) (hP : ∀ v, (0 ≤ v ∧ v ≤ 8) → P (some (.int v)) (n, t, K, L, I, R)) : a_does (d + 1) 177 [a_rf M, .int s, .int k] (n, t, K, L, I, R) P := by
  rw [a_enter1 (M := a_m177) rfl (a_cat_rf (a_cat_int (a_cat_int a_cat_nil))) (show 3 ≤ 7 by decide)]
  show a_at _ (a_xm a_m177) 0 [some (a_rf M), some (.int s), some (.int k), none, none, none, none] [] _ _
  repeat' first
    | with_reducible apply And.intro
    | with_reducible assumption
    | with_reducible intro _
    | with_reducible apply lp_lostIn_8 hS hR hs hP
    | simp only [q177_0, q177_1, q177_2, q177_4, q177_5, q177_6, q177_10, q177_12, q177_13, q177_14, q177_16, q177_17, q177_20, q177_21, q177_23, q177_24, q177_28, q177_29, q177_32, q177_35, q177_37, q177_40, q177_41, q177_44, q177_46, q177_47, q177_48, q177_51, q177_53, q177_54, q177_57, q177_59, q177_60, q177_63, q177_65, q177_66, q177_69, q177_71, q177_72, q177_73, q177_76, q177_78, q177_79, q177_80, q177_83, q177_84, q177_87, q177_88, q177_90, q177_93, q177_96, q177_97, q177_99, q177_102, q177_103, q177_106, q177_107, q177_108, q177_109, q177_112, q177_115, q177_116, m_0 hS, m_K hS, mR_tFound hS, mK_tFound hS, mL_tFound hS, mR_tHour hS, mK_tHour hS, mL_tHour hS, mR_tMany hS, mK_tMany hS, mL_tMany hS, as_nil, as_i, as_r, Nat.reduceAdd, Nat.reduceLeDiff, z_eq0, z_eq1, z_or, z_em, Classical.not_not, not_false_eq_true, not_true_eq_false, true_and, and_true, false_and, and_false, and_self, true_implies, false_implies, implies_true, Option.toList_some, Option.toList_none, List.cons_append, List.nil_append, Nat.add_eq_zero_iff, a_nl_i, a_nl_r, a_nl_n, true_or, or_true, eq_self, ok_4, ok_5, ok_6, ok_7, ok_9, ok_10, ok_20, ok_21, ok_24, ok_30, ok_48, ok_50, ok_60, ok_80, ok_120, ok_180, ok_192, ok_200, ok_900, ok_1000, ok_84000]
  all_goals grind [ui_ap]
theorem lp_lossOf_4 (hS : m_S M K L R) (hR : mR M I) {a : Int32} (ha : 0 ≤ a ∧ a < 30) (hP : ∀ v, (0 ≤ v ∧ v ≤ 32) → P (some (.int v)) (n, t, K, L, I, R)) : ∀ i : Int32, i ≤ 4 → ∀ b, 0 ≤ i → (0 ≤ b ∧ b ≤ 8 * i) → a_at (d + 1) (a_xm a_m189) 4 [some (a_rf M), some (.int a), some (.int b), some (.int i)] [] (n, t, K, L, I, R) P := by
  refine up_ind 4 (fun i hi ih => ?_)
  intro b h0 hb
  have g1 := rg_length hR
  have g2 := rg_atShift hR
  rw [q189_4]
  repeat' first
    | with_reducible apply And.intro
    | with_reducible assumption
    | with_reducible intro _
    | with_reducible apply ih
    | with_reducible apply hP
    | with_reducible apply ct_lostIn hS hR
    | simp only [q189_0, q189_1, q189_2, q189_3, q189_5, q189_6, q189_9, q189_10, q189_11, q189_14, q189_15, q189_16, q189_19, q189_22, q189_23, q189_24, q189_25, q189_28, q189_29, q189_30, q189_31, q189_32, q189_33, q189_36, q189_39, q189_40, q189_41, q189_44, q189_47, q189_48, m_0 hS, m_K hS, mR_length hS, mK_length hS, mL_length hS, mR_atShift hS, mK_atShift hS, mL_atShift hS, sp_hasPlace hS, as_nil, as_i, as_r, Nat.reduceAdd, Nat.reduceLeDiff, z_eq0, z_eq1, z_or, z_em, Classical.not_not, not_false_eq_true, not_true_eq_false, true_and, and_true, false_and, and_false, and_self, true_implies, false_implies, implies_true, Option.toList_some, Option.toList_none, List.cons_append, List.nil_append, Nat.add_eq_zero_iff, a_nl_i, a_nl_r, a_nl_n, true_or, or_true, eq_self, ok_4, ok_5, ok_6, ok_7, ok_9, ok_10, ok_20, ok_21, ok_24, ok_30, ok_48, ok_50, ok_60, ok_80, ok_120, ok_180, ok_192, ok_200, ok_900, ok_1000, ok_84000]
  all_goals grind [ui_ap]
theorem ct_lossOf (hS : m_S M K L R) (hR : mR M I) {a : Int32} (ha : 0 ≤ a ∧ a < 30) (hP : ∀ v, (0 ≤ v ∧ v ≤ 32) → P (some (.int v)) (n, t, K, L, I, R)) : a_does (d + 2) 189 [a_rf M, .int a] (n, t, K, L, I, R) P := by
  rw [a_enter1 (M := a_m189) rfl (a_cat_rf (a_cat_int a_cat_nil)) (show 2 ≤ 4 by decide)]
  show a_at _ (a_xm a_m189) 0 [some (a_rf M), some (.int a), none, none] [] _ _
  repeat' first
    | with_reducible apply And.intro
    | with_reducible assumption
    | with_reducible intro _
    | with_reducible apply lp_lossOf_4 hS hR ha hP
    | simp only [q189_0, q189_1, q189_2, q189_3, q189_5, q189_6, q189_9, q189_10, q189_11, q189_14, q189_15, q189_16, q189_19, q189_22, q189_23, q189_24, q189_25, q189_28, q189_29, q189_30, q189_31, q189_32, q189_33, q189_36, q189_39, q189_40, q189_41, q189_44, q189_47, q189_48, m_0 hS, m_K hS, mR_length hS, mK_length hS, mL_length hS, mR_atShift hS, mK_atShift hS, mL_atShift hS, sp_hasPlace hS, as_nil, as_i, as_r, Nat.reduceAdd, Nat.reduceLeDiff, z_eq0, z_eq1, z_or, z_em, Classical.not_not, not_false_eq_true, not_true_eq_false, true_and, and_true, false_and, and_false, and_self, true_implies, false_implies, implies_true, Option.toList_some, Option.toList_none, List.cons_append, List.nil_append, Nat.add_eq_zero_iff, a_nl_i, a_nl_r, a_nl_n, true_or, or_true, eq_self, ok_4, ok_5, ok_6, ok_7, ok_9, ok_10, ok_20, ok_21, ok_24, ok_30, ok_48, ok_50, ok_60, ok_80, ok_120, ok_180, ok_192, ok_200, ok_900, ok_1000, ok_84000]
  all_goals grind [ui_ap]
theorem lp_freeHosts_18 (hS : m_S M K L R) (hR : mR M I) {a b s o : Int32} (ho : 0 ≤ o ∧ o < 30) (hC : ∀ y i w, a_at (d + 1) (a_xm a_m225) 6 [some (a_rf M), some (.int a), some (.int b), some (.int s), some (.int y), some (.int (o + 1)), some (.int i), w] [] (n, t, K, L, I, R) P) : ∀ i : Int32, i ≤ 4 → ∀ y w, 0 ≤ i → a_at (d + 1) (a_xm a_m225) 18 [some (a_rf M), some (.int a), some (.int b), some (.int s), some (.int y), some (.int o), some (.int i), w] [] (n, t, K, L, I, R) P := by
  refine up_ind 4 (fun i hi ih => ?_)
  intro y w h0
  have g1 := rg_length hR
  rw [q225_18]
  repeat' first
    | with_reducible apply And.intro
    | with_reducible assumption
    | with_reducible intro _
    | with_reducible apply ih
    | with_reducible apply hC
    | simp only [q225_0, q225_1, q225_3, q225_4, q225_8, q225_9, q225_12, q225_15, q225_16, q225_20, q225_21, q225_24, q225_26, q225_27, q225_30, q225_31, q225_33, q225_36, q225_39, q225_41, q225_42, q225_45, q225_46, q225_49, q225_51, q225_52, q225_54, q225_55, q225_56, q225_57, q225_59, q225_61, q225_63, q225_64, q225_67, q225_70, q225_72, q225_73, q225_76, q225_77, q225_80, q225_81, q225_84, q225_85, q225_87, q225_88, q225_90, q225_91, q225_92, q225_95, q225_96, q225_97, q225_99, q225_102, q225_105, q225_108, q225_111, q225_112, q225_115, q225_116, q225_117, q225_119, q225_120, q225_121, q225_122, m_0 hS, m_K hS, mR_length hS, mK_length hS, mL_length hS, mR_atShift hS, mK_atShift hS, mL_atShift hS, mR_standing hS, mK_standing hS, mL_standing hS, mR_hostsOf hS, mK_hostsOf hS, mL_hostsOf hS, sp_hasPlace hS, as_nil, as_i, as_r, Nat.reduceAdd, Nat.reduceLeDiff, z_eq0, z_eq1, z_or, z_em, Classical.not_not, not_false_eq_true, not_true_eq_false, true_and, and_true, false_and, and_false, and_self, true_implies, false_implies, implies_true, Option.toList_some, Option.toList_none, List.cons_append, List.nil_append, Nat.add_eq_zero_iff, a_nl_i, a_nl_r, a_nl_n, true_or, or_true, eq_self, ok_4, ok_5, ok_6, ok_7, ok_9, ok_10, ok_20, ok_21, ok_24, ok_30, ok_48, ok_50, ok_60, ok_80, ok_120, ok_180, ok_192, ok_200, ok_900, ok_1000, ok_84000]
  all_goals grind [ui_ap]
theorem lp_freeHosts_6 (hS : m_S M K L R) (hR : mR M I) {a b s : Int32} (hb : 0 ≤ b ∧ b ≤ 5) (hP : ∀ v, P (some (.int v)) (n, t, K, L, I, R)) : ∀ o : Int32, o ≤ 30 → ∀ y i w, 0 ≤ o → a_at (d + 1) (a_xm a_m225) 6 [some (a_rf M), some (.int a), some (.int b), some (.int s), some (.int y), some (.int o), i, w] [] (n, t, K, L, I, R) P := by
  refine up_ind 30 (fun o ho ih => ?_)
  intro y i w h0
  have g1 := rg_asks hR
  rw [q225_6]
  repeat' first
    | with_reducible apply And.intro
    | with_reducible assumption
    | with_reducible intro _
    | with_reducible apply ih
    | with_reducible apply hP
    | with_reducible apply lp_freeHosts_18 hS hR
    | simp only [q225_0, q225_1, q225_3, q225_4, q225_8, q225_9, q225_12, q225_15, q225_16, q225_20, q225_21, q225_24, q225_26, q225_27, q225_30, q225_31, q225_33, q225_36, q225_39, q225_41, q225_42, q225_45, q225_46, q225_49, q225_51, q225_52, q225_54, q225_55, q225_56, q225_57, q225_59, q225_61, q225_63, q225_64, q225_67, q225_70, q225_72, q225_73, q225_76, q225_77, q225_80, q225_81, q225_84, q225_85, q225_87, q225_88, q225_90, q225_91, q225_92, q225_95, q225_96, q225_97, q225_99, q225_102, q225_105, q225_108, q225_111, q225_112, q225_115, q225_116, q225_117, q225_119, q225_120, q225_121, q225_122, m_0 hS, m_K hS, mR_length hS, mK_length hS, mL_length hS, mR_atShift hS, mK_atShift hS, mL_atShift hS, mR_standing hS, mK_standing hS, mL_standing hS, mR_hostsOf hS, mK_hostsOf hS, mL_hostsOf hS, sp_hasPlace hS, as_nil, as_i, as_r, Nat.reduceAdd, Nat.reduceLeDiff, z_eq0, z_eq1, z_or, z_em, Classical.not_not, not_false_eq_true, not_true_eq_false, true_and, and_true, false_and, and_false, and_self, true_implies, false_implies, implies_true, Option.toList_some, Option.toList_none, List.cons_append, List.nil_append, Nat.add_eq_zero_iff, a_nl_i, a_nl_r, a_nl_n, true_or, or_true, eq_self, ok_4, ok_5, ok_6, ok_7, ok_9, ok_10, ok_20, ok_21, ok_24, ok_30, ok_48, ok_50, ok_60, ok_80, ok_120, ok_180, ok_192, ok_200, ok_900, ok_1000, ok_84000]
  all_goals grind [ui_ap]
theorem ct_freeHosts (hS : m_S M K L R) (hR : mR M I) {a b s : Int32} (hb : 0 ≤ b ∧ b ≤ 5) (hP : ∀ v, P (some (.int v)) (n, t, K, L, I, R)) : a_does (d + 2) 225 [a_rf M, .int a, .int b, .int s] (n, t, K, L, I, R) P := by
  rw [a_enter1 (M := a_m225) rfl (a_cat_rf (a_cat_int (a_cat_int (a_cat_int a_cat_nil)))) (show 4 ≤ 8 by decide)]
  show a_at _ (a_xm a_m225) 0 [some (a_rf M), some (.int a), some (.int b), some (.int s), none, none, none, none] [] _ _
  repeat' first
    | with_reducible apply And.intro
    | with_reducible assumption
    | with_reducible intro _
    | with_reducible apply lp_freeHosts_6 hS hR hb hP
    | simp only [q225_0, q225_1, q225_3, q225_4, q225_8, q225_9, q225_12, q225_15, q225_16, q225_20, q225_21, q225_24, q225_26, q225_27, q225_30, q225_31, q225_33, q225_36, q225_39, q225_41, q225_42, q225_45, q225_46, q225_49, q225_51, q225_52, q225_54, q225_55, q225_56, q225_57, q225_59, q225_61, q225_63, q225_64, q225_67, q225_70, q225_72, q225_73, q225_76, q225_77, q225_80, q225_81, q225_84, q225_85, q225_87, q225_88, q225_90, q225_91, q225_92, q225_95, q225_96, q225_97, q225_99, q225_102, q225_105, q225_108, q225_111, q225_112, q225_115, q225_116, q225_117, q225_119, q225_120, q225_121, q225_122, m_0 hS, m_K hS, mR_length hS, mK_length hS, mL_length hS, mR_atShift hS, mK_atShift hS, mL_atShift hS, mR_standing hS, mK_standing hS, mL_standing hS, mR_hostsOf hS, mK_hostsOf hS, mL_hostsOf hS, sp_hasPlace hS, as_nil, as_i, as_r, Nat.reduceAdd, Nat.reduceLeDiff, z_eq0, z_eq1, z_or, z_em, Classical.not_not, not_false_eq_true, not_true_eq_false, true_and, and_true, false_and, and_false, and_self, true_implies, false_implies, implies_true, Option.toList_some, Option.toList_none, List.cons_append, List.nil_append, Nat.add_eq_zero_iff, a_nl_i, a_nl_r, a_nl_n, true_or, or_true, eq_self, ok_4, ok_5, ok_6, ok_7, ok_9, ok_10, ok_20, ok_21, ok_24, ok_30, ok_48, ok_50, ok_60, ok_80, ok_120, ok_180, ok_192, ok_200, ok_900, ok_1000, ok_84000]
  all_goals grind [ui_ap]
theorem ct_isTooNear (hS : m_S M K L R) (hR : mR M I) {a f : Int32} (ha : 0 ≤ a ∧ a < 30) (hP : ∀ v, P (some (.int v)) (n, t, K, L, I, R)) : a_does (d + 2) 228 [a_rf M, .int a, .int f] (n, t, K, L, I, R) P := by
  have g1 := rg_tied hR a.toNatClampNeg
  rw [a_enter1 (M := a_m228) rfl (a_cat_rf (a_cat_int (a_cat_int a_cat_nil))) (show 3 ≤ 4 by decide)]
  show a_at _ (a_xm a_m228) 0 [some (a_rf M), some (.int a), some (.int f), none] [] _ _
  repeat' first
    | with_reducible apply And.intro
    | with_reducible assumption
    | with_reducible intro _
    | with_reducible apply hP
    | simp only [q228_0, q228_1, q228_4, q228_5, q228_6, q228_7, q228_10, q228_11, q228_12, q228_13, q228_16, q228_17, q228_18, q228_19, q228_20, q228_21, q228_24, q228_27, q228_28, q228_29, q228_32, q228_33, q228_34, q228_35, q228_38, q228_39, q228_40, q228_41, q228_42, q228_43, q228_44, q228_45, q228_46, q228_47, q228_50, q228_51, q228_52, q228_55, q228_56, q228_59, q228_60, m_0 hS, m_K hS, mR_kind hS, mK_kind hS, mL_kind hS, mR_xOf hS, mK_xOf hS, mL_xOf hS, mR_atShift hS, mK_atShift hS, mL_atShift hS, mR_length hS, mK_length hS, mL_length hS, mR_yOf hS, mK_yOf hS, mL_yOf hS, sp_hasPlace hS, as_nil, as_i, as_r, Nat.reduceAdd, Nat.reduceLeDiff, z_eq0, z_eq1, z_or, z_em, Classical.not_not, not_false_eq_true, not_true_eq_false, true_and, and_true, false_and, and_false, and_self, true_implies, false_implies, implies_true, Option.toList_some, Option.toList_none, List.cons_append, List.nil_append, Nat.add_eq_zero_iff, a_nl_i, a_nl_r, a_nl_n, true_or, or_true, eq_self, ok_4, ok_5, ok_6, ok_7, ok_9, ok_10, ok_20, ok_21, ok_24, ok_30, ok_48, ok_50, ok_60, ok_80, ok_120, ok_180, ok_192, ok_200, ok_900, ok_1000, ok_84000]
  all_goals grind [ui_ap]
theorem lp_isWithinShare_23 (hS : m_S M K L R) (hR : mR M I) {a f e : Int32} (ha : 0 ≤ a ∧ a < 30) (hP : ∀ v, P (some (.int v)) (n, t, K, L, I, R)) : ∀ o : Int32, o ≤ 30 → ∀ y l, 0 ≤ o → a_at (d + 1) (a_xm a_m239) 23 [some (a_rf M), some (.int a), some (.int f), some (.int e), some (.int y), some (.int o), l] [] (n, t, K, L, I, R) P := by
  refine up_ind 30 (fun o ho ih => ?_)
  intro y l h0
  have g1 := rg_asks hR
  rw [q239_23]
  repeat' first
    | with_reducible apply And.intro
    | with_reducible assumption
    | with_reducible intro _
    | with_reducible apply ih
    | with_reducible apply hP
    | simp only [q239_0, q239_1, q239_4, q239_5, q239_6, q239_7, q239_10, q239_11, q239_12, q239_13, q239_16, q239_17, q239_18, q239_20, q239_21, q239_25, q239_26, q239_29, q239_32, q239_34, q239_35, q239_38, q239_39, q239_41, q239_44, q239_47, q239_48, q239_51, q239_53, q239_54, q239_55, q239_58, q239_59, q239_62, q239_64, q239_65, q239_66, q239_69, q239_70, q239_71, q239_74, q239_75, q239_78, q239_80, q239_81, q239_82, q239_83, q239_86, q239_89, q239_90, q239_93, q239_95, q239_96, q239_97, q239_100, q239_102, q239_103, q239_104, q239_105, q239_106, q239_108, q239_110, q239_112, q239_113, q239_116, q239_118, q239_121, q239_122, q239_123, q239_126, q239_128, q239_129, q239_130, q239_131, q239_132, q239_133, q239_135, q239_138, q239_141, q239_143, q239_144, q239_147, q239_148, q239_151, q239_152, q239_153, q239_154, q239_155, q239_156, q239_157, q239_158, q239_160, q239_161, q239_164, q239_165, q239_168, q239_169, m_0 hS, m_K hS, mR_kind hS, mK_kind hS, mL_kind hS, mR_length hS, mK_length hS, mL_length hS, mR_land hS, mK_land hS, mL_land hS, mR_atShift hS, mK_atShift hS, mL_atShift hS, sp_hasPlace hS, sp_in, as_nil, as_i, as_r, Nat.reduceAdd, Nat.reduceLeDiff, z_eq0, z_eq1, z_or, z_em, Classical.not_not, not_false_eq_true, not_true_eq_false, true_and, and_true, false_and, and_false, and_self, true_implies, false_implies, implies_true, Option.toList_some, Option.toList_none, List.cons_append, List.nil_append, Nat.add_eq_zero_iff, a_nl_i, a_nl_r, a_nl_n, true_or, or_true, eq_self, ok_4, ok_5, ok_6, ok_7, ok_9, ok_10, ok_20, ok_21, ok_24, ok_30, ok_48, ok_50, ok_60, ok_80, ok_120, ok_180, ok_192, ok_200, ok_900, ok_1000, ok_84000]
  all_goals grind [ui_ap]
theorem ct_isWithinShare (hS : m_S M K L R) (hR : mR M I) {a f e : Int32} (ha : 0 ≤ a ∧ a < 30) (hP : ∀ v, P (some (.int v)) (n, t, K, L, I, R)) : a_does (d + 2) 239 [a_rf M, .int a, .int f, .int e] (n, t, K, L, I, R) P := by
  rw [a_enter1 (M := a_m239) rfl (a_cat_rf (a_cat_int (a_cat_int (a_cat_int a_cat_nil)))) (show 4 ≤ 7 by decide)]
  show a_at _ (a_xm a_m239) 0 [some (a_rf M), some (.int a), some (.int f), some (.int e), none, none, none] [] _ _
  repeat' first
    | with_reducible apply And.intro
    | with_reducible assumption
    | with_reducible intro _
    | with_reducible apply hP
    | with_reducible apply lp_isWithinShare_23 hS hR ha hP
    | simp only [q239_0, q239_1, q239_4, q239_5, q239_6, q239_7, q239_10, q239_11, q239_12, q239_13, q239_16, q239_17, q239_18, q239_20, q239_21, q239_25, q239_26, q239_29, q239_32, q239_34, q239_35, q239_38, q239_39, q239_41, q239_44, q239_47, q239_48, q239_51, q239_53, q239_54, q239_55, q239_58, q239_59, q239_62, q239_64, q239_65, q239_66, q239_69, q239_70, q239_71, q239_74, q239_75, q239_78, q239_80, q239_81, q239_82, q239_83, q239_86, q239_89, q239_90, q239_93, q239_95, q239_96, q239_97, q239_100, q239_102, q239_103, q239_104, q239_105, q239_106, q239_108, q239_110, q239_112, q239_113, q239_116, q239_118, q239_121, q239_122, q239_123, q239_126, q239_128, q239_129, q239_130, q239_131, q239_132, q239_133, q239_135, q239_138, q239_141, q239_143, q239_144, q239_147, q239_148, q239_151, q239_152, q239_153, q239_154, q239_155, q239_156, q239_157, q239_158, q239_160, q239_161, q239_164, q239_165, q239_168, q239_169, m_0 hS, m_K hS, mR_kind hS, mK_kind hS, mL_kind hS, mR_length hS, mK_length hS, mL_length hS, mR_land hS, mK_land hS, mL_land hS, mR_atShift hS, mK_atShift hS, mL_atShift hS, sp_hasPlace hS, sp_in, as_nil, as_i, as_r, Nat.reduceAdd, Nat.reduceLeDiff, z_eq0, z_eq1, z_or, z_em, Classical.not_not, not_false_eq_true, not_true_eq_false, true_and, and_true, false_and, and_false, and_self, true_implies, false_implies, implies_true, Option.toList_some, Option.toList_none, List.cons_append, List.nil_append, Nat.add_eq_zero_iff, a_nl_i, a_nl_r, a_nl_n, true_or, or_true, eq_self, ok_4, ok_5, ok_6, ok_7, ok_9, ok_10, ok_20, ok_21, ok_24, ok_30, ok_48, ok_50, ok_60, ok_80, ok_120, ok_180, ok_192, ok_200, ok_900, ok_1000, ok_84000]
  all_goals grind [ui_ap]
theorem lp_hadAt_7 (hS : m_S M K L R) (hR : mR M I) {b s k : Int32} (hP : ∀ v, P (some (.int v)) (n, t, K, L, I, R)) : ∀ e : Int32, e ≤ 84000 → ∀ y, 0 ≤ e → a_at d (a_xm a_m257) 7 [some (a_rf M), some (.int b), some (.int s), some (.int k), some (.int y), some (.int e)] [] (n, t, K, L, I, R) P := by
  refine up_ind 84000 (fun e he ih => ?_)
  intro y h0
  have g1 := rg_events hR
  rw [q257_7]
  repeat' first
    | with_reducible apply And.intro
    | with_reducible assumption
    | with_reducible intro _
    | with_reducible apply ih
    | with_reducible apply hP
    | simp only [q257_0, q257_2, q257_4, q257_5, q257_9, q257_10, q257_13, q257_16, q257_17, q257_20, q257_22, q257_23, q257_26, q257_27, q257_28, q257_29, q257_30, q257_33, q257_34, q257_37, q257_39, q257_40, q257_41, q257_44, q257_45, q257_48, q257_50, q257_51, q257_54, q257_56, q257_58, q257_61, q257_64, q257_66, m_0 hS, m_K hS, mR_eWhere hS, mK_eWhere hS, mL_eWhere hS, mR_eHour hS, mK_eHour hS, mL_eHour hS, mR_eAsk hS, mK_eAsk hS, mL_eAsk hS, as_nil, as_i, as_r, Nat.reduceAdd, Nat.reduceLeDiff, z_eq0, z_eq1, z_or, z_em, Classical.not_not, not_false_eq_true, not_true_eq_false, true_and, and_true, false_and, and_false, and_self, true_implies, false_implies, implies_true, Option.toList_some, Option.toList_none, List.cons_append, List.nil_append, Nat.add_eq_zero_iff, a_nl_i, a_nl_r, a_nl_n, true_or, or_true, eq_self, ok_4, ok_5, ok_6, ok_7, ok_9, ok_10, ok_20, ok_21, ok_24, ok_30, ok_48, ok_50, ok_60, ok_80, ok_120, ok_180, ok_192, ok_200, ok_900, ok_1000, ok_84000]
  all_goals grind [ui_ap]
theorem ct_hadAt (hS : m_S M K L R) (hR : mR M I) {b s k : Int32} (hP : ∀ v, P (some (.int v)) (n, t, K, L, I, R)) : a_does (d + 1) 257 [a_rf M, .int b, .int s, .int k] (n, t, K, L, I, R) P := by
  rw [a_enter1 (M := a_m257) rfl (a_cat_rf (a_cat_int (a_cat_int (a_cat_int a_cat_nil)))) (show 4 ≤ 6 by decide)]
  show a_at _ (a_xm a_m257) 0 [some (a_rf M), some (.int b), some (.int s), some (.int k), none, none] [] _ _
  repeat' first
    | with_reducible apply And.intro
    | with_reducible assumption
    | with_reducible intro _
    | with_reducible apply lp_hadAt_7 hS hR hP
    | simp only [q257_0, q257_2, q257_4, q257_5, q257_9, q257_10, q257_13, q257_16, q257_17, q257_20, q257_22, q257_23, q257_26, q257_27, q257_28, q257_29, q257_30, q257_33, q257_34, q257_37, q257_39, q257_40, q257_41, q257_44, q257_45, q257_48, q257_50, q257_51, q257_54, q257_56, q257_58, q257_61, q257_64, q257_66, m_0 hS, m_K hS, mR_eWhere hS, mK_eWhere hS, mL_eWhere hS, mR_eHour hS, mK_eHour hS, mL_eHour hS, mR_eAsk hS, mK_eAsk hS, mL_eAsk hS, as_nil, as_i, as_r, Nat.reduceAdd, Nat.reduceLeDiff, z_eq0, z_eq1, z_or, z_em, Classical.not_not, not_false_eq_true, not_true_eq_false, true_and, and_true, false_and, and_false, and_self, true_implies, false_implies, implies_true, Option.toList_some, Option.toList_none, List.cons_append, List.nil_append, Nat.add_eq_zero_iff, a_nl_i, a_nl_r, a_nl_n, true_or, or_true, eq_self, ok_4, ok_5, ok_6, ok_7, ok_9, ok_10, ok_20, ok_21, ok_24, ok_30, ok_48, ok_50, ok_60, ok_80, ok_120, ok_180, ok_192, ok_200, ok_900, ok_1000, ok_84000]
  all_goals grind [ui_ap]
theorem ct_goesAhead (hS : m_S M K L R) (hR : mR M I) {a b : Int32} (ha : 0 ≤ a ∧ a < 30) (hb : 0 ≤ b ∧ b < 30) (hP : ∀ v, P (some (.int v)) (n, t, K, L, I, R)) : a_does (d + 3) 237 [a_rf M, .int a, .int b] (n, t, K, L, I, R) P := by
  rw [a_enter1 (M := a_m237) rfl (a_cat_rf (a_cat_int (a_cat_int a_cat_nil))) (show 3 ≤ 5 by decide)]
  show a_at _ (a_xm a_m237) 0 [some (a_rf M), some (.int a), some (.int b), none, none] [] _ _
  repeat' first
    | with_reducible apply And.intro
    | with_reducible assumption
    | with_reducible intro _
    | with_reducible apply hP
    | with_reducible apply ct_markFor hS hR ha
    | with_reducible apply ct_markFor hS hR hb
    | simp only [q237_0, q237_1, q237_4, q237_5, q237_6, q237_7, q237_10, q237_11, q237_14, q237_15, q237_18, q237_19, q237_20, q237_21, q237_24, q237_25, q237_28, q237_29, q237_30, q237_31, q237_34, q237_35, q237_36, q237_37, q237_40, q237_41, q237_44, q237_45, q237_48, q237_49, q237_50, q237_51, q237_54, q237_55, q237_58, q237_59, q237_61, q237_62, q237_64, q237_67, q237_68, q237_70, q237_73, q237_74, q237_77, q237_78, q237_79, q237_80, q237_81, q237_84, q237_85, q237_86, q237_89, q237_92, q237_93, q237_94, q237_97, q237_98, q237_99, q237_102, q237_105, q237_106, q237_109, q237_110, q237_113, q237_114, q237_115, q237_118, q237_119, q237_122, q237_123, m_0 hS, m_K hS, mR_kind hS, mK_kind hS, mL_kind hS, as_nil, as_i, as_r, Nat.reduceAdd, Nat.reduceLeDiff, z_eq0, z_eq1, z_or, z_em, Classical.not_not, not_false_eq_true, not_true_eq_false, true_and, and_true, false_and, and_false, and_self, true_implies, false_implies, implies_true, Option.toList_some, Option.toList_none, List.cons_append, List.nil_append, Nat.add_eq_zero_iff, a_nl_i, a_nl_r, a_nl_n, true_or, or_true, eq_self, ok_4, ok_5, ok_6, ok_7, ok_9, ok_10, ok_20, ok_21, ok_24, ok_30, ok_48, ok_50, ok_60, ok_80, ok_120, ok_180, ok_192, ok_200, ok_900, ok_1000, ok_84000]
  all_goals grind [ui_ap]
end RP

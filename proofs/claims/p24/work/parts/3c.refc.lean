/-! public methods 2 -/
section SC
variable {d n t M c : Nat} {K L : Nat → Nat} {I I0 J J0 J1 J2 : Nat → Nat → Int32} {R : Nat → Nat → Nat} {P : Option Value → AH → Prop}
theorem cl_le {i : Int32} (h0 : 0 ≤ i) (h : i ≤ 30) : i.toNatClampNeg ≤ 30 := by
  by_cases hi : i = 30
  · subst hi; decide
  · exact Nat.le_of_lt (show i.toNatClampNeg < (30 : Int32).toNatClampNeg from cl_lt h0 (by grind))
theorem lp_mark_27 (hS : m_S M K L R) {r a v : Int32} (ha : 0 ≤ a ∧ a < 30) (hN : ∀ s o, a_at d (a_xm a_m215) 65 [some (a_rf M), some (.int r), some (.int a), some (.int v), some (.int s), some (.int o)] [] (n, t, K, L, I, R) P) : ∀ o : Int32, o ≤ 6 → ∀ s, 0 ≤ o → a_at d (a_xm a_m215) 27 [some (a_rf M), some (.int r), some (.int a), some (.int v), some (.int s), some (.int o)] [] (n, t, K, L, I, R) P := by
  refine up_ind 6 (fun o ho ih => ?_)
  intro s h0
  rw [q215_27]
  repeat' first
    | with_reducible apply And.intro
    | with_reducible assumption
    | with_reducible intro _
    | with_reducible apply ih
    | with_reducible apply hN
    | simp only [q215_29, q215_31, q215_34, q215_36, q215_37, q215_40, q215_42, q215_44, q215_45, q215_46, q215_47, q215_48, q215_51, q215_52, q215_55, q215_56, q215_57, q215_59, q215_62, m_0 hS, m_K hS, mR_isMarked hS, mK_isMarked hS, mL_isMarked hS, as_nil, as_i, as_r, Nat.reduceAdd, Nat.reduceLeDiff, z_eq0, z_eq1, z_or, z_em, Classical.not_not, not_false_eq_true, not_true_eq_false, true_and, and_true, false_and, and_false, and_self, true_implies, false_implies, implies_true, Option.toList_some, Option.toList_none, List.cons_append, List.nil_append, Nat.add_eq_zero_iff, a_nl_i, a_nl_r, a_nl_n, true_or, or_true, eq_self, ok_4, ok_5, ok_6, ok_7, ok_9, ok_10, ok_20, ok_21, ok_24, ok_30, ok_48, ok_50, ok_60, ok_80, ok_120, ok_180, ok_192, ok_200, ok_900, ok_1000, ok_84000]
  all_goals grind [ui_ap]
theorem lp_hosts_26 (hS : m_S M K L R) (hR : mR M I) {b s : Int32} (hP : ∀ v, P (some (.int v)) (n, t, K, L, I, R)) : ∀ a : Int32, a ≤ 30 → ∀ e, 0 ≤ a → a_at (d + 2) (a_xm a_m245) 26 [some (a_rf M), some (.int b), some (.int s), some (.int e), some (.int a)] [] (n, t, K, L, I, R) P := by
  refine up_ind 30 (fun a ha ih => ?_)
  intro e h0
  have g1 := rg_asks hR
  have g2 := rg_length hR a.toNatClampNeg
  have g4 := rg_atShift hR a.toNatClampNeg
  rw [q245_26]
  repeat' first
    | with_reducible apply And.intro
    | with_reducible assumption
    | with_reducible intro _
    | with_reducible apply ih
    | with_reducible apply hP
    | simp only [q245_28, q245_29, q245_32, q245_35, q245_36, q245_37, q245_39, q245_40, q245_41, q245_44, q245_47, q245_48, q245_51, q245_52, q245_54, q245_55, q245_56, q245_57, q245_58, q245_61, q245_63, q245_64, q245_65, q245_66, q245_69, q245_70, q245_71, q245_72, q245_75, q245_78, q245_79, m_0 hS, m_K hS, mR_standing hS, mK_standing hS, mL_standing hS, mR_atShift hS, mK_atShift hS, mL_atShift hS, sp_holdsAt hS, as_nil, as_i, as_r, Nat.reduceAdd, Nat.reduceLeDiff, z_eq0, z_eq1, z_or, z_em, Classical.not_not, not_false_eq_true, not_true_eq_false, true_and, and_true, false_and, and_false, and_self, true_implies, false_implies, implies_true, Option.toList_some, Option.toList_none, List.cons_append, List.nil_append, Nat.add_eq_zero_iff, a_nl_i, a_nl_r, a_nl_n, true_or, or_true, eq_self, ok_4, ok_5, ok_6, ok_7, ok_9, ok_10, ok_20, ok_21, ok_24, ok_30, ok_48, ok_50, ok_60, ok_80, ok_120, ok_180, ok_192, ok_200, ok_900, ok_1000, ok_84000]
  all_goals grind [ui_ap]
theorem lp_count_69 (hS : m_S M K L R) (hR : mR M I) {w : Int32} (hP : ∀ v, P (some (.int v)) (n, t, K, L, I, R)) : ∀ a : Int32, a ≤ 30 → ∀ e, 0 ≤ a → a_at (d + 2) (a_xm a_m261) 69 [some (a_rf M), some (.int w), some (.int e), some (.int a)] [] (n, t, K, L, I, R) P := by
  refine up_ind 30 (fun a ha ih => ?_)
  intro e h0
  have g1 := rg_asks hR
  rw [q261_69]
  repeat' first
    | with_reducible apply And.intro
    | with_reducible assumption
    | with_reducible intro _
    | with_reducible apply ih
    | with_reducible apply hP
    | simp only [q261_70, q261_71, q261_74, q261_77, q261_78, q261_79, q261_80, q261_83, q261_86, q261_87, q261_90, q261_91, q261_92, q261_93, q261_96, q261_99, q261_100, m_0 hS, m_K hS, sp_hasPlace hS, as_nil, as_i, as_r, Nat.reduceAdd, Nat.reduceLeDiff, z_eq0, z_eq1, z_or, z_em, Classical.not_not, not_false_eq_true, not_true_eq_false, true_and, and_true, false_and, and_false, and_self, true_implies, false_implies, implies_true, Option.toList_some, Option.toList_none, List.cons_append, List.nil_append, Nat.add_eq_zero_iff, a_nl_i, a_nl_r, a_nl_n, true_or, or_true, eq_self, ok_4, ok_5, ok_6, ok_7, ok_9, ok_10, ok_20, ok_21, ok_24, ok_30, ok_48, ok_50, ok_60, ok_80, ok_120, ok_180, ok_192, ok_200, ok_900, ok_1000, ok_84000]
  all_goals grind [ui_ap]
theorem lp_count_113 (hS : m_S M K L R) (hR : mR M I) {w : Int32} (hP : ∀ v, P (some (.int v)) (n, t, K, L, I, R)) : ∀ a : Int32, a ≤ 30 → ∀ e, 0 ≤ a → a_at (d + 2) (a_xm a_m261) 113 [some (a_rf M), some (.int w), some (.int e), some (.int a)] [] (n, t, K, L, I, R) P := by
  refine up_ind 30 (fun a ha ih => ?_)
  intro e h0
  have g1 := rg_asks hR
  rw [q261_113]
  repeat' first
    | with_reducible apply And.intro
    | with_reducible assumption
    | with_reducible intro _
    | with_reducible apply ih
    | with_reducible apply hP
    | simp only [q261_114, q261_115, q261_118, q261_121, q261_122, q261_123, q261_124, q261_127, q261_130, q261_131, q261_134, q261_135, q261_136, q261_139, q261_140, q261_141, q261_142, q261_145, q261_148, q261_149, m_0 hS, m_K hS, mR_length hS, mK_length hS, mL_length hS, sp_hasPlace hS, as_nil, as_i, as_r, Nat.reduceAdd, Nat.reduceLeDiff, z_eq0, z_eq1, z_or, z_em, Classical.not_not, not_false_eq_true, not_true_eq_false, true_and, and_true, false_and, and_false, and_self, true_implies, false_implies, implies_true, Option.toList_some, Option.toList_none, List.cons_append, List.nil_append, Nat.add_eq_zero_iff, a_nl_i, a_nl_r, a_nl_n, true_or, or_true, eq_self, ok_4, ok_5, ok_6, ok_7, ok_9, ok_10, ok_20, ok_21, ok_24, ok_30, ok_48, ok_50, ok_60, ok_80, ok_120, ok_180, ok_192, ok_200, ok_900, ok_1000, ok_84000]
  all_goals grind [ui_ap]
theorem lp_lead_27 (hS : m_S M K L R) (hR : mR M I) {b s : Int32} (hP : ∀ v, P (some (.int v)) (n, t, K, L, I, R)) : ∀ e : Int32, e ≤ 84000 → ∀ y, 0 ≤ e → a_at d (a_xm a_m258) 27 [some (a_rf M), some (.int b), some (.int s), some (.int y), some (.int e)] [] (n, t, K, L, I, R) P := by
  refine up_ind 84000 (fun e he ih => ?_)
  intro y h0
  have g1 := rg_events hR
  rw [q258_27]
  repeat' first
    | with_reducible apply And.intro
    | with_reducible assumption
    | with_reducible intro _
    | with_reducible apply ih
    | with_reducible apply hP
    | simp only [q258_29, q258_30, q258_33, q258_36, q258_37, q258_40, q258_42, q258_43, q258_46, q258_47, q258_48, q258_49, q258_50, q258_53, q258_54, q258_57, q258_59, q258_60, q258_63, q258_64, q258_65, q258_68, q258_71, q258_72, m_0 hS, m_K hS, mR_eWhere hS, mK_eWhere hS, mL_eWhere hS, mR_eHour hS, mK_eHour hS, mL_eHour hS, as_nil, as_i, as_r, Nat.reduceAdd, Nat.reduceLeDiff, z_eq0, z_eq1, z_or, z_em, Classical.not_not, not_false_eq_true, not_true_eq_false, true_and, and_true, false_and, and_false, and_self, true_implies, false_implies, implies_true, Option.toList_some, Option.toList_none, List.cons_append, List.nil_append, Nat.add_eq_zero_iff, a_nl_i, a_nl_r, a_nl_n, true_or, or_true, eq_self, ok_4, ok_5, ok_6, ok_7, ok_9, ok_10, ok_20, ok_21, ok_24, ok_30, ok_48, ok_50, ok_60, ok_80, ok_120, ok_180, ok_192, ok_200, ok_900, ok_1000, ok_84000]
  all_goals grind [ui_ap]

theorem ct_hereC (hS : m_S M K L R) (hR : mR M J) (hat : 0 ≤ J M 49 ∧ J M 49 ≤ 52) (he : J M 48 ≤ 50) (hP : P (some (.int (hv M J))) (n, t, K, L, J, R)) : a_does (d + 1) 198 [a_rf M] (n, t, K, L, J, R) P :=
  ct_here hS (I0 := J) ⟨hat, he, rg_base hR⟩ (rT_refl hR ⟨hat, he, rg_base hR⟩) hP

theorem lp_plan_19 (hS : m_S M K L R) (hR : mR M I) {a b : Int32} (hN : ∀ s k, a_at (d + 13) (a_xm a_m234) 64 [some (a_rf M), some (.int a), some (.int b), some (.int s), some (.int k), none] [] (n, t, K, L, I, R) P) : ∀ k : Int32, k ≤ 30 → ∀ s, 0 ≤ k → a_at (d + 13) (a_xm a_m234) 19 [some (a_rf M), some (.int a), some (.int b), some (.int s), some (.int k), none] [] (n, t, K, L, I, R) P := by
  refine up_ind 30 (fun k hk ih => ?_)
  intro s h0
  have g1 := rg_asks hR
  rw [q234_19]
  repeat' first
    | with_reducible apply And.intro
    | with_reducible assumption
    | with_reducible intro _
    | with_reducible apply ih
    | with_reducible apply hN
    | simp only [q234_21, q234_22, q234_25, q234_28, q234_29, q234_30, q234_32, q234_35, q234_38, q234_39, q234_42, q234_44, q234_45, q234_48, q234_49, q234_51, q234_52, q234_55, q234_56, q234_57, q234_58, q234_61, m_0 hS, m_K hS, mR_isGone hS, mK_isGone hS, mL_isGone hS, sp_hasPlace hS, as_nil, as_i, as_r, Nat.reduceAdd, Nat.reduceLeDiff, z_eq0, z_eq1, z_or, z_em, Classical.not_not, not_false_eq_true, not_true_eq_false, true_and, and_true, false_and, and_false, and_self, true_implies, false_implies, implies_true, Option.toList_some, Option.toList_none, List.cons_append, List.nil_append, Nat.add_eq_zero_iff, a_nl_i, a_nl_r, a_nl_n, true_or, or_true, eq_self, ok_4, ok_5, ok_6, ok_7, ok_9, ok_10, ok_20, ok_21, ok_24, ok_30, ok_48, ok_50, ok_60, ok_80, ok_120, ok_180, ok_192, ok_200, ok_900, ok_1000, ok_84000]
  all_goals grind [ui_ap]
theorem lp_plan_80 (hS : m_S M K L R) (hc : c + 130 ≤ 84000) {a b s om : Int32} (ha : 0 ≤ a ∧ a ≤ 199) (hb : 0 ≤ b ∧ b ≤ 199) (hom : om ≤ 30) (hP : ∀ v J, mF M (c + 120) I0 J → P (some (.int v)) (n, t, K, L, J, R)) : ∀ i : Int32, i ≤ 30 → ∀ J m, 0 ≤ i → mF M (c + 4 * i.toNatClampNeg) I0 J → J M 64 = om → (0 ≤ J M 61 ∧ J M 61 ≤ i) → a_at (d + 12) (a_xm a_m234) 80 [some (a_rf M), some (.int a), some (.int b), some (.int s), some (.int m), some (.int i)] [] (n, t, K, L, J, R) P := by
  refine up_ind 30 (fun i hi ih => ?_)
  intro J m h0 hF hO hp
  have g1 := rg_order hF.1.1 i.toNatClampNeg
  have q1 := cl_le h0 hi
  rw [q234_80]
  simp only [q234_82, q234_83, q234_86, q234_89, q234_90, q234_91, q234_94, q234_96, q234_97, q234_98, q234_99, q234_100, m_0 hS, m_K hS, mR_order hS, mK_order hS, mL_order hS, as_nil, as_i, as_r, Nat.reduceAdd, Nat.reduceLeDiff, z_eq0, z_eq1, z_or, z_em, Classical.not_not, not_false_eq_true, not_true_eq_false, true_and, and_true, false_and, and_false, and_self, true_implies, false_implies, implies_true, Option.toList_some, Option.toList_none, List.cons_append, List.nil_append, Nat.add_eq_zero_iff, a_nl_i, a_nl_r, a_nl_n, true_or, or_true, eq_self, ok_4, ok_5, ok_6, ok_7, ok_9, ok_10, ok_20, ok_21, ok_24, ok_30, ok_48, ok_50, ok_60, ok_80, ok_120, ok_180, ok_192, ok_200, ok_900, ok_1000, ok_84000]
  refine ⟨fun h => ?_, fun h => ⟨by grind, ?_⟩⟩
  · simp only [q234_144, q234_146, as_nil, as_i, as_r, Nat.reduceAdd, Nat.reduceLeDiff, z_eq0, z_eq1, z_or, z_em, Classical.not_not, not_false_eq_true, not_true_eq_false, true_and, and_true, false_and, and_false, and_self, true_implies, false_implies, implies_true, Option.toList_some, Option.toList_none, List.cons_append, List.nil_append, Nat.add_eq_zero_iff, a_nl_i, a_nl_r, a_nl_n, true_or, or_true, eq_self, ok_4, ok_5, ok_6, ok_7, ok_9, ok_10, ok_20, ok_21, ok_24, ok_30, ok_48, ok_50, ok_60, ok_80, ok_120, ok_180, ok_192, ok_200, ok_900, ok_1000, ok_84000]
    exact hP _ J (mF_le hF (by omega))
  · have q2 : i < 30 := by grind
    have q3 : i.toNatClampNeg < 30 := (show i.toNatClampNeg < (30 : Int32).toNatClampNeg from cl_lt h0 q2)
    have q4 := cl_up h0 (show i < 100000 by grind)
    refine ct_giveFirst hS hF (by omega) (by grind) (by grind) hb.2 (fun v J2 f2 v2 z2 => ?_)
    have e1 := gv_orderMany v2
    have e2 := gv_passedMany v2
    have g2 := rg_order f2.1.1 i.toNatClampNeg
    rw [show c + 4 * i.toNatClampNeg + 4 = c + 4 * (i + 1).toNatClampNeg by omega] at f2
    repeat' first
      | with_reducible apply And.intro
      | with_reducible assumption
      | with_reducible intro _
      | with_reducible apply ih q2
      | with_reducible apply sF_passedAsk
      | with_reducible apply sF_passedMany
      | simp only [q234_103, q234_106, q234_109, q234_112, q234_113, q234_116, q234_117, q234_120, q234_121, q234_124, q234_126, q234_127, q234_128, q234_129, q234_130, q234_133, q234_134, q234_135, q234_138, q234_141, m_0 hS, m_K hS, mR_passedAsk hS, mK_passedAsk hS, mL_passedAsk hS, mR_order hS, mK_order hS, mL_order hS, as_nil, as_i, as_r, Nat.reduceAdd, Nat.reduceLeDiff, z_eq0, z_eq1, z_or, z_em, Classical.not_not, not_false_eq_true, not_true_eq_false, true_and, and_true, false_and, and_false, and_self, true_implies, false_implies, implies_true, Option.toList_some, Option.toList_none, List.cons_append, List.nil_append, Nat.add_eq_zero_iff, a_nl_i, a_nl_r, a_nl_n, true_or, or_true, eq_self, ok_4, ok_5, ok_6, ok_7, ok_9, ok_10, ok_20, ok_21, ok_24, ok_30, ok_48, ok_50, ok_60, ok_80, ok_120, ok_180, ok_192, ok_200, ok_900, ok_1000, ok_84000, ui_ap, ne_MM, ne_M0, ne_0M, Nat.reduceEqDiff, reduceIte, if_true, if_false]
    all_goals grind [ui_ap]
theorem pu_plan (hS : m_S M K L R) (hF : mF M c I0 I) (hc : c + 130 ≤ 84000) {a b : Int32} (hP : ∀ v J, mF M (c + 120) I0 J → P (some (.int v)) (n, t, K, L, J, R)) : a_does (d + 14) 234 [a_rf M, .int a, .int b] (n, t, K, L, I, R) P := by
  have hR := hF.1.1
  have g3 := mC_refl hR
  have hL4 : ∀ J, mF M (c + 4) I0 J → mF M (c + 120) I0 J := fun J h => mF_le h (by omega)
  have hL : ∀ J, mF M c I0 J → mF M (c + 120) I0 J := fun J h => mF_le h (by omega)
  rw [a_enter1 (M := a_m234) rfl (a_cat_rf (a_cat_int (a_cat_int a_cat_nil))) (show 3 ≤ 6 by decide)]
  show a_at _ (a_xm a_m234) 0 [some (a_rf M), some (.int a), some (.int b), none, none, none] [] _ _
  simp only [q234_0, q234_1, q234_2, q234_5, q234_8, q234_9, q234_10, q234_13, q234_14, q234_15, q234_16, q234_17, m_0 hS, m_K hS, sp_isSpan, sp_refuse_1 hS, sp_refuse_2 hS, sp_refuse_3 hS, sp_refuse_4 hS, sp_refuse_5 hS, sp_refuse_6 hS, as_nil, as_i, as_r, Nat.reduceAdd, Nat.reduceLeDiff, z_eq0, z_eq1, z_or, z_em, Classical.not_not, not_false_eq_true, not_true_eq_false, true_and, and_true, false_and, and_false, and_self, true_implies, false_implies, implies_true, Option.toList_some, Option.toList_none, List.cons_append, List.nil_append, Nat.add_eq_zero_iff, a_nl_i, a_nl_r, a_nl_n, true_or, or_true, eq_self, ok_4, ok_5, ok_6, ok_7, ok_9, ok_10, ok_20, ok_21, ok_24, ok_30, ok_48, ok_50, ok_60, ok_80, ok_120, ok_180, ok_192, ok_200, ok_900, ok_1000, ok_84000]
  refine ⟨fun h => ?_, fun h => hP _ _ (hL _ (sF_refused hF))⟩
  refine lp_plan_19 hS hR (fun s k => ?_) 0 (by decide) _ (by decide)
  simp only [q234_64, q234_65, q234_66, m_0 hS, m_K hS, as_nil, as_i, as_r, Nat.reduceAdd, Nat.reduceLeDiff, z_eq0, z_eq1, z_or, z_em, Classical.not_not, not_false_eq_true, not_true_eq_false, true_and, and_true, false_and, and_false, and_self, true_implies, false_implies, implies_true, Option.toList_some, Option.toList_none, List.cons_append, List.nil_append, Nat.add_eq_zero_iff, a_nl_i, a_nl_r, a_nl_n, true_or, or_true, eq_self, ok_4, ok_5, ok_6, ok_7, ok_9, ok_10, ok_20, ok_21, ok_24, ok_30, ok_48, ok_50, ok_60, ok_80, ok_120, ok_180, ok_192, ok_200, ok_900, ok_1000, ok_84000]
  refine ct_findOrder hS hF (fun J f1 o1 => ?_)
  simp only [q234_69, q234_70, q234_71, q234_74, q234_75, q234_77, q234_78, m_0 hS, m_K hS, as_nil, as_i, as_r, Nat.reduceAdd, Nat.reduceLeDiff, z_eq0, z_eq1, z_or, z_em, Classical.not_not, not_false_eq_true, not_true_eq_false, true_and, and_true, false_and, and_false, and_self, true_implies, false_implies, implies_true, Option.toList_some, Option.toList_none, List.cons_append, List.nil_append, Nat.add_eq_zero_iff, a_nl_i, a_nl_r, a_nl_n, true_or, or_true, eq_self, ok_4, ok_5, ok_6, ok_7, ok_9, ok_10, ok_20, ok_21, ok_24, ok_30, ok_48, ok_50, ok_60, ok_80, ok_120, ok_180, ok_192, ok_200, ok_900, ok_1000, ok_84000]
  have f2 := sF_passedMany (v := 0) f1 (by decide)
  refine lp_plan_80 hS hc ⟨by grind, by grind⟩ ⟨by grind, by grind⟩ o1.2 hP 0 (by decide) _ _ (by decide) (mF_le f2 (by omega)) (by simp [ui_ap]) (by simp [ui_ap])
end SC

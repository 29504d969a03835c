/-! public methods 2 -/
section SC
variable {d n t M c : Nat} {K L : Nat → Nat} {I I0 J J0 J1 J2 : Nat → Nat → Int32} {R : Nat → Nat → Nat} {P : Option Value → AH → Prop}
theorem cl_le {i : Int32} (h0 : 0 ≤ i) (h : i ≤ 30) : i.toNatClampNeg ≤ 30 := by
  by_cases hi : i = 30
  · subst hi; decide
  · exact Nat.le_of_lt (show i.toNatClampNeg < (30 : Int32).toNatClampNeg from cl_lt h0 (by grind))
theorem lp_hosts_26 (hS : m_S M K L R) (hR : mR M I) {b s : Int32} (hP : ∀ v, P (some (.int v)) (n, t, K, L, I, R)) : ∀ a : Int32, a ≤ 30 → ∀ e, 0 ≤ a → a_at (d + 2) (a_xm a_m245) 26 [some (a_rf M), some (.int b), some (.int s), some (.int e), some (.int a)] [] (n, t, K, L, I, R) P := by
  refine up_ind 30 (fun a ha ih => ?_)
  intro e h0
  have g1 := rg_asks hR
  have g2 := rg_length hR a.toNatClampNeg
  have g4 := rg_atShift hR a.toNatClampNeg
  rw [q245_26]
  repeat' first
    | with_reducible apply And.intro
    | with_reducible assumption
    | with_reducible intro _
    | with_reducible apply ih
    | with_reducible apply hP
    | simp only [q245_28, q245_29, q245_32, q245_35, q245_36, q245_37, q245_39, q245_40, q245_41, q245_44, q245_47, q245_48, q245_51, q245_52, q245_54, q245_55, q245_56, q245_57, q245_58, q245_61, q245_63, q245_64, q245_65, q245_66, q245_69, q245_70, q245_71, q245_72, q245_75, q245_78, q245_79, m_0 hS, m_K hS, mR_standing hS, mK_standing hS, mL_standing hS, mR_atShift hS, mK_atShift hS, mL_atShift hS, sp_holdsAt hS, as_nil, as_i, as_r, Nat.reduceAdd, Nat.reduceLeDiff, z_eq0, z_eq1, z_or, z_em, Classical.not_not, not_false_eq_true, not_true_eq_false, true_and, and_true, false_and, and_false, and_self, true_implies, false_implies, implies_true, Option.toList_some, Option.toList_none, List.cons_append, List.nil_append, Nat.add_eq_zero_iff, a_nl_i, a_nl_r, a_nl_n, true_or, or_true, eq_self, ok_4, ok_5, ok_6, ok_7, ok_9, ok_10, ok_20, ok_21, ok_24, ok_30, ok_48, ok_50, ok_60, ok_80, ok_120, ok_180, ok_192, ok_200, ok_900, ok_1000, ok_84000]
  all_goals grind [ui_ap]
theorem lp_count_69 (hS : m_S M K L R) (hR : mR M I) {w : Int32} (hP : ∀ v, P (some (.int v)) (n, t, K, L, I, R)) : ∀ a : Int32, a ≤ 30 → ∀ e, 0 ≤ a → a_at (d + 2) (a_xm a_m261) 69 [some (a_rf M), some (.int w), some (.int e), some (.int a)] [] (n, t, K, L, I, R) P := by
  refine up_ind 30 (fun a ha ih => ?_)
  intro e h0
  have g1 := rg_asks hR
  rw [q261_69]
  repeat' first
    | with_reducible apply And.intro
    | with_reducible assumption
    | with_reducible intro _
    | with_reducible apply ih
    | with_reducible apply hP
    | simp only [q261_70, q261_71, q261_74, q261_77, q261_78, q261_79, q261_80, q261_83, q261_86, q261_87, q261_90, q261_91, q261_92, q261_93, q261_96, q261_99, q261_100, m_0 hS, m_K hS, sp_hasPlace hS, as_nil, as_i, as_r, Nat.reduceAdd, Nat.reduceLeDiff, z_eq0, z_eq1, z_or, z_em, Classical.not_not, not_false_eq_true, not_true_eq_false, true_and, and_true, false_and, and_false, and_self, true_implies, false_implies, implies_true, Option.toList_some, Option.toList_none, List.cons_append, List.nil_append, Nat.add_eq_zero_iff, a_nl_i, a_nl_r, a_nl_n, true_or, or_true, eq_self, ok_4, ok_5, ok_6, ok_7, ok_9, ok_10, ok_20, ok_21, ok_24, ok_30, ok_48, ok_50, ok_60, ok_80, ok_120, ok_180, ok_192, ok_200, ok_900, ok_1000, ok_84000]
  all_goals grind [ui_ap]
theorem lp_count_113 (hS : m_S M K L R) (hR : mR M I) {w : Int32} (hP : ∀ v, P (some (.int v)) (n, t, K, L, I, R)) : ∀ a : Int32, a ≤ 30 → ∀ e, 0 ≤ a → a_at (d + 2) (a_xm a_m261) 113 [some (a_rf M), some (.int w), some (.int e), some (.int a)] [] (n, t, K, L, I, R) P := by
  refine up_ind 30 (fun a ha ih => ?_)
  intro e h0
  have g1 := rg_asks hR
  rw [q261_113]
  repeat' first
    | with_reducible apply And.intro
    | with_reducible assumption
    | with_reducible intro _
    | with_reducible apply ih
    | with_reducible apply hP
    | simp only [q261_114, q261_115, q261_118, q261_121, q261_122, q261_123, q261_124, q261_127, q261_130, q261_131, q261_134, q261_135, q261_136, q261_139, q261_140, q261_141, q261_142, q261_145, q261_148, q261_149, m_0 hS, m_K hS, mR_length hS, mK_length hS, mL_length hS, sp_hasPlace hS, as_nil, as_i, as_r, Nat.reduceAdd, Nat.reduceLeDiff, z_eq0, z_eq1, z_or, z_em, Classical.not_not, not_false_eq_true, not_true_eq_false, true_and, and_true, false_and, and_false, and_self, true_implies, false_implies, implies_true, Option.toList_some, Option.toList_none, List.cons_append, List.nil_append, Nat.add_eq_zero_iff, a_nl_i, a_nl_r, a_nl_n, true_or, or_true, eq_self, ok_4, ok_5, ok_6, ok_7, ok_9, ok_10, ok_20, ok_21, ok_24, ok_30, ok_48, ok_50, ok_60, ok_80, ok_120, ok_180, ok_192, ok_200, ok_900, ok_1000, ok_84000]
  all_goals grind [ui_ap]
theorem lp_lead_27 (hS : m_S M K L R) (hR : mR M I) {b s : Int32} (hP : ∀ v, P (some (.int v)) (n, t, K, L, I, R)) : ∀ e : Int32, e ≤ 84000 → ∀ y, 0 ≤ e → a_at d (a_xm a_m258) 27 [some (a_rf M), some (.int b), some (.int s), some (.int y), some (.int e)] [] (n, t, K, L, I, R) P := by
  refine up_ind 84000 (fun e he ih => ?_)
  intro y h0
  have g1 := rg_events hR
  rw [q258_27]
  repeat' first
    | with_reducible apply And.intro
    | with_reducible assumption
    | with_reducible intro _
    | with_reducible apply ih
    | with_reducible apply hP
    | simp only [q258_29, q258_30, q258_33, q258_36, q258_37, q258_40, q258_42, q258_43, q258_46, q258_47, q258_48, q258_49, q258_50, q258_53, q258_54, q258_57, q258_59, q258_60, q258_63, q258_64, q258_65, q258_68, q258_71, q258_72, m_0 hS, m_K hS, mR_eWhere hS, mK_eWhere hS, mL_eWhere hS, mR_eHour hS, mK_eHour hS, mL_eHour hS, as_nil, as_i, as_r, Nat.reduceAdd, Nat.reduceLeDiff, z_eq0, z_eq1, z_or, z_em, Classical.not_not, not_false_eq_true, not_true_eq_false, true_and, and_true, false_and, and_false, and_self, true_implies, false_implies, implies_true, Option.toList_some, Option.toList_none, List.cons_append, List.nil_append, Nat.add_eq_zero_iff, a_nl_i, a_nl_r, a_nl_n, true_or, or_true, eq_self, ok_4, ok_5, ok_6, ok_7, ok_9, ok_10, ok_20, ok_21, ok_24, ok_30, ok_48, ok_50, ok_60, ok_80, ok_120, ok_180, ok_192, ok_200, ok_900, ok_1000, ok_84000]
  all_goals grind [ui_ap]

theorem ct_hereC (hS : m_S M K L R) (hR : mR M J) (hat : 0 ≤ J M 49 ∧ J M 49 ≤ 52) (he : J M 48 ≤ 50) (hP : P (some (.int (hv M J))) (n, t, K, L, J, R)) : a_does (d + 1) 198 [a_rf M] (n, t, K, L, J, R) P :=
  ct_here hS (I0 := J) ⟨hat, he, rg_base hR⟩ (rT_refl hR ⟨hat, he, rg_base hR⟩) hP

end SC

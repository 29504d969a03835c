/-! the class: trip, bench, set, just so -/
section KQ
variable {d n t C c n0 n' n'' t' : Nat} {K L K0 L0 K' L' K'' L'' : Nat → Nat} {I I0 J J0 J1 J2 : Nat → Nat → Int32} {R R0 R' R'' : Nat → Nat → Nat} {P : Option Value → AH → Prop}
theorem ke_bench (hH : cH C c (n + 1) t K L I R) {p q : Int32} (h1 : (p < 0 ∨ q < 0) → ∀ J, cZ C c (n + 1) K L I R (n + 1) t K L J R → P (some (.int (-4))) (n + 1, t, K, L, J, R)) (h2 : ¬ (p < 0 ∨ q < 0) → (255 < p ∨ 255 < q ∨ 6 ≤ I (C + 14) 5) → ∀ J, cZ C c (n + 1) K L I R (n + 1) t K L J R → P (some (.int (-6))) (n + 1, t, K, L, J, R)) (hP : ¬ (p < 0 ∨ q < 0) → ¬ (255 < p ∨ 255 < q ∨ 6 ≤ I (C + 14) 5) → ∀ t' K' L' J R', cH C (c + 1) (n + 5 + 1) t' K' L' J R' → dX C (n + 1) K L (a_ui I (C + 14) 5 (I (C + 14) 5 + 1)) R (n + 5 + 1) K' L' J R' → P (some (.int (I (C + 14) 5 + 1 - 1))) (n + 5 + 1, t', K', L', J, R')) : a_does (d + 70) 20 [a_rf C, .int p, .int q] (n + 1, t, K, L, I, R) P := by
  have hT := hH.1
  have hS := hT.s
  have hZ := cZ_refl hH
  have gneg : ¬ p < 0 → 0 ≤ q → ¬ (p < 0 ∨ q < 0) := fun a b e => e.elim a (fun x => absurd b (Int32.not_le.mpr x))
  have hgo : ¬ p < 0 → 0 ≤ q → ¬ 255 < p → ¬ 255 < q → I (C + 14) 5 < 6 → a_at (d + 69) (a_xm a_m20) 48 [some (a_rf C), some (.int p), some (.int q)] [] (n + 1, t, K, L, I, R) P := fun a b c1 d1 e1 => by
    have hP := hP (gneg a b) (fun e => e.elim c1 (fun e => e.elim d1 (fun x => absurd e1 (Int32.not_lt.mpr x))))
    simp only [q20_48, q20_49, q20_52, q20_53, q20_54, k_0 hS, z_C hS, r_0_4 hS, k_14 hS, z_14, as_nil, as_i, as_r, Nat.reduceAdd, Nat.reduceLeDiff, z_eq0, z_eq1, z_or, z_em, Classical.not_not, not_false_eq_true, not_true_eq_false, true_and, and_true, false_and, and_false, and_self, true_implies, false_implies, implies_true, Option.toList_some, Option.toList_none, List.cons_append, List.nil_append, Nat.add_eq_zero_iff, a_nl_i, a_nl_r, a_nl_n, true_or, or_true, eq_self, a_isRA_22, a_isRA_24, a_isRA_32, a_isA_20, ok_4, ok_5, ok_6, ok_7, ok_9, ok_20, ok_21, ok_30, ok_50, ok_180, ok_192, ok_200]
    refine ck_addBench hH (Int32.not_le.mpr e1) (fun t' K' L' J R' g1 g2 => ?_)
    simp only [q20_57, as_nil, as_i, as_r, Nat.reduceAdd, Nat.reduceLeDiff, z_eq0, z_eq1, z_or, z_em, Classical.not_not, not_false_eq_true, not_true_eq_false, true_and, and_true, false_and, and_false, and_self, true_implies, false_implies, implies_true, Option.toList_some, Option.toList_none, List.cons_append, List.nil_append, Nat.add_eq_zero_iff, a_nl_i, a_nl_r, a_nl_n, true_or, or_true, eq_self, a_isRA_22, a_isRA_24, a_isRA_32, a_isA_20, ok_4, ok_5, ok_6, ok_7, ok_9, ok_20, ok_21, ok_30, ok_50, ok_180, ok_192, ok_200]
    exact hP t' K' L' J R' g1 g2
  rw [a_enter1 (M := a_m20) rfl (a_cat_rf (a_cat_int (a_cat_int a_cat_nil))) (show 3 ≤ 3 by decide)]
  show a_at _ (a_xm a_m20) 0 [some (a_rf C), some (.int p), some (.int q)] [] _ _
  repeat' first
    | with_reducible apply And.intro
    | with_reducible assumption
    | with_reducible intro _
    | refine ck_refuse hZ (fun _ _ => ?_)
    | exact h1 (Or.inl (by assumption)) _ (by assumption)
    | exact h1 (Or.inr (Int32.not_le.mp (by assumption))) _ (by assumption)
    | exact h2 (gneg (by assumption) (by assumption)) (Or.inl (by assumption)) _ (by assumption)
    | exact h2 (gneg (by assumption) (by assumption)) (Or.inr (Or.inl (by assumption))) _ (by assumption)
    | exact h2 (gneg (by assumption) (by assumption)) (Or.inr (Or.inr (Int32.not_lt.mp (by assumption)))) _ (by assumption)
    | exact hgo (by assumption) (by assumption) (by assumption) (by assumption) (by assumption)
    | simp only [q20_0, q20_1, q20_4, q20_5, q20_8, q20_9, q20_11, q20_14, q20_15, q20_16, q20_19, q20_22, q20_23, q20_26, q20_29, q20_30, q20_33, q20_36, q20_38, q20_41, q20_42, q20_44, q20_47, k_0 hS, z_C hS, r_0_4 hS, k_14 hS, z_14, as_nil, as_i, as_r, Nat.reduceAdd, Nat.reduceLeDiff, z_eq0, z_eq1, z_or, z_em, Classical.not_not, not_false_eq_true, not_true_eq_false, true_and, and_true, false_and, and_false, and_self, true_implies, false_implies, implies_true, Option.toList_some, Option.toList_none, List.cons_append, List.nil_append, Nat.add_eq_zero_iff, a_nl_i, a_nl_r, a_nl_n, true_or, or_true, eq_self, a_isRA_22, a_isRA_24, a_isRA_32, a_isA_20, ok_4, ok_5, ok_6, ok_7, ok_9, ok_20, ok_21, ok_30, ok_50, ok_180, ok_192, ok_200]
  all_goals ((try clear hgo); (try clear hr); (try clear hs); (try clear hc); (try clear h0); (try clear h1); (try clear h2); (try clear h3); (try clear h4); (try clear h5); (try clear hP); (try clear hZ); (try clear hH); (try clear hT); (try clear hS); grind [ui_ap])
theorem ke_set (hH : cH C c (n + 1) t K L I R) {w v : Int32} (h0 : ¬ (0 ≤ w ∧ w ≤ 2) → ∀ J, cZ C c (n + 1) K L I R (n + 1) t K L J R → P (some (.int (-2))) (n + 1, t, K, L, J, R)) (h1 : (0 ≤ w ∧ w ≤ 2) → v < 0 → ∀ J, cZ C c (n + 1) K L I R (n + 1) t K L J R → P (some (.int (-4))) (n + 1, t, K, L, J, R)) (h2 : (0 ≤ w ∧ w ≤ 2) → ¬ v < 0 → ((w = 0 ∧ 3 < v) ∨ (w = 1 ∧ 100 < v) ∨ (w = 2 ∧ 1 < v)) → ∀ J, cZ C c (n + 1) K L I R (n + 1) t K L J R → P (some (.int (-6))) (n + 1, t, K, L, J, R)) (h3 : w = 0 → ¬ v < 0 → ¬ 3 < v → cT C K L (a_ui I (C + 14) 6 v) R → P (some (.int (I (C + 14) 6))) (n + 1, t, K, L, (a_ui I (C + 14) 6 v), R)) (h4 : w = 1 → ¬ v < 0 → ¬ 100 < v → cT C K L (a_ui I (C + 22) 8 v) R → P (some (.int (I (C + 22) 8))) (n + 1, t, K, L, (a_ui I (C + 22) 8 v), R)) (h5 : w = 2 → ¬ v < 0 → ¬ 1 < v → ∀ J, dG C K L R (a_ui I (C + 17) 5 v) J → P (some (.int (I (C + 17) 5))) (n + 1, t, K, L, J, R)) : a_does (d + 70) 23 [a_rf C, .int w, .int v] (n + 1, t, K, L, I, R) P := by
  have hT := hH.1
  have hS := hT.s
  have hZ := cZ_refl hH
  have hr : w = 0 → 0 ≤ v → v ≤ 3 → ∀ u, a_at (d + 69) (a_xm a_m23) 63 [some (a_rf C), some (.int w), some (.int v), u] [] (n + 1, t, K, L, I, R) P := fun hw a b u => by
    have hP := h3 hw (Int32.not_lt.mpr a) (Int32.not_lt.mpr b) (sT_Hall_rest hT ⟨a, b⟩)
    simp only [q23_63, q23_64, q23_67, q23_68, k_0 hS, z_C hS, r_0_4 hS, k_14 hS, z_14, as_nil, as_i, as_r, Nat.reduceAdd, Nat.reduceLeDiff, z_eq0, z_eq1, z_or, z_em, Classical.not_not, not_false_eq_true, not_true_eq_false, true_and, and_true, false_and, and_false, and_self, true_implies, false_implies, implies_true, Option.toList_some, Option.toList_none, List.cons_append, List.nil_append, Nat.add_eq_zero_iff, a_nl_i, a_nl_r, a_nl_n, true_or, or_true, eq_self, a_isRA_22, a_isRA_24, a_isRA_32, a_isA_20, ok_4, ok_5, ok_6, ok_7, ok_9, ok_20, ok_21, ok_30, ok_50, ok_180, ok_192, ok_200]
    rw [a_enter1 (M := a_m24) rfl (a_cat_rf (a_cat_int a_cat_nil)) (show 2 ≤ 3 by decide)]
    show a_at _ (a_xm a_m24) 0 [some (a_rf (C + 14)), some (.int v), none] [] _ _
    simp only [q24_0, q24_1, q24_4, q24_5, q24_6, q24_7, q24_10, q24_11, k_14 hS, z_14, as_nil, as_i, as_r, Nat.reduceAdd, Nat.reduceLeDiff, z_eq0, z_eq1, z_or, z_em, Classical.not_not, not_false_eq_true, not_true_eq_false, true_and, and_true, false_and, and_false, and_self, true_implies, false_implies, implies_true, Option.toList_some, Option.toList_none, List.cons_append, List.nil_append, Nat.add_eq_zero_iff, a_nl_i, a_nl_r, a_nl_n, true_or, or_true, eq_self, a_isRA_22, a_isRA_24, a_isRA_32, a_isA_20, ok_4, ok_5, ok_6, ok_7, ok_9, ok_20, ok_21, ok_30, ok_50, ok_180, ok_192, ok_200, ui_ap, cc_ne, cc_n0, cc_0n, Nat.reduceEqDiff, reduceIte, if_true, if_false, q23_71]
    exact hP
  have hs : w = 1 → 0 ≤ v → v ≤ 100 → ∀ u, a_at (d + 69) (a_xm a_m23) 77 [some (a_rf C), some (.int w), some (.int v), u] [] (n + 1, t, K, L, I, R) P := fun hw a b u => by
    have hP := h4 hw (Int32.not_lt.mpr a) (Int32.not_lt.mpr b) (sT_Planner_share hT)
    simp only [q23_77, q23_78, q23_81, q23_82, k_0 hS, z_C hS, r_0_5 hS, k_22 hS, z_22, as_nil, as_i, as_r, Nat.reduceAdd, Nat.reduceLeDiff, z_eq0, z_eq1, z_or, z_em, Classical.not_not, not_false_eq_true, not_true_eq_false, true_and, and_true, false_and, and_false, and_self, true_implies, false_implies, implies_true, Option.toList_some, Option.toList_none, List.cons_append, List.nil_append, Nat.add_eq_zero_iff, a_nl_i, a_nl_r, a_nl_n, true_or, or_true, eq_self, a_isRA_22, a_isRA_24, a_isRA_32, a_isA_20, ok_4, ok_5, ok_6, ok_7, ok_9, ok_20, ok_21, ok_30, ok_50, ok_180, ok_192, ok_200]
    rw [a_enter1 (M := a_m25) rfl (a_cat_rf (a_cat_int a_cat_nil)) (show 2 ≤ 3 by decide)]
    show a_at _ (a_xm a_m25) 0 [some (a_rf (C + 22)), some (.int v), none] [] _ _
    simp only [q25_0, q25_1, q25_4, q25_5, q25_6, q25_7, q25_10, q25_11, k_22 hS, z_22, as_nil, as_i, as_r, Nat.reduceAdd, Nat.reduceLeDiff, z_eq0, z_eq1, z_or, z_em, Classical.not_not, not_false_eq_true, not_true_eq_false, true_and, and_true, false_and, and_false, and_self, true_implies, false_implies, implies_true, Option.toList_some, Option.toList_none, List.cons_append, List.nil_append, Nat.add_eq_zero_iff, a_nl_i, a_nl_r, a_nl_n, true_or, or_true, eq_self, a_isRA_22, a_isRA_24, a_isRA_32, a_isA_20, ok_4, ok_5, ok_6, ok_7, ok_9, ok_20, ok_21, ok_30, ok_50, ok_180, ok_192, ok_200, ui_ap, cc_ne, cc_n0, cc_0n, Nat.reduceEqDiff, reduceIte, if_true, if_false, q23_85, q23_88, q23_89, q23_92, q23_93, q23_96, k_0 hS, z_C hS, r_0_3 hS, k_17 hS, z_17]
    exact hP
  have hc : 0 ≤ w → w ≤ 2 → ¬ w = 0 → ¬ w = 1 → 0 ≤ v → v ≤ 1 → ∀ u, a_at (d + 69) (a_xm a_m23) 88 [some (a_rf C), some (.int w), some (.int v), u] [] (n + 1, t, K, L, I, R) P := fun w0 w2 n0 n1 a b u => by
    have hP := h5 (by clear h0 h1 h2 h3 h4 h5 hr hs hZ hH hT hS; grind) (Int32.not_lt.mpr a) (Int32.not_lt.mpr b)
    simp only [q23_88, q23_89, q23_92, q23_93, k_0 hS, z_C hS, r_0_3 hS, k_17 hS, z_17, as_nil, as_i, as_r, Nat.reduceAdd, Nat.reduceLeDiff, z_eq0, z_eq1, z_or, z_em, Classical.not_not, not_false_eq_true, not_true_eq_false, true_and, and_true, false_and, and_false, and_self, true_implies, false_implies, implies_true, Option.toList_some, Option.toList_none, List.cons_append, List.nil_append, Nat.add_eq_zero_iff, a_nl_i, a_nl_r, a_nl_n, true_or, or_true, eq_self, a_isRA_22, a_isRA_24, a_isRA_32, a_isA_20, ok_4, ok_5, ok_6, ok_7, ok_9, ok_20, ok_21, ok_30, ok_50, ok_180, ok_192, ok_200]
    refine ck_changeScaled hT (fun J g => ?_)
    simp only [q23_96, as_nil, as_i, as_r, Nat.reduceAdd, Nat.reduceLeDiff, z_eq0, z_eq1, z_or, z_em, Classical.not_not, not_false_eq_true, not_true_eq_false, true_and, and_true, false_and, and_false, and_self, true_implies, false_implies, implies_true, Option.toList_some, Option.toList_none, List.cons_append, List.nil_append, Nat.add_eq_zero_iff, a_nl_i, a_nl_r, a_nl_n, true_or, or_true, eq_self, a_isRA_22, a_isRA_24, a_isRA_32, a_isA_20, ok_4, ok_5, ok_6, ok_7, ok_9, ok_20, ok_21, ok_30, ok_50, ok_180, ok_192, ok_200]
    exact hP J g
  have q0 : ∀ {m : Int32}, ¬ v ≤ m → m < v := fun h => Int32.not_le.mp h
  have hr0 : w < 0 → ∀ J, cZ C c (n + 1) K L I R (n + 1) t K L J R → P (some (.int (-2))) (n + 1, t, K, L, J, R) := fun a J z => h0 (fun e => absurd a (Int32.not_lt.mpr e.1)) J z
  have hr0b : ¬ w ≤ 2 → ∀ J, cZ C c (n + 1) K L I R (n + 1) t K L J R → P (some (.int (-2))) (n + 1, t, K, L, J, R) := fun a J z => h0 (fun e => a e.2) J z
  have hr1 : ¬ w < 0 → w ≤ 2 → ¬ 0 ≤ v → ∀ J, cZ C c (n + 1) K L I R (n + 1) t K L J R → P (some (.int (-4))) (n + 1, t, K, L, J, R) := fun a b c1 J z => h1 ⟨Int32.not_lt.mp a, b⟩ (Int32.not_le.mp c1) J z
  have hr2 : ¬ w < 0 → w ≤ 2 → 0 ≤ v → ∀ m : Int32, ¬ v ≤ m → ((w = 0 ∧ m = 3) ∨ (w = 1 ∧ m = 100) ∨ (¬ w = 0 ∧ ¬ w = 1 ∧ m = 1)) → ∀ J, cZ C c (n + 1) K L I R (n + 1) t K L J R → P (some (.int (-6))) (n + 1, t, K, L, J, R) := fun a b c1 m e1 e2 J z => h2 ⟨Int32.not_lt.mp a, b⟩ (Int32.not_lt.mpr c1) (by clear h0 h1 h2 h3 h4 h5 hr hs hc hr0 hr0b hr1 hZ hH hT hS; grind) J z
  rw [a_enter1 (M := a_m23) rfl (a_cat_rf (a_cat_int (a_cat_int a_cat_nil))) (show 3 ≤ 4 by decide)]
  show a_at _ (a_xm a_m23) 0 [some (a_rf C), some (.int w), some (.int v), none] [] _ _
  repeat' first
    | with_reducible apply And.intro
    | with_reducible assumption
    | with_reducible intro _
    | contradiction
    | refine ck_refuse hZ (fun _ _ => ?_)
    | exact hr0 (by assumption) _ (by assumption)
    | exact hr0b (by assumption) _ (by assumption)
    | exact hr1 (by assumption) (by assumption) (by assumption) _ (by assumption)
    | exact hr2 (by assumption) (by assumption) (by assumption) 3 (by assumption) (Or.inl ⟨by assumption, rfl⟩) _ (by assumption)
    | exact hr2 (by assumption) (by assumption) (by assumption) 100 (by assumption) (Or.inr (Or.inl ⟨by assumption, rfl⟩)) _ (by assumption)
    | exact hr2 (by assumption) (by assumption) (by assumption) 1 (by assumption) (Or.inr (Or.inr ⟨by assumption, by assumption, rfl⟩)) _ (by assumption)
    | exact hr (by assumption) (by assumption) (by assumption) _
    | exact hs (by assumption) (by assumption) (by assumption) _
    | exact hc (Int32.not_lt.mp (by assumption)) (by assumption) (by assumption) (by assumption) (by assumption) (by assumption) _
    | simp only [q23_0, q23_1, q23_4, q23_5, q23_6, q23_9, q23_10, q23_12, q23_15, q23_16, q23_17, q23_20, q23_21, q23_23, q23_26, q23_27, q23_28, q23_31, q23_32, q23_35, q23_36, q23_37, q23_40, q23_42, q23_45, q23_46, q23_47, q23_48, q23_49, q23_52, q23_53, q23_55, q23_58, q23_59, q23_60, q23_72, q23_73, q23_74, k_0 hS, z_C hS, as_nil, as_i, as_r, Nat.reduceAdd, Nat.reduceLeDiff, z_eq0, z_eq1, z_or, z_em, Classical.not_not, not_false_eq_true, not_true_eq_false, true_and, and_true, false_and, and_false, and_self, true_implies, false_implies, implies_true, Option.toList_some, Option.toList_none, List.cons_append, List.nil_append, Nat.add_eq_zero_iff, a_nl_i, a_nl_r, a_nl_n, true_or, or_true, eq_self, a_isRA_22, a_isRA_24, a_isRA_32, a_isA_20, ok_4, ok_5, ok_6, ok_7, ok_9, ok_20, ok_21, ok_30, ok_50, ok_180, ok_192, ok_200]
  all_goals ((try clear hr); (try clear hs); (try clear hc); (try clear hr0); (try clear hr0b); (try clear hr1); (try clear hr2); (try clear hgo); (try clear hr); (try clear hs); (try clear hc); (try clear h0); (try clear h1); (try clear h2); (try clear h3); (try clear h4); (try clear h5); (try clear hP); (try clear hZ); (try clear hH); (try clear hT); (try clear hS); grind [ui_ap])
/-- what draft answers -/
def dv (g l m w : Int32) : Int32 := if ¬ ((0 ≤ g ∧ g ≤ 9) ∧ (0 ≤ l ∧ l ≤ 4)) then -1 else if m < 1 ∨ w < 0 then -4 else if 4 < m ∨ 7 < w then -6 else 1
end KQ
section KR
variable {d n t M c : Nat} {K L : Nat → Nat} {I I0 J J0 J1 J2 : Nat → Nat → Int32} {R : Nat → Nat → Nat} {P : Option Value → AH → Prop}
end KR

/-! the class: reading a text -/
section KA
variable {d n t C : Nat} {K L : Nat → Nat} {I I0 J J0 J1 J2 : Nat → Nat → Int32} {R : Nat → Nat → Nat} {P : Option Value → AH → Prop}
theorem sp_signOf {s a b c k : Int32} {h : AH} : a_does (d + 1) 76 [.int s, .int a, .int b, .int c, .int k] h P ↔ P (some (.int (if s = a then k else if s = b then k + 1 else if s = c then k + 2 else -9))) h := by
  rw [a_enter1 (M := a_m76) rfl (a_cat_int (a_cat_int (a_cat_int (a_cat_int (a_cat_int a_cat_nil))))) (show 5 ≤ 5 by decide)]
  show a_at _ (a_xm a_m76) 0 [some (.int s), some (.int a), some (.int b), some (.int c), some (.int k)] [] _ _ ↔ _
  simp only [q76_0, q76_1, q76_2, q76_5, q76_7, q76_8, q76_9, q76_10, q76_13, q76_15, q76_16, q76_17, q76_18, q76_19, q76_20, q76_23, q76_25, q76_26, q76_27, q76_30, q76_32, as_nil, as_i, as_r, Nat.reduceAdd, Nat.reduceLeDiff, z_eq0, z_eq1, z_or, z_em, Classical.not_not, not_false_eq_true, not_true_eq_false, true_and, and_true, false_and, and_false, and_self, true_implies, false_implies, implies_true, Option.toList_some, Option.toList_none, List.cons_append, List.nil_append, Nat.add_eq_zero_iff, a_nl_i, a_nl_r, a_nl_n, true_or, or_true, eq_self, a_isRA_22, a_isRA_24, a_isRA_32, a_isA_20]
  grind
theorem inc_ti {p : Int32} (h0 : 0 ≤ p) (h : p < 1000) : (p + 1).toInt = p.toInt + 1 ∧ 0 ≤ p + 1 := by
  have e0 := Int32.le_iff_toInt_le.mp h0
  have e1 := Int32.lt_iff_toInt_lt.mp h
  have c0 : (0 : Int32).toInt = 0 := rfl
  have c1 : (1 : Int32).toInt = 1 := rfl
  have c2 : (1000 : Int32).toInt = 1000 := rfl
  have e : (p + 1).toInt = p.toInt + 1 := by rw [ti_add (by omega)]; omega
  exact ⟨e, by rw [Int32.le_iff_toInt_le]; omega⟩
theorem ck_letter (hT : cT C K L I R) (hP : ∀ v, P (some (.int v)) (n, t, K, L, I, R)) : a_does (d + 1) 80 [a_rf (C + 11)] (n, t, K, L, I, R) P := by
  have hS := hT.s
  rw [a_enter1 (M := a_m80) rfl (a_cat_rf a_cat_nil) (show 1 ≤ 1 by decide)]
  show a_at _ (a_xm a_m80) 0 [some (a_rf (C + 11))] [] _ _
  repeat' first
    | with_reducible apply And.intro
    | with_reducible assumption
    | with_reducible intro _
    | with_reducible apply hP
    | simp only [q80_0, q80_1, q80_4, q80_7, q80_8, q80_11, q80_12, q80_13, q80_16, q80_18, k_11 hS, z_11, r_11_0 hS, k_12 hS, l_12 hS, z_12, as_nil, as_i, as_r, Nat.reduceAdd, Nat.reduceLeDiff, z_eq0, z_eq1, z_or, z_em, Classical.not_not, not_false_eq_true, not_true_eq_false, true_and, and_true, false_and, and_false, and_self, true_implies, false_implies, implies_true, Option.toList_some, Option.toList_none, List.cons_append, List.nil_append, Nat.add_eq_zero_iff, a_nl_i, a_nl_r, a_nl_n, true_or, or_true, eq_self, a_isRA_22, a_isRA_24, a_isRA_32, a_isA_20, ok_4, ok_5, ok_6, ok_7, ok_9, ok_20, ok_21, ok_30, ok_50, ok_180, ok_192, ok_200]
  all_goals grind [ui_ap]
end KA

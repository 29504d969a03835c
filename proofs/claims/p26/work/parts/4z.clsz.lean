/-! strike, just so -/
section SZ
variable {d n t M c : Nat} {K L : Nat → Nat} {I I0 J J0 J1 J2 : Nat → Nat → Int32} {R : Nat → Nat → Nat} {P : Option Value → AH → Prop}
end SZ
section KS
variable {d n t C c n0 n' n'' t' : Nat} {K L K0 L0 K' L' K'' L'' : Nat → Nat} {I I0 J J0 J1 J2 : Nat → Nat → Int32} {R R0 R' R'' : Nat → Nat → Nat} {P : Option Value → AH → Prop}
theorem ke_strike (hH : cH C c (n + 1) t K L I R) {x s : Int32} (hx : 0 ≤ x → x < I (C + 7) 3 → ¬ (R (C + 8) x.toNatClampNeg) = 0) (h1 : ¬ ((0 ≤ x ∧ x < I (C + 7) 3) ∧ (0 ≤ s ∧ s < 200)) → ∀ J, cZ C c (n + 1) K L I R (n + 1) t K L J R → P (some (.int (-1))) (n + 1, t, K, L, J, R)) (h2 : ((0 ≤ x ∧ x < I (C + 7) 3) ∧ (0 ≤ s ∧ s < 200)) → ¬ I (R (C + 8) x.toNatClampNeg) 4 = 0 → ∀ J, cZ C c (n + 1) K L I R (n + 1) t K L J R → P (some (.int (-3))) (n + 1, t, K, L, J, R)) (hP : ((0 ≤ x ∧ x < I (C + 7) 3) ∧ (0 ≤ s ∧ s < 200)) → I (R (C + 8) x.toNatClampNeg) 4 = 0 → cT C K L (a_ui (a_ui I (R (C + 8) x.toNatClampNeg) 4 1) (R (C + 8) x.toNatClampNeg) 3 s) R → P (some (.int 1)) (n + 1, t, K, L, (a_ui (a_ui I (R (C + 8) x.toNatClampNeg) 4 1) (R (C + 8) x.toNatClampNeg) 3 s), R)) : a_does (d + 70) 84 [a_rf C, .int x, .int s] (n + 1, t, K, L, I, R) P := by
  have hT := hH.1
  have hS := hT.s
  have hZ := cZ_refl hH
  have gA := hT.g_asksR
  have gB := hT.g_benchesR
  have gX := hT.g_textsR
  have g7 := hT.g_texts
  have gi := gX x.toNatClampNeg
  have gx := fun h => (hT.g_txt (R (C + 8) x.toNatClampNeg) (gi.resolve_left h)).1
  have hx2 : (R (C + 8) x.toNatClampNeg) = 0 → ¬ ((0 ≤ x ∧ x < I (C + 7) 3) ∧ (0 ≤ s ∧ s < 200)) := fun e q => hx q.1.1 q.1.2 e
  have hf : ((0 ≤ x ∧ x < I (C + 7) 3) ∧ (0 ≤ s ∧ s < 200)) → I (R (C + 8) x.toNatClampNeg) 4 = 0 → ¬ (R (C + 8) x.toNatClampNeg) = 0 → P (some (.int 1)) (n + 1, t, K, L, (a_ui (a_ui I (R (C + 8) x.toNatClampNeg) 4 1) (R (C + 8) x.toNatClampNeg) 3 s), R) := fun q1 q2 q3 => hP q1 q2 (sT_txt (sT_txt hT (gx q3) (gi.resolve_left q3)) (gx q3) (gi.resolve_left q3))
  rw [a_enter1 (M := a_m84) rfl (a_cat_rf (a_cat_int (a_cat_int a_cat_nil))) (show 3 ≤ 4 by decide)]
  show a_at _ (a_xm a_m84) 0 [some (a_rf C), some (.int x), some (.int s), none] [] _ _
  repeat' first
    | with_reducible apply And.intro
    | with_reducible assumption
    | with_reducible intro _
    | refine ck_refuse hZ (fun _ _ => ?_)
    | refine h1 ?_ _ (by assumption)
    | refine h2 ?_ ?_ _ (by assumption)
    | refine hf ?_ ?_ ?_
    | simp only [q84_0, q84_1, q84_4, q84_5, q84_8, q84_9, q84_10, q84_13, q84_14, q84_17, q84_20, q84_21, q84_22, q84_25, q84_26, q84_27, q84_30, q84_33, q84_34, q84_36, q84_39, q84_40, q84_41, q84_42, q84_45, q84_46, q84_47, q84_50, q84_51, k_0 hS, z_C hS, r_0_1 hS, k_7 hS, z_7, sp_textAt hS gX, sp_isShiftC, as_nil, as_i, as_r, Nat.reduceAdd, Nat.reduceLeDiff, z_eq0, z_eq1, z_or, z_em, Classical.not_not, not_false_eq_true, not_true_eq_false, true_and, and_true, false_and, and_false, and_self, true_implies, false_implies, implies_true, Option.toList_some, Option.toList_none, List.cons_append, List.nil_append, Nat.add_eq_zero_iff, a_nl_i, a_nl_r, a_nl_n, true_or, or_true, eq_self, a_isRA_22, a_isRA_24, a_isRA_32, a_isA_20, ok_4, ok_5, ok_6, ok_7, ok_9, ok_20, ok_21, ok_30, ok_50, ok_180, ok_192, ok_200, ui_ap, cc_ne, cc_n0, cc_0n, Nat.reduceEqDiff, reduceIte, if_true, if_false]
  all_goals ((try clear hf); (try clear gA); (try clear gB); (try clear gX); (try clear gx); (try clear h1); (try clear h2); (try clear h3); (try clear h4); (try clear hP); (try clear hZ); (try clear hH); (try clear hT); (try clear hS); grind [ui_ap])
end KS

/-! the class: public methods that make something -/
section KK
variable {d n t C c n0 n' n'' t' : Nat} {K L K0 L0 K' L' K'' L'' : Nat → Nat} {I I0 J J0 J1 J2 : Nat → Nat → Int32} {R R0 R' R'' : Nat → Nat → Nat} {P : Option Value → AH → Prop}
theorem cf_ui {a : Nat} (ha : K a = 1) (hT : cT C K L I R) {v s : Int32} : ∀ (k : Nat) (i : Int32) (f : Nat), (f = 0 ∨ K f = 11) → cf C R (a_ui I a 16 v) s k i f = cf C R I s k i f := by
  have a1 := (hT.g_ask a ha).1
  have e1 : a_ui I a 16 v (C + 7) 3 = I (C + 7) 3 := by rw [ui_ap, if_neg (by omega)]
  have e2 : ∀ x j, K x = 11 → a_ui I a 16 v x j = I x j := fun x j hx => by
    rw [ui_ap, if_neg (fun e => by rw [e.1, ha] at hx; cases hx)]
  intro k
  induction k with
  | zero => intro i f _; rfl
  | succ k ih =>
    intro i f hf
    unfold cf
    rw [e1]
    have hX := hT.g_textsR i.toNatClampNeg
    generalize R (C + 8) i.toNatClampNeg = x at hX
    have ec : (¬ x = 0 ∧ a_ui I a 16 v x 0 = 79 ∧ (a_ui I a 16 v x 1 ≤ s ∧ s < a_ui I a 16 v x 3) ∧ (f = 0 ∨ a_ui I a 16 v f 1 ≤ a_ui I a 16 v x 1)) = (¬ x = 0 ∧ I x 0 = 79 ∧ (I x 1 ≤ s ∧ s < I x 3) ∧ (f = 0 ∨ I f 1 ≤ I x 1)) := by
      rcases hX with hX | hX
      · simp [hX]
      · rw [e2 x 0 hX, e2 x 1 hX, e2 x 3 hX]
        rcases hf with hf | hf
        · simp [hf]
        · rw [e2 f 1 hf]
    simp only [ec]
    rw [ih _ _ (by split; rename_i q; exact Or.inr (hX.resolve_left q.1); exact hf)]
theorem hw_ui {a : Nat} (ha : K a = 1) (hT : cT C K L I R) {v : Int32} : hw C L R (a_ui I a 16 v) a = hw C L R I a := by
  have a1 := (hT.g_ask a ha).1
  have e : ∀ j, ¬ j = 16 → a_ui I a 16 v a j = I a j := fun j hj => by rw [ui_ap, if_neg (fun q => hj q.2)]
  have e1 : a_ui I a 16 v (C + 3) = I (C + 3) := by funext j; rw [ui_ap, if_neg (by omega)]
  have e2 : lw C (a_ui I a 16 v) a = lw C I a := by unfold lw; rw [e 13 (by decide), e 14 (by decide), e 2 (by decide), e1]
  have e3 : ∀ b s w, lq (a_ui I a 16 v) a b s w = lq I a b s w := fun b s w => by
    funext j
    simp only [lq, e 12 (by decide), e 9 (by decide), e 2 (by decide), e 1 (by decide), e 0 (by decide), e 5 (by decide)]
  have e4 := cf_ui ha hT (v := v) (s := I a 14) 30 0 0 (Or.inl rfl)
  have e5 := cf_11 hT (s := I a 14) 30 0 0 (Or.inl rfl)
  unfold hw
  rw [e 13 (by decide), e2]
  simp only [ow, e 14 (by decide), e 13 (by decide), e 2 (by decide), e4, e3]
  generalize cf C R I (I a 14) 30 0 0 = x at e5
  rcases e5 with e5 | e5
  · simp [e5]
  · have x1 := hT.g_txt x e5
    have n1 : ¬ R x 2 = a := fun q => by rw [q, ha] at x1; have := x1.2.2.1; cases this
    have : a_ui I a 16 v (R x 2) = I (R x 2) := by funext j; rw [ui_ap, if_neg (fun q => n1 q.1)]
    rw [this]
theorem cu_withdraw (hH : cH C c (n + 1) t K L I R) {q : Int32} (hP : ∀ v n' t' K' L' J R', cZ C (c + 4) (n + 1) K L I R (n' + 1) t' K' L' J R' → P (some (.int v)) (n' + 1, t', K', L', J, R')) : a_does (d + 70) 44 [a_rf C, .int q] (n + 1, t, K, L, I, R) P := by
  have hT := hH.1
  have hS := hT.s
  have hZ := cZ_refl hH
  have hq : ∀ v J R1, cZ C c (n + 1) K L I R (n + 1) t K L J R1 → P (some (.int v)) (n + 1, t, K, L, J, R1) := fun v J R1 z => hP v n t K L J R1 (cZ_le z (by omega))
  have hA : ∀ v n' t' K' L' J R', cZ C c (n + 1) K L I R (n' + 1) t' K' L' J R' → P (some (.int v)) (n' + 1, t', K', L', J, R') := fun v n' t' K' L' J R' z => hP v n' t' K' L' J R' (cZ_le z (by omega))
  have hB : ∀ v n' t' K' L' J R', cZ C (c + 1) (n + 1) K L I R (n' + 1) t' K' L' J R' → P (some (.int v)) (n' + 1, t', K', L', J, R') := fun v n' t' K' L' J R' z => hP v n' t' K' L' J R' (cZ_le z (by omega))
  have hB2 : ∀ v n' t' K' L' J R', cZ C (c + 1 + 1) (n + 1) K L I R (n' + 1) t' K' L' J R' → P (some (.int v)) (n' + 1, t', K', L', J, R') := fun v n' t' K' L' J R' z => hP v n' t' K' L' J R' (cZ_le z (by omega))
  clear hP
  have gA := hT.g_asksR
  have gB := hT.g_benchesR
  have gX := hT.g_textsR
  have gi := gA q.toNatClampNeg
  have ga := fun h => hT.g_ask (R (C + 15) q.toNatClampNeg) (gi.resolve_left h)
  have hw : ¬ R (C + 15) q.toNatClampNeg = 0 → cZ C c (n + 1) K L I R (n + 1) t K L (a_ui I (R (C + 15) q.toNatClampNeg) 15 1) R := fun h => cZ_G hZ (dG_askf (dG_refl hT) (ga h).1 (gi.resolve_left h) (by decide))
  rw [a_enter1 (M := a_m44) rfl (a_cat_rf (a_cat_int a_cat_nil)) (show 2 ≤ 3 by decide)]
  show a_at _ (a_xm a_m44) 0 [some (a_rf C), some (.int q), none] [] _ _
  repeat' first
    | with_reducible apply And.intro
    | with_reducible assumption
    | with_reducible intro _
    | exact hq _ _ _ hZ
    | exact hq _ _ _ (by assumption)
    | exact hq _ _ _ (cZ_C hZ (by assumption))
    | exact hq _ _ _ (cZ_G hZ (by assumption))
    | exact hq _ _ _ (cZ_L hZ (by assumption))
    | refine ck_refuse hZ (fun _ _ => ?_)
    | refine ck_refuse (cZ_C hZ (by assumption)) (fun _ _ => ?_)
    | exact dC_T (by assumption)
    | exact dG_refl hT
    | exact hA _ _ _ _ _ _ _ (cZ_Q (hw (by assumption)) (by assumption) (by assumption))
    | refine ck_clear (gi.resolve_left (by assumption)) (hw (by assumption)).2.1 (fun _ _ _ _ _ _ _ _ => ?_)
    | simp only [q44_0, q44_1, q44_4, q44_5, q44_8, q44_9, q44_10, q44_13, q44_14, q44_15, q44_18, q44_19, q44_20, q44_23, q44_26, q44_27, q44_29, q44_32, q44_33, q44_34, q44_35, q44_38, q44_39, q44_42, q44_43, q44_46, q44_47, k_0 hS, z_C hS, r_0_4 hS, k_14 hS, z_14, sp_askAt hS gA, as_nil, as_i, as_r, Nat.reduceAdd, Nat.reduceLeDiff, z_eq0, z_eq1, z_or, z_em, Classical.not_not, not_false_eq_true, not_true_eq_false, true_and, and_true, false_and, and_false, and_self, true_implies, false_implies, implies_true, Option.toList_some, Option.toList_none, List.cons_append, List.nil_append, Nat.add_eq_zero_iff, a_nl_i, a_nl_r, a_nl_n, true_or, or_true, eq_self, a_isRA_22, a_isRA_24, a_isRA_32, a_isA_20, ok_4, ok_5, ok_6, ok_7, ok_9, ok_20, ok_21, ok_30, ok_50, ok_180, ok_192, ok_200]
  all_goals ((try clear hq); (try clear hA); (try clear hB); (try clear hB2); (try clear hZ); (try clear hH); (try clear hT); grind [ui_ap])
theorem cu_take (hH : cH C c (n + 1) t K L I R) {q : Int32} (hP : ∀ v n' t' K' L' J R', cZ C (c + 4) (n + 1) K L I R (n' + 1) t' K' L' J R' → P (some (.int v)) (n' + 1, t', K', L', J, R')) : a_does (d + 70) 116 [a_rf C, .int q] (n + 1, t, K, L, I, R) P := by
  have hT := hH.1
  have hS := hT.s
  have hZ := cZ_refl hH
  have hq : ∀ v J R1, cZ C c (n + 1) K L I R (n + 1) t K L J R1 → P (some (.int v)) (n + 1, t, K, L, J, R1) := fun v J R1 z => hP v n t K L J R1 (cZ_le z (by omega))
  have hA : ∀ v n' t' K' L' J R', cZ C c (n + 1) K L I R (n' + 1) t' K' L' J R' → P (some (.int v)) (n' + 1, t', K', L', J, R') := fun v n' t' K' L' J R' z => hP v n' t' K' L' J R' (cZ_le z (by omega))
  have hB : ∀ v n' t' K' L' J R', cZ C (c + 1) (n + 1) K L I R (n' + 1) t' K' L' J R' → P (some (.int v)) (n' + 1, t', K', L', J, R') := fun v n' t' K' L' J R' z => hP v n' t' K' L' J R' (cZ_le z (by omega))
  have hB2 : ∀ v n' t' K' L' J R', cZ C (c + 1 + 1) (n + 1) K L I R (n' + 1) t' K' L' J R' → P (some (.int v)) (n' + 1, t', K', L', J, R') := fun v n' t' K' L' J R' z => hP v n' t' K' L' J R' (cZ_le z (by omega))
  clear hP
  have gA := hT.g_asksR
  have gB := hT.g_benchesR
  have gX := hT.g_textsR
  have gi := gA q.toNatClampNeg
  have ga := fun h => hT.g_ask (R (C + 15) q.toNatClampNeg) (gi.resolve_left h)
  rw [a_enter1 (M := a_m116) rfl (a_cat_rf (a_cat_int a_cat_nil)) (show 2 ≤ 3 by decide)]
  show a_at _ (a_xm a_m116) 0 [some (a_rf C), some (.int q), none] [] _ _
  repeat' first
    | with_reducible apply And.intro
    | with_reducible assumption
    | with_reducible intro _
    | exact hq _ _ _ hZ
    | exact hq _ _ _ (by assumption)
    | exact hq _ _ _ (cZ_C hZ (by assumption))
    | exact hq _ _ _ (cZ_G hZ (by assumption))
    | exact hq _ _ _ (cZ_L hZ (by assumption))
    | refine ck_refuse hZ (fun _ _ => ?_)
    | refine ck_refuse (cZ_C hZ (by assumption)) (fun _ _ => ?_)
    | exact dC_T (by assumption)
    | exact dG_refl hT
    | exact hA _ _ _ _ _ _ _ (cZ_Q hZ (by assumption) (by assumption))
    | refine ck_clear (gi.resolve_left (by assumption)) hH (fun _ _ _ _ _ _ _ _ => ?_)
    | simp only [q116_0, q116_1, q116_4, q116_5, q116_8, q116_9, q116_10, q116_13, q116_14, q116_15, q116_18, q116_19, q116_20, q116_23, q116_24, q116_27, q116_30, q116_31, q116_33, q116_36, q116_37, q116_38, q116_41, q116_42, q116_45, q116_46, k_0 hS, z_C hS, r_0_4 hS, k_14 hS, z_14, sp_askAt hS gA, sp_mayMove hS, as_nil, as_i, as_r, Nat.reduceAdd, Nat.reduceLeDiff, z_eq0, z_eq1, z_or, z_em, Classical.not_not, not_false_eq_true, not_true_eq_false, true_and, and_true, false_and, and_false, and_self, true_implies, false_implies, implies_true, Option.toList_some, Option.toList_none, List.cons_append, List.nil_append, Nat.add_eq_zero_iff, a_nl_i, a_nl_r, a_nl_n, true_or, or_true, eq_self, a_isRA_22, a_isRA_24, a_isRA_32, a_isA_20, ok_4, ok_5, ok_6, ok_7, ok_9, ok_20, ok_21, ok_30, ok_50, ok_180, ok_192, ok_200]
  all_goals ((try clear hq); (try clear hA); (try clear hB); (try clear hB2); (try clear hZ); (try clear hH); (try clear hT); grind [ui_ap])
theorem cu_danger (hH : cH C c (n + 1) t K L I R) {q v : Int32} (hP : ∀ v n' t' K' L' J R', cZ C (c + 4) (n + 1) K L I R (n' + 1) t' K' L' J R' → P (some (.int v)) (n' + 1, t', K', L', J, R')) : a_does (d + 70) 146 [a_rf C, .int q, .int v] (n + 1, t, K, L, I, R) P := by
  have hT := hH.1
  have hS := hT.s
  have hZ := cZ_refl hH
  have hq : ∀ v J R1, cZ C c (n + 1) K L I R (n + 1) t K L J R1 → P (some (.int v)) (n + 1, t, K, L, J, R1) := fun v J R1 z => hP v n t K L J R1 (cZ_le z (by omega))
  have hA : ∀ v n' t' K' L' J R', cZ C c (n + 1) K L I R (n' + 1) t' K' L' J R' → P (some (.int v)) (n' + 1, t', K', L', J, R') := fun v n' t' K' L' J R' z => hP v n' t' K' L' J R' (cZ_le z (by omega))
  have hB : ∀ v n' t' K' L' J R', cZ C (c + 1) (n + 1) K L I R (n' + 1) t' K' L' J R' → P (some (.int v)) (n' + 1, t', K', L', J, R') := fun v n' t' K' L' J R' z => hP v n' t' K' L' J R' (cZ_le z (by omega))
  have hB2 : ∀ v n' t' K' L' J R', cZ C (c + 1 + 1) (n + 1) K L I R (n' + 1) t' K' L' J R' → P (some (.int v)) (n' + 1, t', K', L', J, R') := fun v n' t' K' L' J R' z => hP v n' t' K' L' J R' (cZ_le z (by omega))
  clear hP
  have gA := hT.g_asksR
  have gB := hT.g_benchesR
  have gX := hT.g_textsR
  have gi := gA q.toNatClampNeg
  have ga := fun h => hT.g_ask (R (C + 15) q.toNatClampNeg) (gi.resolve_left h)
  have hw : ¬ R (C + 15) q.toNatClampNeg = 0 → cZ C c (n + 1) K L I R (n + 1) t K L (a_ui I (R (C + 15) q.toNatClampNeg) 9 v) R := fun h => cZ_G hZ (dG_askf (dG_refl hT) (ga h).1 (gi.resolve_left h) (by decide))
  rw [a_enter1 (M := a_m146) rfl (a_cat_rf (a_cat_int (a_cat_int a_cat_nil))) (show 3 ≤ 4 by decide)]
  show a_at _ (a_xm a_m146) 0 [some (a_rf C), some (.int q), some (.int v), none] [] _ _
  repeat' first
    | with_reducible apply And.intro
    | with_reducible assumption
    | with_reducible intro _
    | exact hq _ _ _ hZ
    | exact hq _ _ _ (by assumption)
    | exact hq _ _ _ (cZ_C hZ (by assumption))
    | exact hq _ _ _ (cZ_G hZ (by assumption))
    | exact hq _ _ _ (cZ_L hZ (by assumption))
    | refine ck_refuse hZ (fun _ _ => ?_)
    | refine ck_refuse (cZ_C hZ (by assumption)) (fun _ _ => ?_)
    | exact dC_T (by assumption)
    | exact dG_refl hT
    | exact hA _ _ _ _ _ _ _ (cZ_Q (hw (by assumption)) (by assumption) (by assumption))
    | refine ck_clearUnfit (gi.resolve_left (by assumption)) (hw (by assumption)).2.1 (fun _ _ _ _ _ _ _ _ _ => ?_)
    | simp only [q146_0, q146_1, q146_4, q146_5, q146_8, q146_9, q146_10, q146_13, q146_14, q146_15, q146_18, q146_19, q146_20, q146_23, q146_24, q146_26, q146_29, q146_30, q146_31, q146_33, q146_36, q146_37, q146_39, q146_42, q146_43, q146_44, q146_45, q146_48, q146_49, q146_52, q146_53, q146_56, q146_59, q146_60, q146_63, q146_64, k_0 hS, z_C hS, r_0_4 hS, k_14 hS, z_14, sp_askAt hS gA, as_nil, as_i, as_r, Nat.reduceAdd, Nat.reduceLeDiff, z_eq0, z_eq1, z_or, z_em, Classical.not_not, not_false_eq_true, not_true_eq_false, true_and, and_true, false_and, and_false, and_self, true_implies, false_implies, implies_true, Option.toList_some, Option.toList_none, List.cons_append, List.nil_append, Nat.add_eq_zero_iff, a_nl_i, a_nl_r, a_nl_n, true_or, or_true, eq_self, a_isRA_22, a_isRA_24, a_isRA_32, a_isA_20, ok_4, ok_5, ok_6, ok_7, ok_9, ok_20, ok_21, ok_30, ok_50, ok_180, ok_192, ok_200]
  all_goals ((try clear hq); (try clear hA); (try clear hB); (try clear hB2); (try clear hZ); (try clear hH); (try clear hT); grind [ui_ap])
theorem cu_again (hH : cH C c (n + 1) t K L I R) (hP : ∀ v n' t' K' L' J R', cZ C (c + 4) (n + 1) K L I R (n' + 1) t' K' L' J R' → P (some (.int v)) (n' + 1, t', K', L', J, R')) : a_does (d + 70) 143 [a_rf C] (n + 1, t, K, L, I, R) P := by
  have hT := hH.1
  have hS := hT.s
  have hZ := cZ_refl hH
  have hq : ∀ v J R1, cZ C c (n + 1) K L I R (n + 1) t K L J R1 → P (some (.int v)) (n + 1, t, K, L, J, R1) := fun v J R1 z => hP v n t K L J R1 (cZ_le z (by omega))
  have hA : ∀ v n' t' K' L' J R', cZ C c (n + 1) K L I R (n' + 1) t' K' L' J R' → P (some (.int v)) (n' + 1, t', K', L', J, R') := fun v n' t' K' L' J R' z => hP v n' t' K' L' J R' (cZ_le z (by omega))
  have hB : ∀ v n' t' K' L' J R', cZ C (c + 1) (n + 1) K L I R (n' + 1) t' K' L' J R' → P (some (.int v)) (n' + 1, t', K', L', J, R') := fun v n' t' K' L' J R' z => hP v n' t' K' L' J R' (cZ_le z (by omega))
  have hB2 : ∀ v n' t' K' L' J R', cZ C (c + 1 + 1) (n + 1) K L I R (n' + 1) t' K' L' J R' → P (some (.int v)) (n' + 1, t', K', L', J, R') := fun v n' t' K' L' J R' z => hP v n' t' K' L' J R' (cZ_le z (by omega))
  clear hP
  rw [a_enter1 (M := a_m143) rfl (a_cat_rf a_cat_nil) (show 1 ≤ 1 by decide)]
  show a_at _ (a_xm a_m143) 0 [some (a_rf C)] [] _ _
  simp only [q143_0, q143_1, q143_4, k_0 hS, z_C hS, r_0_5 hS, k_22 hS, z_22, as_nil, as_i, as_r, Nat.reduceAdd, Nat.reduceLeDiff, z_eq0, z_eq1, z_or, z_em, Classical.not_not, not_false_eq_true, not_true_eq_false, true_and, and_true, false_and, and_false, and_self, true_implies, false_implies, implies_true, Option.toList_some, Option.toList_none, List.cons_append, List.nil_append, Nat.add_eq_zero_iff, a_nl_i, a_nl_r, a_nl_n, true_or, or_true, eq_self, a_isRA_22, a_isRA_24, a_isRA_32, a_isA_20, ok_4, ok_5, ok_6, ok_7, ok_9, ok_20, ok_21, ok_30, ok_50, ok_180, ok_192, ok_200]
  refine ck_planAgain hZ (fun v n' t' K' L' J R' z => ?_)
  simp only [q143_7, as_nil, as_i, as_r, Nat.reduceAdd, Nat.reduceLeDiff, z_eq0, z_eq1, z_or, z_em, Classical.not_not, not_false_eq_true, not_true_eq_false, true_and, and_true, false_and, and_false, and_self, true_implies, false_implies, implies_true, Option.toList_some, Option.toList_none, List.cons_append, List.nil_append, Nat.add_eq_zero_iff, a_nl_i, a_nl_r, a_nl_n, true_or, or_true, eq_self, a_isRA_22, a_isRA_24, a_isRA_32, a_isA_20, ok_4, ok_5, ok_6, ok_7, ok_9, ok_20, ok_21, ok_30, ok_50, ok_180, ok_192, ok_200]
  exact hA v n' t' K' L' J R' z
theorem cu_swap (hH : cH C c (n + 1) t K L I R) (hP : ∀ v n' t' K' L' J R', cZ C (c + 4) (n + 1) K L I R (n' + 1) t' K' L' J R' → P (some (.int v)) (n' + 1, t', K', L', J, R')) : a_does (d + 70) 158 [a_rf C] (n + 1, t, K, L, I, R) P := by
  have hT := hH.1
  have hS := hT.s
  have hZ := cZ_refl hH
  have hq : ∀ v J R1, cZ C c (n + 1) K L I R (n + 1) t K L J R1 → P (some (.int v)) (n + 1, t, K, L, J, R1) := fun v J R1 z => hP v n t K L J R1 (cZ_le z (by omega))
  have hA : ∀ v n' t' K' L' J R', cZ C c (n + 1) K L I R (n' + 1) t' K' L' J R' → P (some (.int v)) (n' + 1, t', K', L', J, R') := fun v n' t' K' L' J R' z => hP v n' t' K' L' J R' (cZ_le z (by omega))
  have hB : ∀ v n' t' K' L' J R', cZ C (c + 1) (n + 1) K L I R (n' + 1) t' K' L' J R' → P (some (.int v)) (n' + 1, t', K', L', J, R') := fun v n' t' K' L' J R' z => hP v n' t' K' L' J R' (cZ_le z (by omega))
  have hB2 : ∀ v n' t' K' L' J R', cZ C (c + 1 + 1) (n + 1) K L I R (n' + 1) t' K' L' J R' → P (some (.int v)) (n' + 1, t', K', L', J, R') := fun v n' t' K' L' J R' z => hP v n' t' K' L' J R' (cZ_le z (by omega))
  clear hP
  rw [a_enter1 (M := a_m158) rfl (a_cat_rf a_cat_nil) (show 1 ≤ 1 by decide)]
  show a_at _ (a_xm a_m158) 0 [some (a_rf C)] [] _ _
  simp only [q158_0, q158_1, q158_4, k_0 hS, z_C hS, r_0_7 hS, k_35 hS, z_35, as_nil, as_i, as_r, Nat.reduceAdd, Nat.reduceLeDiff, z_eq0, z_eq1, z_or, z_em, Classical.not_not, not_false_eq_true, not_true_eq_false, true_and, and_true, false_and, and_false, and_self, true_implies, false_implies, implies_true, Option.toList_some, Option.toList_none, List.cons_append, List.nil_append, Nat.add_eq_zero_iff, a_nl_i, a_nl_r, a_nl_n, true_or, or_true, eq_self, a_isRA_22, a_isRA_24, a_isRA_32, a_isA_20, ok_4, ok_5, ok_6, ok_7, ok_9, ok_20, ok_21, ok_30, ok_50, ok_180, ok_192, ok_200]
  refine ck_find hZ (fun v J R2 z e1 e2 e3 e4 => ?_)
  have hS := z.2.1.1.s
  simp only [q158_7, q158_10, q158_11, q158_13, q158_16, q158_17, q158_18, q158_21, k_0 hS, z_C hS, r_0_7 hS, k_35 hS, z_35, as_nil, as_i, as_r, Nat.reduceAdd, Nat.reduceLeDiff, z_eq0, z_eq1, z_or, z_em, Classical.not_not, not_false_eq_true, not_true_eq_false, true_and, and_true, false_and, and_false, and_self, true_implies, false_implies, implies_true, Option.toList_some, Option.toList_none, List.cons_append, List.nil_append, Nat.add_eq_zero_iff, a_nl_i, a_nl_r, a_nl_n, true_or, or_true, eq_self, a_isRA_22, a_isRA_24, a_isRA_32, a_isA_20, ok_4, ok_5, ok_6, ok_7, ok_9, ok_20, ok_21, ok_30, ok_50, ok_180, ok_192, ok_200]
  refine ⟨fun h => ?_, fun h => ?_⟩
  all_goals first
    | (refine ck_refuse z (fun J2 z2 => ?_)
       simp only [q158_16, as_nil, as_i, as_r, Nat.reduceAdd, Nat.reduceLeDiff, z_eq0, z_eq1, z_or, z_em, Classical.not_not, not_false_eq_true, not_true_eq_false, true_and, and_true, false_and, and_false, and_self, true_implies, false_implies, implies_true, Option.toList_some, Option.toList_none, List.cons_append, List.nil_append, Nat.add_eq_zero_iff, a_nl_i, a_nl_r, a_nl_n, true_or, or_true, eq_self, a_isRA_22, a_isRA_24, a_isRA_32, a_isA_20, ok_4, ok_5, ok_6, ok_7, ok_9, ok_20, ok_21, ok_30, ok_50, ok_180, ok_192, ok_200]
       exact hq _ _ _ z2)
    | (have hv := e2.resolve_left h
       refine ck_turn (m := v) (Int32.le_trans (by decide) hv.1) hv.2 e3 e4 e1 z (fun v2 n' t' K' L' J' R' z2 => ?_)
       simp only [q158_24, as_nil, as_i, as_r, Nat.reduceAdd, Nat.reduceLeDiff, z_eq0, z_eq1, z_or, z_em, Classical.not_not, not_false_eq_true, not_true_eq_false, true_and, and_true, false_and, and_false, and_self, true_implies, false_implies, implies_true, Option.toList_some, Option.toList_none, List.cons_append, List.nil_append, Nat.add_eq_zero_iff, a_nl_i, a_nl_r, a_nl_n, true_or, or_true, eq_self, a_isRA_22, a_isRA_24, a_isRA_32, a_isA_20, ok_4, ok_5, ok_6, ok_7, ok_9, ok_20, ok_21, ok_30, ok_50, ok_180, ok_192, ok_200]
       exact hA _ _ _ _ _ _ _ z2)
theorem cu_draft (hH : cH C c (n + 1) t K L I R) {g l m w : Int32} (hP : ∀ v n' t' K' L' J R', cZ C (c + 4) (n + 1) K L I R (n' + 1) t' K' L' J R' → P (some (.int v)) (n' + 1, t', K', L', J, R')) : a_does (d + 70) 36 [a_rf C, .int g, .int l, .int m, .int w] (n + 1, t, K, L, I, R) P := by
  have hT := hH.1
  have hS := hT.s
  have hZ := cZ_refl hH
  have hq : ∀ v J R1, cZ C c (n + 1) K L I R (n + 1) t K L J R1 → P (some (.int v)) (n + 1, t, K, L, J, R1) := fun v J R1 z => hP v n t K L J R1 (cZ_le z (by omega))
  have hA : ∀ v n' t' K' L' J R', cZ C c (n + 1) K L I R (n' + 1) t' K' L' J R' → P (some (.int v)) (n' + 1, t', K', L', J, R') := fun v n' t' K' L' J R' z => hP v n' t' K' L' J R' (cZ_le z (by omega))
  have hB : ∀ v n' t' K' L' J R', cZ C (c + 1) (n + 1) K L I R (n' + 1) t' K' L' J R' → P (some (.int v)) (n' + 1, t', K', L', J, R') := fun v n' t' K' L' J R' z => hP v n' t' K' L' J R' (cZ_le z (by omega))
  have hB2 : ∀ v n' t' K' L' J R', cZ C (c + 1 + 1) (n + 1) K L I R (n' + 1) t' K' L' J R' → P (some (.int v)) (n' + 1, t', K', L', J, R') := fun v n' t' K' L' J R' z => hP v n' t' K' L' J R' (cZ_le z (by omega))
  clear hP
  have f0 : (n + 1 = 0) = False := eq_false (by omega)
  have hC := hH.2.2.1
  have nC : (C = n + 1) = False := eq_false (by omega)
  have hgo : (1 ≤ m ∧ m ≤ 4) → a_at (d + 69) (a_xm a_m36) 61 [some (a_rf C), some (.int g), some (.int l), some (.int m), some (.int w)] [] (n + 1, t, K, L, I, R) P := fun hm => by
    simp only [q36_61, q36_62, q36_65, q36_66, q36_67, q36_68, q36_69, q36_71, as_nil, as_i, as_r, Nat.reduceAdd, Nat.reduceLeDiff, z_eq0, z_eq1, z_or, z_em, Classical.not_not, not_false_eq_true, not_true_eq_false, true_and, and_true, false_and, and_false, and_self, true_implies, false_implies, implies_true, Option.toList_some, Option.toList_none, List.cons_append, List.nil_append, Nat.add_eq_zero_iff, a_nl_i, a_nl_r, a_nl_n, true_or, or_true, eq_self, a_isRA_22, a_isRA_24, a_isRA_32, a_isA_20, ok_4, ok_5, ok_6, ok_7, ok_9, ok_20, ok_21, ok_30, ok_50, ok_180, ok_192, ok_200, f0]
    refine ck_Ainit hZ hm (fun t' K' L' J R' z k1 k2 => ?_)
    have hS := z.2.1.1.s
    simp only [q36_74, q36_77, q36_78, k_0 hS, z_C hS, as_nil, as_i, as_r, Nat.reduceAdd, Nat.reduceLeDiff, z_eq0, z_eq1, z_or, z_em, Classical.not_not, not_false_eq_true, not_true_eq_false, true_and, and_true, false_and, and_false, and_self, true_implies, false_implies, implies_true, Option.toList_some, Option.toList_none, List.cons_append, List.nil_append, Nat.add_eq_zero_iff, a_nl_i, a_nl_r, a_nl_n, true_or, or_true, eq_self, a_isRA_22, a_isRA_24, a_isRA_32, a_isA_20, ok_4, ok_5, ok_6, ok_7, ok_9, ok_20, ok_21, ok_30, ok_50, ok_180, ok_192, ok_200, ui_ap, cc_ne, cc_n0, cc_0n, Nat.reduceEqDiff, reduceIte, if_true, if_false]
    exact hB _ _ _ _ _ _ _ (cZ_Rd z (Or.inr k1))
  rw [a_enter1 (M := a_m36) rfl (a_cat_rf (a_cat_int (a_cat_int (a_cat_int (a_cat_int a_cat_nil))))) (show 5 ≤ 5 by decide)]
  show a_at _ (a_xm a_m36) 0 [some (a_rf C), some (.int g), some (.int l), some (.int m), some (.int w)] [] _ _
  repeat' first
    | with_reducible apply And.intro
    | with_reducible assumption
    | with_reducible intro _
    | exact hq _ _ _ hZ
    | exact hq _ _ _ (by assumption)
    | exact hq _ _ _ (cZ_C hZ (by assumption))
    | exact hq _ _ _ (cZ_G hZ (by assumption))
    | exact hq _ _ _ (cZ_L hZ (by assumption))
    | refine ck_refuse hZ (fun _ _ => ?_)
    | refine ck_refuse (cZ_C hZ (by assumption)) (fun _ _ => ?_)
    | exact dC_T (by assumption)
    | exact dG_refl hT
    | with_reducible apply hgo
    | simp only [q36_0, q36_1, q36_4, q36_5, q36_7, q36_10, q36_11, q36_14, q36_15, q36_16, q36_19, q36_20, q36_21, q36_24, q36_25, q36_26, q36_27, q36_30, q36_32, q36_35, q36_36, q36_38, q36_41, q36_42, q36_43, q36_44, q36_47, q36_49, q36_51, q36_54, q36_55, q36_57, q36_60, k_0 hS, z_C hS, as_nil, as_i, as_r, Nat.reduceAdd, Nat.reduceLeDiff, z_eq0, z_eq1, z_or, z_em, Classical.not_not, not_false_eq_true, not_true_eq_false, true_and, and_true, false_and, and_false, and_self, true_implies, false_implies, implies_true, Option.toList_some, Option.toList_none, List.cons_append, List.nil_append, Nat.add_eq_zero_iff, a_nl_i, a_nl_r, a_nl_n, true_or, or_true, eq_self, a_isRA_22, a_isRA_24, a_isRA_32, a_isA_20, ok_4, ok_5, ok_6, ok_7, ok_9, ok_20, ok_21, ok_30, ok_50, ok_180, ok_192, ok_200]
  all_goals ((try clear hgo); (try clear hq); (try clear hA); (try clear hB); (try clear hB2); (try clear hZ); (try clear hH); (try clear hT); grind [ui_ap])
theorem ck_addAsk2 {a : Nat} (ha : K a = 1) (hZ : cZ C c n0 K0 L0 I0 R0 n t K L I R) (hP : ∀ v J R', cZ C c n0 K0 L0 I0 R0 n t K L J R' → P (some (.int v)) (n, t, K, L, J, R')) : a_does (d + 1) 43 [a_rf (C + 14), a_rf a] (n, t, K, L, I, R) P := by
  by_cases hc : 30 ≤ I (C + 14) 4
  · have hS := hZ.2.1.1.s
    rw [a_enter1 (M := a_m43) rfl (a_cat_rf (a_cat_rf a_cat_nil)) (show 2 ≤ 2 by decide)]
    show a_at _ (a_xm a_m43) 0 [some (a_rf (C + 14)), some (a_rf a)] [] _ _
    have hc2 : ¬ I (C + 14) 4 < 30 := Int32.not_lt.mpr hc
    have h0 := fun v => hP v I R hZ
    simp only [q43_0, q43_1, q43_4, q43_6, q43_9, q43_11, k_14 hS, z_14, as_nil, as_i, as_r, Nat.reduceAdd, Nat.reduceLeDiff, z_eq0, z_eq1, z_or, z_em, Classical.not_not, not_false_eq_true, not_true_eq_false, true_and, and_true, false_and, and_false, and_self, true_implies, false_implies, implies_true, Option.toList_some, Option.toList_none, List.cons_append, List.nil_append, Nat.add_eq_zero_iff, a_nl_i, a_nl_r, a_nl_n, true_or, or_true, eq_self, a_isRA_22, a_isRA_24, a_isRA_32, a_isA_20, ok_4, ok_5, ok_6, ok_7, ok_9, ok_20, ok_21, ok_30, ok_50, ok_180, ok_192, ok_200, hc, hc2]
    first
      | exact h0 _
      | exact ⟨fun h => absurd h hc2, fun _ => h0 _⟩
  · exact ck_addAsk ha hZ hc hP
theorem cu_ask (hH : cH C c (n + 1) t K L I R) {k bs ms g dg x y : Int32} (hP : ∀ v n' t' K' L' J R', cZ C (c + 4) (n + 1) K L I R (n' + 1) t' K' L' J R' → P (some (.int v)) (n' + 1, t', K', L', J, R')) : a_does (d + 70) 38 [a_rf C, .int k, .int bs, .int ms, .int g, .int dg, .int x, .int y] (n + 1, t, K, L, I, R) P := by
  have hT := hH.1
  have hS := hT.s
  have hZ := cZ_refl hH
  have hq : ∀ v J R1, cZ C c (n + 1) K L I R (n + 1) t K L J R1 → P (some (.int v)) (n + 1, t, K, L, J, R1) := fun v J R1 z => hP v n t K L J R1 (cZ_le z (by omega))
  have hA : ∀ v n' t' K' L' J R', cZ C c (n + 1) K L I R (n' + 1) t' K' L' J R' → P (some (.int v)) (n' + 1, t', K', L', J, R') := fun v n' t' K' L' J R' z => hP v n' t' K' L' J R' (cZ_le z (by omega))
  have hB : ∀ v n' t' K' L' J R', cZ C (c + 1) (n + 1) K L I R (n' + 1) t' K' L' J R' → P (some (.int v)) (n' + 1, t', K', L', J, R') := fun v n' t' K' L' J R' z => hP v n' t' K' L' J R' (cZ_le z (by omega))
  have hB2 : ∀ v n' t' K' L' J R', cZ C (c + 1 + 1) (n + 1) K L I R (n' + 1) t' K' L' J R' → P (some (.int v)) (n' + 1, t', K', L', J, R') := fun v n' t' K' L' J R' z => hP v n' t' K' L' J R' (cZ_le z (by omega))
  clear hP
  have gA := hT.g_asksR
  have gB := hT.g_benchesR
  have gX := hT.g_textsR
  have gd := hT.g_draft
  have gi := gA x.toNatClampNeg
  have hgo : ¬ R C 11 = 0 → ∀ u, a_at (d + 69) (a_xm a_m38) 152 [some (a_rf C), some (.int k), some (.int bs), some (.int ms), some (.int g), some (.int dg), some (.int x), some (.int y), u] [] (n + 1, t, K, L, I, R) P := fun h0 u => by
    have ha := gd.resolve_left h0
    have a1 := (hT.g_ask _ ha).1
    simp only [q38_152, q38_153, q38_156, q38_158, q38_160, q38_161, q38_162, q38_164, q38_166, k_0 hS, z_C hS, as_nil, as_i, as_r, Nat.reduceAdd, Nat.reduceLeDiff, z_eq0, z_eq1, z_or, z_em, Classical.not_not, not_false_eq_true, not_true_eq_false, true_and, and_true, false_and, and_false, and_self, true_implies, false_implies, implies_true, Option.toList_some, Option.toList_none, List.cons_append, List.nil_append, Nat.add_eq_zero_iff, a_nl_i, a_nl_r, a_nl_n, true_or, or_true, eq_self, a_isRA_22, a_isRA_24, a_isRA_32, a_isA_20, ok_4, ok_5, ok_6, ok_7, ok_9, ok_20, ok_21, ok_30, ok_50, ok_180, ok_192, ok_200, ha, h0]
    refine ck_want ha (dG_refl hT) (fun J1 g1 => ?_)
    simp only [q38_169, q38_171, q38_172, q38_174, q38_176, k_0 hS, z_C hS, as_nil, as_i, as_r, Nat.reduceAdd, Nat.reduceLeDiff, z_eq0, z_eq1, z_or, z_em, Classical.not_not, not_false_eq_true, not_true_eq_false, true_and, and_true, false_and, and_false, and_self, true_implies, false_implies, implies_true, Option.toList_some, Option.toList_none, List.cons_append, List.nil_append, Nat.add_eq_zero_iff, a_nl_i, a_nl_r, a_nl_n, true_or, or_true, eq_self, a_isRA_22, a_isRA_24, a_isRA_32, a_isA_20, ok_4, ok_5, ok_6, ok_7, ok_9, ok_20, ok_21, ok_30, ok_50, ok_180, ok_192, ok_200, ha, h0]
    refine ck_bind ha g1 (fun J2 g2 => ?_)
    have z2 := cZ_Rd (v := 0) (cZ_G hZ g2) (Or.inl rfl)
    have e0 : a_rf 0 = .null := rfl
    simp only [q38_179, q38_180, q38_181, q38_184, q38_185, q38_188, q38_190, k_0 hS, z_C hS, r_0_4 hS, k_14 hS, z_14, as_nil, as_i, as_r, Nat.reduceAdd, Nat.reduceLeDiff, z_eq0, z_eq1, z_or, z_em, Classical.not_not, not_false_eq_true, not_true_eq_false, true_and, and_true, false_and, and_false, and_self, true_implies, false_implies, implies_true, Option.toList_some, Option.toList_none, List.cons_append, List.nil_append, Nat.add_eq_zero_iff, a_nl_i, a_nl_r, a_nl_n, true_or, or_true, eq_self, a_isRA_22, a_isRA_24, a_isRA_32, a_isA_20, ok_4, ok_5, ok_6, ok_7, ok_9, ok_20, ok_21, ok_30, ok_50, ok_180, ok_192, ok_200, ur_ap, cc_ne, cc_n0, cc_0n, Nat.reduceEqDiff, if_false, ha, h0]
    refine ck_addAsk2 ha z2 (fun v J4 R4 z5 => ?_)
    simp only [q38_193, as_nil, as_i, as_r, Nat.reduceAdd, Nat.reduceLeDiff, z_eq0, z_eq1, z_or, z_em, Classical.not_not, not_false_eq_true, not_true_eq_false, true_and, and_true, false_and, and_false, and_self, true_implies, false_implies, implies_true, Option.toList_some, Option.toList_none, List.cons_append, List.nil_append, Nat.add_eq_zero_iff, a_nl_i, a_nl_r, a_nl_n, true_or, or_true, eq_self, a_isRA_22, a_isRA_24, a_isRA_32, a_isA_20, ok_4, ok_5, ok_6, ok_7, ok_9, ok_20, ok_21, ok_30, ok_50, ok_180, ok_192, ok_200]
    exact hq _ _ _ z5
  rw [a_enter1 (M := a_m38) rfl (a_cat_rf (a_cat_int (a_cat_int (a_cat_int (a_cat_int (a_cat_int (a_cat_int (a_cat_int a_cat_nil)))))))) (show 8 ≤ 9 by decide)]
  show a_at _ (a_xm a_m38) 0 [some (a_rf C), some (.int k), some (.int bs), some (.int ms), some (.int g), some (.int dg), some (.int x), some (.int y), none] [] _ _
  repeat' first
    | with_reducible apply And.intro
    | with_reducible assumption
    | with_reducible intro _
    | exact hq _ _ _ hZ
    | exact hq _ _ _ (by assumption)
    | exact hq _ _ _ (cZ_C hZ (by assumption))
    | exact hq _ _ _ (cZ_G hZ (by assumption))
    | exact hq _ _ _ (cZ_L hZ (by assumption))
    | refine ck_refuse hZ (fun _ _ => ?_)
    | refine ck_refuse (cZ_C hZ (by assumption)) (fun _ _ => ?_)
    | exact dC_T (by assumption)
    | exact dG_refl hT
    | with_reducible apply ck_daysBelow
    | with_reducible apply ck_daysAbove
    | with_reducible apply hgo
    | simp only [q38_0, q38_1, q38_4, q38_7, q38_8, q38_10, q38_13, q38_14, q38_15, q38_18, q38_19, q38_20, q38_23, q38_24, q38_26, q38_29, q38_30, q38_31, q38_34, q38_35, q38_38, q38_40, q38_43, q38_44, q38_46, q38_48, q38_51, q38_54, q38_55, q38_57, q38_60, q38_61, q38_62, q38_64, q38_67, q38_68, q38_70, q38_73, q38_75, q38_77, q38_80, q38_81, q38_83, q38_85, q38_88, q38_91, q38_92, q38_95, q38_98, q38_100, q38_103, q38_104, q38_106, q38_109, q38_110, q38_112, q38_113, q38_116, q38_118, q38_120, q38_123, q38_124, q38_125, q38_128, q38_129, q38_130, q38_131, q38_134, q38_135, q38_138, q38_140, q38_143, q38_146, q38_147, q38_148, q38_151, k_0 hS, z_C hS, r_0_4 hS, k_14 hS, z_14, sp_askAt hS gA, as_nil, as_i, as_r, Nat.reduceAdd, Nat.reduceLeDiff, z_eq0, z_eq1, z_or, z_em, Classical.not_not, not_false_eq_true, not_true_eq_false, true_and, and_true, false_and, and_false, and_self, true_implies, false_implies, implies_true, Option.toList_some, Option.toList_none, List.cons_append, List.nil_append, Nat.add_eq_zero_iff, a_nl_i, a_nl_r, a_nl_n, true_or, or_true, eq_self, a_isRA_22, a_isRA_24, a_isRA_32, a_isA_20, ok_4, ok_5, ok_6, ok_7, ok_9, ok_20, ok_21, ok_30, ok_50, ok_180, ok_192, ok_200]
  all_goals ((try clear hgo); (try clear hq); (try clear hA); (try clear hB); (try clear hB2); (try clear hZ); (try clear hH); (try clear hT); grind [ui_ap])
theorem cu_owe (hH : cH C c (n + 1) t K L I R) {q : Int32} (hP : ∀ v n' t' K' L' J R', cZ C (c + 4) (n + 1) K L I R (n' + 1) t' K' L' J R' → P (some (.int v)) (n' + 1, t', K', L', J, R')) : a_does (d + 70) 141 [a_rf C, .int q] (n + 1, t, K, L, I, R) P := by
  have hT := hH.1
  have hS := hT.s
  have hZ := cZ_refl hH
  have hq : ∀ v J R1, cZ C c (n + 1) K L I R (n + 1) t K L J R1 → P (some (.int v)) (n + 1, t, K, L, J, R1) := fun v J R1 z => hP v n t K L J R1 (cZ_le z (by omega))
  have hA : ∀ v n' t' K' L' J R', cZ C c (n + 1) K L I R (n' + 1) t' K' L' J R' → P (some (.int v)) (n' + 1, t', K', L', J, R') := fun v n' t' K' L' J R' z => hP v n' t' K' L' J R' (cZ_le z (by omega))
  have hB : ∀ v n' t' K' L' J R', cZ C (c + 1) (n + 1) K L I R (n' + 1) t' K' L' J R' → P (some (.int v)) (n' + 1, t', K', L', J, R') := fun v n' t' K' L' J R' z => hP v n' t' K' L' J R' (cZ_le z (by omega))
  have hB2 : ∀ v n' t' K' L' J R', cZ C (c + 1 + 1) (n + 1) K L I R (n' + 1) t' K' L' J R' → P (some (.int v)) (n' + 1, t', K', L', J, R') := fun v n' t' K' L' J R' z => hP v n' t' K' L' J R' (cZ_le z (by omega))
  clear hP
  have gA := hT.g_asksR
  have gB := hT.g_benchesR
  have gX := hT.g_textsR
  have gi := gA q.toNatClampNeg
  have ga := fun h => hT.g_ask (R (C + 15) q.toNatClampNeg) (gi.resolve_left h)
  have hgo : ¬ R (C + 15) q.toNatClampNeg = 0 → ∀ J1, dC C K L R I J1 → ¬ hw C L R I (R (C + 15) q.toNatClampNeg) = 0 → a_at (d + 69) (a_xm a_m141) 74 [some (a_rf C), some (.int q), some (a_rf (R (C + 15) q.toNatClampNeg))] [] (n + 1, t, K, L, J1, R) P := fun h0 J1 j1 hv => by
    have ha := gi.resolve_left h0
    have a1 := (ga h0).1
    have hT1 := j1.1
    have z1 := cZ_C hZ j1
    have g2 : dG C K L R J1 (a_ui J1 (R (C + 15) q.toNatClampNeg) 16 1) := dG_askf (dG_refl hT1) a1 ha (by decide)
    have z2 := cZ_G z1 g2
    have e1 : hw C L R (a_ui J1 (R (C + 15) q.toNatClampNeg) 16 1) (R (C + 15) q.toNatClampNeg) = hw C L R I (R (C + 15) q.toNatClampNeg) := (hw_ui ha hT1).trans (hw_C j1 ha hT)
    have hr := hw_rng ha hT
    have hm : 1 ≤ hw C L R I (R (C + 15) q.toNatClampNeg) ∧ hw C L R I (R (C + 15) q.toNatClampNeg) ≤ 4 := by
      generalize hw C L R I (R (C + 15) q.toNatClampNeg) = w at hv hr
      clear hq hA hB hB2 hZ hH hT hT1 z1 z2 g2 ga gi gA gB gX e1
      grind
    simp only [q141_74, q141_75, q141_76, q141_79, q141_80, q141_83, q141_84, q141_85, q141_88, q141_89, k_0 hS, z_C hS, r_0_4 hS, k_14 hS, z_14, as_nil, as_i, as_r, Nat.reduceAdd, Nat.reduceLeDiff, z_eq0, z_eq1, z_or, z_em, Classical.not_not, not_false_eq_true, not_true_eq_false, true_and, and_true, false_and, and_false, and_self, true_implies, false_implies, implies_true, Option.toList_some, Option.toList_none, List.cons_append, List.nil_append, Nat.add_eq_zero_iff, a_nl_i, a_nl_r, a_nl_n, true_or, or_true, eq_self, a_isRA_22, a_isRA_24, a_isRA_32, a_isA_20, ok_4, ok_5, ok_6, ok_7, ok_9, ok_20, ok_21, ok_30, ok_50, ok_180, ok_192, ok_200, ui_ap, cc_ne, cc_n0, cc_0n, Nat.reduceEqDiff, reduceIte, if_true, if_false, ha, h0]
    refine ck_hallOwed ha g2.1 (fun J3 j3 => ?_)
    have z3 := cZ_C z2 j3
    rw [e1]
    simp only [q141_92, k_0 hS, z_C hS, as_nil, as_i, as_r, Nat.reduceAdd, Nat.reduceLeDiff, z_eq0, z_eq1, z_or, z_em, Classical.not_not, not_false_eq_true, not_true_eq_false, true_and, and_true, false_and, and_false, and_self, true_implies, false_implies, implies_true, Option.toList_some, Option.toList_none, List.cons_append, List.nil_append, Nat.add_eq_zero_iff, a_nl_i, a_nl_r, a_nl_n, true_or, or_true, eq_self, a_isRA_22, a_isRA_24, a_isRA_32, a_isA_20, ok_4, ok_5, ok_6, ok_7, ok_9, ok_20, ok_21, ok_30, ok_50, ok_180, ok_192, ok_200, ha, h0]
    refine ck_owedOne ha z3 hm (fun t' K' L' J' R' z4 k1 k2 => ?_)
    have hS := z4.2.1.1.s
    simp only [q141_95, k_0 hS, z_C hS, as_nil, as_i, as_r, Nat.reduceAdd, Nat.reduceLeDiff, z_eq0, z_eq1, z_or, z_em, Classical.not_not, not_false_eq_true, not_true_eq_false, true_and, and_true, false_and, and_false, and_self, true_implies, false_implies, implies_true, Option.toList_some, Option.toList_none, List.cons_append, List.nil_append, Nat.add_eq_zero_iff, a_nl_i, a_nl_r, a_nl_n, true_or, or_true, eq_self, a_isRA_22, a_isRA_24, a_isRA_32, a_isA_20, ok_4, ok_5, ok_6, ok_7, ok_9, ok_20, ok_21, ok_30, ok_50, ok_180, ok_192, ok_200]
    refine ⟨k_14 hS, ck_addAsk2 k1 z4 (fun v J4 R4 z5 => ?_)⟩
    simp only [q141_98, as_nil, as_i, as_r, Nat.reduceAdd, Nat.reduceLeDiff, z_eq0, z_eq1, z_or, z_em, Classical.not_not, not_false_eq_true, not_true_eq_false, true_and, and_true, false_and, and_false, and_self, true_implies, false_implies, implies_true, Option.toList_some, Option.toList_none, List.cons_append, List.nil_append, Nat.add_eq_zero_iff, a_nl_i, a_nl_r, a_nl_n, true_or, or_true, eq_self, a_isRA_22, a_isRA_24, a_isRA_32, a_isA_20, ok_4, ok_5, ok_6, ok_7, ok_9, ok_20, ok_21, ok_30, ok_50, ok_180, ok_192, ok_200]
    exact hB _ _ _ _ _ _ _ z5
  rw [a_enter1 (M := a_m141) rfl (a_cat_rf (a_cat_int a_cat_nil)) (show 2 ≤ 3 by decide)]
  show a_at _ (a_xm a_m141) 0 [some (a_rf C), some (.int q), none] [] _ _
  repeat' first
    | with_reducible apply And.intro
    | with_reducible assumption
    | with_reducible intro _
    | exact hq _ _ _ hZ
    | exact hq _ _ _ (by assumption)
    | exact hq _ _ _ (cZ_C hZ (by assumption))
    | exact hq _ _ _ (cZ_G hZ (by assumption))
    | exact hq _ _ _ (cZ_L hZ (by assumption))
    | refine ck_refuse hZ (fun _ _ => ?_)
    | refine ck_refuse (cZ_C hZ (by assumption)) (fun _ _ => ?_)
    | exact dC_T (by assumption)
    | exact dG_refl hT
    | refine ck_hallOwed (gi.resolve_left (by assumption)) hT (fun _ _ => ?_)
    | exact hgo (by assumption) _ (by assumption) (by assumption)
    | with_reducible apply ck_loss ?_ hT
    | simp only [q141_0, q141_1, q141_4, q141_5, q141_8, q141_9, q141_10, q141_13, q141_14, q141_15, q141_18, q141_19, q141_20, q141_23, q141_26, q141_27, q141_30, q141_31, q141_34, q141_37, q141_38, q141_41, q141_42, q141_45, q141_48, q141_49, q141_51, q141_54, q141_55, q141_56, q141_59, q141_62, q141_64, q141_67, q141_68, q141_70, q141_73, k_0 hS, z_C hS, r_0_4 hS, k_14 hS, z_14, sp_askAt hS gA, as_nil, as_i, as_r, Nat.reduceAdd, Nat.reduceLeDiff, z_eq0, z_eq1, z_or, z_em, Classical.not_not, not_false_eq_true, not_true_eq_false, true_and, and_true, false_and, and_false, and_self, true_implies, false_implies, implies_true, Option.toList_some, Option.toList_none, List.cons_append, List.nil_append, Nat.add_eq_zero_iff, a_nl_i, a_nl_r, a_nl_n, true_or, or_true, eq_self, a_isRA_22, a_isRA_24, a_isRA_32, a_isA_20, ok_4, ok_5, ok_6, ok_7, ok_9, ok_20, ok_21, ok_30, ok_50, ok_180, ok_192, ok_200]
  all_goals ((try clear hgo); (try clear hq); (try clear hA); (try clear hB); (try clear hB2); (try clear hZ); (try clear hH); (try clear hT); grind [ui_ap])
end KK

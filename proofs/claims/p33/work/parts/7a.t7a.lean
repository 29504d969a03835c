/-! text -/
section ZN0
variable {d n t C c n0 n' n'' t' : Nat} {K L K0 L0 K' L' K'' L'' : Nat → Nat} {I I0 J J0 J1 J2 : Nat → Nat → Int32} {R R0 R' R'' : Nat → Nat → Nat} {P : Option Value → AH → Prop}
variable {Y Z : Nat → Nat → Int32}
theorem ce_letter (hS : cS C K L R) (h : 0 < I (C + 11) 2) (hP : P (some (.int (I (C + 12) 0))) (n, t, K, L, I, R)) : a_does (d + 1) 80 [a_rf (C + 11)] (n, t, K, L, I, R) P := by
  have h' : ¬ I (C + 11) 2 ≤ 0 := Int32.not_le.mpr h
  rw [a_enter1 (M := a_m80) rfl (a_cat_rf a_cat_nil) (show 1 ≤ 1 by decide)]
  show a_at _ (a_xm a_m80) 0 [some (a_rf (C + 11))] [] _ _
  simp only [q80_0, q80_1, q80_4, q80_7, q80_8, q80_11, q80_12, q80_13, q80_16, q80_18, k_11 hS, z_11, r_11_0 hS, k_12 hS, l_12 hS, z_12, as_nil, as_i, as_r, Nat.reduceAdd, Nat.reduceLeDiff, z_eq0, z_eq1, z_or, z_em, Classical.not_not, not_false_eq_true, not_true_eq_false, true_and, and_true, false_and, and_false, and_self, true_implies, false_implies, implies_true, Option.toList_some, Option.toList_none, List.cons_append, List.nil_append, Nat.add_eq_zero_iff, a_nl_i, a_nl_r, a_nl_n, true_or, or_true, eq_self, a_isRA_22, a_isRA_24, a_isRA_32, a_isA_20, ok_4, ok_5, ok_6, ok_7, ok_9, ok_20, ok_21, ok_30, ok_50, ok_180, ok_192, ok_200, h, h', cn00]
  try simp only [true_and, and_true, true_implies, false_implies, implies_true, not_true_eq_false, not_false_eq_true]
  first
    | exact hP
    | grind
theorem ce_written (hH : cH C c (n + 1) t K L I R) (hP : ∀ J, cH C (c + 1) (n + 1 + 1) (t + (I (C + 11) 3).toNatClampNeg) (a_up K (n + 1) 20) (a_up L (n + 1) (I (C + 11) 3).toNatClampNeg) J (a_zr R (n + 1)) → (∀ x j, x < n + 1 → J x j = I x j) → (∀ j, j < (I (C + 11) 3).toNatClampNeg → J (n + 1) j = I (C + 13) j) → P (some (a_rf (n + 1))) (n + 1 + 1, t + (I (C + 11) 3).toNatClampNeg, (a_up K (n + 1) 20), (a_up L (n + 1) (I (C + 11) 3).toNatClampNeg), J, (a_zr R (n + 1)))) : a_does (d + 1) 81 [a_rf (C + 11)] (n + 1, t, K, L, I, R) P := by
  have hZ := cZ_refl hH
  have hT := hZ.2.1.1
  have hS := hT.s
  have fr := hZ.2.1.2.1
  have hC := hZ.2.1.2.2.1
  have g := hT.g_code
  have f0 : (n + 1 = 0) = False := eq_false (by omega)
  have e0 := Int32.le_iff_toInt_le.mp g.1
  have e1 := Int32.le_iff_toInt_le.mp g.2
  have c0 : (0 : Int32).toInt = 0 := rfl
  have c50 : (50 : Int32).toInt = 50 := rfl
  have hm : (I (C + 11) 3).toNatClampNeg ≤ 50 := by
    show (I (C + 11) 3).toInt.toNat ≤ 50
    omega
  have h6 : (I (C + 11) 3).toNatClampNeg ≤ 1000000 := by omega
  have hn0 : (I (C + 11) 3 < 0) = False := eq_false (Int32.not_lt.mpr g.1)
  have n11 : (C + 11 = n + 1) = False := eq_false (by omega)
  have n13 : (C + 13 = n + 1) = False := eq_false (by omega)
  rw [a_enter1 (M := a_m81) rfl (a_cat_rf a_cat_nil) (show 1 ≤ 2 by decide)]
  show a_at _ (a_xm a_m81) 0 [some (a_rf (C + 11)), none] [] _ _
  simp only [q81_0, q81_1, q81_4, q81_6, q81_7, q81_8, q81_11, q81_12, q81_13, q81_14, q81_15, k_11 hS, z_11, r_11_1 hS, k_13 hS, l_13 hS, z_13, as_nil, as_i, as_r, Nat.reduceAdd, Nat.reduceLeDiff, z_eq0, z_eq1, z_or, z_em, Classical.not_not, not_false_eq_true, not_true_eq_false, true_and, and_true, false_and, and_false, and_self, true_implies, false_implies, implies_true, Option.toList_some, Option.toList_none, List.cons_append, List.nil_append, Nat.add_eq_zero_iff, a_nl_i, a_nl_r, a_nl_n, true_or, or_true, eq_self, a_isRA_22, a_isRA_24, a_isRA_32, a_isA_20, ok_4, ok_5, ok_6, ok_7, ok_9, ok_20, ok_21, ok_30, ok_50, ok_180, ok_192, ok_200, up_ap, up_eq, zi_ap, zr_ap, if_true, if_false, hn0, h6, n11, n13, f0, a_copy_eq, a_kd_eq, a_ln_eq, cn00, lt00, Nat.zero_add]
  generalize hk : (I (C + 11) 3).toNatClampNeg = k at hm hP ⊢
  simp only [q81_18, q81_21, q81_22, as_nil, as_i, as_r, Nat.reduceAdd, Nat.reduceLeDiff, z_eq0, z_eq1, z_or, z_em, Classical.not_not, not_false_eq_true, not_true_eq_false, true_and, and_true, false_and, and_false, and_self, true_implies, false_implies, implies_true, Option.toList_some, Option.toList_none, List.cons_append, List.nil_append, Nat.add_eq_zero_iff, a_nl_i, a_nl_r, a_nl_n, true_or, or_true, eq_self, a_isRA_22, a_isRA_24, a_isRA_32, a_isA_20, ok_4, ok_5, ok_6, ok_7, ok_9, ok_20, ok_21, ok_30, ok_50, ok_180, ok_192, ok_200, up_ap, up_eq, zi_ap, zr_ap, if_true, if_false, k_11 hS, z_11, k_13 hS, l_13 hS, z_13, hn0, hk, n11, n13, f0, a_copy_eq, a_kd_eq, a_ln_eq, cn00, lt00, Nat.zero_add, Nat.le_refl, hm]
  have ix : ∀ x j, x < n + 1 → a_ci (a_zi I (n + 1)) (C + 13) (n + 1) 0 0 k x j = I x j := fun x j hx => by rw [ci_ne (by omega), zi_ne (by omega)]
  have iy : ∀ j, j < k → a_ci (a_zi I (n + 1)) (C + 13) (n + 1) 0 0 k (n + 1) j = I (C + 13) j := fun j hj => by
    unfold a_ci va_cpy
    rw [if_pos rfl, if_pos ⟨by omega, by omega⟩, zi_ne (by omega)]
    congr 1
    omega
  have z := cZ_new (m := 1) (s := k) (K' := a_up K (n + 1) 20) (L' := a_up L (n + 1) k) (J := a_ci (a_zi I (n + 1)) (C + 13) (n + 1) 0 0 k) (R' := a_zr R (n + 1)) hZ (by decide) (by omega) (fun x hx => up_ne (by omega)) (fun x hx => up_ne (by omega)) ix (fun x j hx => zr_ne (by omega)) (fun x hx => by rw [up_ne (by omega)]; exact fr x (by omega)) (fun a h1 h2 => by
    by_cases e : a = n + 1
    · rw [e, up_eq] at h2; cases h2
    · rw [up_ne e, fr a (by omega)] at h2; cases h2) (fun a h1 h2 => by
    by_cases e : a = n + 1
    · rw [e, up_eq] at h2; cases h2
    · rw [up_ne e, fr a (by omega)] at h2; cases h2) (fun a h1 h2 => by
    by_cases e : a = n + 1
    · rw [e, up_eq] at h2; cases h2
    · rw [up_ne e, fr a (by omega)] at h2; cases h2)
  exact hP _ z.2.1 ix iy
theorem ce_addText (hH : cH C c (n + 1) t K L I R) {x : Nat} (hx : K x = 20) (x1 : C + 96 < x) (hl : L x ≤ 50) {p q : Int32} (hc : ¬ 20 ≤ I (C + 7) 3) (hP : ∀ J, cH C (c + 1) (n + 1 + 1) (t + 5) (a_up K (n + 1) 11) (a_up L (n + 1) 5) J (a_ur (a_zr R (n + 1)) (n + 1) 2 x) → (∀ y j, y < n + 1 → J y j = I y j) → (J (n + 1) 0 = p ∧ J (n + 1) 1 = q ∧ J (n + 1) 3 = 200 ∧ J (n + 1) 4 = 0) → cH C (c + 1) (n + 1 + 1) (t + 5) (a_up K (n + 1) 11) (a_up L (n + 1) 5) J (a_ur (a_ur (a_zr R (n + 1)) (n + 1) 2 x) (C + 8) (I (C + 7) 3).toNatClampNeg (n + 1)) → P (some (.int (I (C + 7) 3 + 1 - 1))) (n + 1 + 1, t + 5, (a_up K (n + 1) 11), (a_up L (n + 1) 5), a_ui J (C + 7) 3 (I (C + 7) 3 + 1), a_ur (a_ur (a_zr R (n + 1)) (n + 1) 2 x) (C + 8) (I (C + 7) 3).toNatClampNeg (n + 1))) : a_does (d + 2) 82 [a_rf (C + 7), .int p, .int q, a_rf x] (n + 1, t, K, L, I, R) P := by
  have hZ := cZ_refl hH
  have hT := hZ.2.1.1
  have hS := hT.s
  have fr := hZ.2.1.2.1
  have hC := hZ.2.1.2.2.1
  have g := hT.g_texts
  have xl := kn_lt fr hx (by decide)
  have hc' : I (C + 7) 3 < 20 := Int32.not_le.mp hc
  have g0 : 0 ≤ I (C + 7) 3 := g.1
  have f0 : (n + 1 = 0) = False := eq_false (by omega)
  have n7 : (C + 7 = n + 1) = False := eq_false (by omega)
  have n8 : (C + 8 = n + 1) = False := eq_false (by omega)
  rw [a_enter1 (M := a_m82) rfl (a_cat_rf (a_cat_int (a_cat_int (a_cat_rf a_cat_nil)))) (show 4 ≤ 4 by decide)]
  show a_at _ (a_xm a_m82) 0 [some (a_rf (C + 7)), some (.int p), some (.int q), some (a_rf x)] [] _ _
  simp only [q82_0, q82_1, q82_4, q82_6, q82_9, q82_11, q82_12, q82_13, q82_16, q82_17, q82_20, q82_23, q82_24, q82_25, q82_26, q82_27, k_7 hS, z_7, r_7_0 hS, k_8 hS, l_8 hS, z_8, as_nil, as_i, as_r, Nat.reduceAdd, Nat.reduceLeDiff, z_eq0, z_eq1, z_or, z_em, Classical.not_not, not_false_eq_true, not_true_eq_false, true_and, and_true, false_and, and_false, and_self, true_implies, false_implies, implies_true, Option.toList_some, Option.toList_none, List.cons_append, List.nil_append, Nat.add_eq_zero_iff, a_nl_i, a_nl_r, a_nl_n, true_or, or_true, eq_self, a_isRA_22, a_isRA_24, a_isRA_32, a_isA_20, ok_4, ok_5, ok_6, ok_7, ok_9, ok_20, ok_21, ok_30, ok_50, ok_180, ok_192, ok_200, up_ap, up_eq, zi_ap, zr_ap, if_true, if_false, hc', hc, n7, n8, f0]
  rw [a_enter1 (M := a_m83) rfl (a_cat_rf (a_cat_int (a_cat_int (a_cat_rf a_cat_nil)))) (show 4 ≤ 4 by decide)]
  show a_at _ (a_xm a_m83) 0 [some (a_rf (n+1)), some (.int p), some (.int q), some (a_rf x)] [] _ _
  simp only [q83_0, as_nil, as_i, as_r, Nat.reduceAdd, Nat.reduceLeDiff, z_eq0, z_eq1, z_or, z_em, Classical.not_not, not_false_eq_true, not_true_eq_false, true_and, and_true, false_and, and_false, and_self, true_implies, false_implies, implies_true, Option.toList_some, Option.toList_none, List.cons_append, List.nil_append, Nat.add_eq_zero_iff, a_nl_i, a_nl_r, a_nl_n, true_or, or_true, eq_self, a_isRA_22, a_isRA_24, a_isRA_32, a_isA_20, ok_4, ok_5, ok_6, ok_7, ok_9, ok_20, ok_21, ok_30, ok_50, ok_180, ok_192, ok_200]
  rw [q83_1 (show ¬ n + 1 = 0 by omega) (show a_sum [] ≤ 8 by decide)]
  simp only [q83_4, q83_5, q83_6, q83_9, q83_10, q83_11, q83_14, q83_15, q83_16, q83_19, q83_20, q83_23, q83_26, as_nil, as_i, as_r, Nat.reduceAdd, Nat.reduceLeDiff, z_eq0, z_eq1, z_or, z_em, Classical.not_not, not_false_eq_true, not_true_eq_false, true_and, and_true, false_and, and_false, and_self, true_implies, false_implies, implies_true, Option.toList_some, Option.toList_none, List.cons_append, List.nil_append, Nat.add_eq_zero_iff, a_nl_i, a_nl_r, a_nl_n, true_or, or_true, eq_self, a_isRA_22, a_isRA_24, a_isRA_32, a_isA_20, ok_4, ok_5, ok_6, ok_7, ok_9, ok_20, ok_21, ok_30, ok_50, ok_180, ok_192, ok_200, up_ap, up_eq, Nat.add_left_cancel_iff, Nat.add_right_cancel_iff, Nat.reduceEqDiff, if_true, if_false, f0]
  generalize hi : a_ui (a_ui (a_ui (a_zi I (n + 1)) (n + 1) 0 p) (n + 1) 1 q) (n + 1) 3 200 = I5
  have ix : ∀ x j, x < n + 1 → I5 x j = I x j := fun x j hx => by
    have e : ¬ x = n + 1 := by omega
    rw [← hi]
    simp [ui_ap, zi_ap, e]
  have i4 : I5 (n + 1) 0 = p ∧ I5 (n + 1) 1 = q ∧ I5 (n + 1) 3 = 200 ∧ I5 (n + 1) 4 = 0 := by rw [← hi]; simp [ui_ap, zi_ap]
  clear hi
  have z := cZ_new (m := 1) (s := 5) (K' := a_up K (n + 1) 11) (L' := a_up L (n + 1) 5) (J := I5) (R' := a_ur (a_zr R (n + 1)) (n + 1) 2 x) hZ (by decide) (by decide) (fun x hx => up_ne (by omega)) (fun x hx => up_ne (by omega)) ix (fun x j hx => by rw [ur_ap, if_neg (by omega), zr_ne (by omega)]) (fun x hx => by rw [up_ne (by omega)]; exact fr x (by omega)) (fun a h1 h2 => by
    by_cases e : a = n + 1
    · rw [e, up_eq] at h2; cases h2
    · rw [up_ne e, fr a (by omega)] at h2; cases h2) (fun a h1 h2 => by
    by_cases e : a = n + 1
    · rw [e, up_eq] at h2; cases h2
    · rw [up_ne e, fr a (by omega)] at h2; cases h2) (fun a h1 h2 => by
    by_cases e : a = n + 1
    · subst e
      rw [ur_ap, if_pos ⟨rfl, rfl⟩, up_ne (by omega), up_ne (by omega)]
      exact ⟨by omega, x1, hx, hl⟩
    · rw [up_ne e, fr a (by omega)] at h2; cases h2)
  have z2 := cH_R8 z.2.1 (j := (I (C + 7) 3).toNatClampNeg) (Or.inr (up_eq (f := K) (a := n + 1) (v := 11)))
  have e5 : I5 (C + 7) 3 = I (C + 7) 3 := ix _ _ (by omega)
  have hfin := hP _ z.2.1 ix i4 z2
  have hS := z.2.1.1.s
  have k11 : a_up K (n + 1) 11 (n + 1) = 11 := up_eq
  simp only [q82_30, q82_31, q82_32, q82_33, q82_36, q82_37, q82_38, q82_41, q82_42, q82_45, q82_46, q82_47, k_7 hS, z_7, as_nil, as_i, as_r, Nat.reduceAdd, Nat.reduceLeDiff, z_eq0, z_eq1, z_or, z_em, Classical.not_not, not_false_eq_true, not_true_eq_false, true_and, and_true, false_and, and_false, and_self, true_implies, false_implies, implies_true, Option.toList_some, Option.toList_none, List.cons_append, List.nil_append, Nat.add_eq_zero_iff, a_nl_i, a_nl_r, a_nl_n, true_or, or_true, eq_self, a_isRA_22, a_isRA_24, a_isRA_32, a_isA_20, ok_4, ok_5, ok_6, ok_7, ok_9, ok_20, ok_21, ok_30, ok_50, ok_180, ok_192, ok_200, ui_ap, cc_ne, cc_n0, cc_0n, Nat.reduceEqDiff, reduceIte, if_true, if_false, k_8 hS, l_8 hS, z_8, e5, k11, hc', g0]
  repeat' first
    | with_reducible apply And.intro
    | exact hfin
    | (right; rfl)
    | decide
theorem ev_vs {cd cd' fc : Nat → Int32} {cs v : Int32} (h : evK cd fc 0 cs v) (hd : ∀ j, j < cs.toNatClampNeg → cd' j = cd j) : vs cd' fc (Int32.ofNat cs.toNatClampNeg) 60 0 0 (fun _ => 0) = v := by
  obtain ⟨⟨h0, h1, h2⟩, h3⟩ := h
  have h4 : cs.toNatClampNeg ≤ 50 := by
    have := cl_le0 (Int32.le_of_lt h1) h2
    rw [show (50 : Int32).toNatClampNeg = 50 from rfl] at this
    exact this
  rw [← on_cl (Int32.le_of_lt h1)]
  have q := h3 cd' cs (60 - cs.toNatClampNeg) 0 (fun _ => 0) (fun j _ hj => hd j hj) (Int32.le_refl _) (by decide) (by decide)
  rw [show (0 : Int32).toNatClampNeg = 0 from rfl, show 60 - cs.toNatClampNeg + (cs.toNatClampNeg - 0) = 60 by omega] at q
  rw [q, show 60 - cs.toNatClampNeg = (59 - cs.toNatClampNeg) + 1 by omega]
  unfold vs
  rw [if_pos (Int32.le_refl _), if_neg (by decide)]
  unfold up1
  rw [if_pos rfl]
theorem ge_text (hH : cH C c (n + 1) t K L I R) (hu : cuP C K L I R Y) {s : Int32} (hP : ∀ w n' t' K' L' J R', cH C (c + 4) (n' + 1) t' K' L' J R' → cuP C K' L' J R' (txY Y s) → P (some (.int w)) (n' + 1, t', K', L', J, R')) : a_does (d + 70) 68 [a_rf C, .int s] (n + 1, t, K, L, I, R) P := by
  have hT := hH.1
  have hS := hT.s
  have hc := hu.1
  have e41 : I (C + 7) 3 = Y 0 41 := hc.2.2.2.1.1
  have e40 : I (C + 11) 2 = Y 0 40 := hu.2.2.1.2.1.2.1.1
  have e27 : I (C + 12) = Y 27 := funext hu.2.2.1.2.1.2.1.2
  have g7 := hT.g_texts
  have g40 := hT.g_size
  rw [e41] at g7
  rw [e40] at g40
  have hC := hH.2.2.1
  unfold txY at hP
  have hr1 : ¬ (0 ≤ s ∧ s ≤ 199) → ∀ J, rfQ C c (n + 1) t K L I R J → P (some (.int (-1))) (n + 1, t, K, L, J, R) := fun q J z => by
    rw [if_pos (Or.inl q)] at hP
    exact hP _ n t K L J R (cH_le z.1 (by omega)) (cu_re hH hu z)
  have hr2 : (0 ≤ s ∧ s ≤ 199) → 20 ≤ I (C + 7) 3 → ∀ J, rfQ C c (n + 1) t K L I R J → P (some (.int (-6))) (n + 1, t, K, L, J, R) := fun q q2 J z => by
    rw [e41] at q2
    rw [if_pos (Or.inr (by clear hP hu hc; grind))] at hP
    exact hP _ n t K L J R (cH_le z.1 (by omega)) (cu_re hH hu z)
  have hgo : (0 ≤ s ∧ s ≤ 199) → ¬ 20 ≤ I (C + 7) 3 → a_at (d + 69) (a_xm a_m68) 32 [some (a_rf C), some (.int s), none, none] [] (n + 1, t, K, L, I, R) P := fun q1 q2 => by
    have q2' := q2
    rw [e41] at q2'
    rw [if_neg (fun w => w.elim (fun w => w q1) (fun w => q2' (by rw [w]; decide)))] at hP
    simp only [q68_32, q68_33, q68_36, k_0 hS, z_C hS, r_0_2 hS, k_11 hS, z_11, as_nil, as_i, as_r, Nat.reduceAdd, Nat.reduceLeDiff, z_eq0, z_eq1, z_or, z_em, Classical.not_not, not_false_eq_true, not_true_eq_false, true_and, and_true, false_and, and_false, and_self, true_implies, false_implies, implies_true, Option.toList_some, Option.toList_none, List.cons_append, List.nil_append, Nat.add_eq_zero_iff, a_nl_i, a_nl_r, a_nl_n, true_or, or_true, eq_self, a_isRA_22, a_isRA_24, a_isRA_32, a_isA_20, ok_4, ok_5, ok_6, ok_7, ok_9, ok_20, ok_21, ok_30, ok_50, ok_180, ok_192, ok_200]
    refine ce_read (d := d + 8) hT (fun J t1 t2 t3 => ?_)
    have hS := t1.1.s
    have hHJ := cH_J hH t1.1
    rw [e27, e40] at t3 t2 ⊢
    have hJ0 : ∀ k j, ¬ k = 13 → ¬ (k = 11 ∧ (j = 3 ∨ j = 4)) → J (C + k) j = I (C + k) j := fun k j h h2 => t1.2 _ _ (by omega) (by omega)
    have hJ : ∀ k j, ¬ k = 13 ∧ ¬ (k = 11 ∧ (j = 3 ∨ j = 4)) → J (C + k) j = I (C + k) j := fun k j hk => hJ0 k j hk.1 hk.2
    have hX : ∀ x j, C + 43 < x → J x j = I x j := fun x j hx => t1.2 _ _ (by omega) (by omega)
    by_cases ok : (xT (Y 27) (Y 0 40)).1 = true
    · rw [if_pos ok] at hP
      have n10 : ¬ (1 : Int32) = 0 := by decide
      have hz : ∀ k j : Nat, ¬ (k = 0 ∧ j = 1000) → Y k j = Y k j := fun _ _ _ => rfl
      have huJ : cuP C K L J R Y := cu_gen hT hu ⟨fun k hk => funext (fun j => hz k j (by omega)), fun j hj => hz 0 j (by omega)⟩ (fE_of hH hX ⟨hJ 14 4 (by omega), hJ 14 5 (by omega)⟩ (hJ 7 3 (by omega))) (by rw [hJ 1 6 (by omega), hz 0 0 (by omega)]; exact hu.1.1.1) (fun j => by rw [hJ 2 j (by omega), hz 1 j (by omega)]; exact hu.1.1.2.1 j) (lsP_e hu.1.1.2.2 (fun j => hJ 3 j (by omega)) (fun k j hk => hz k j (by unfold kL at hk; omega))) ⟨by rw [hJ 14 6 (by omega), hz 0 9 (by omega)]; exact hu.1.2.1.2.1, by rw [hz 0 9 (by omega)]; exact hu.1.2.2.2.2.2.2.2.1⟩ (mr_e hu.1.2.2.1.2.1 hu.1.2.2.1.2.2.1 (fun x kx => hX _ _ (by have := (hT.g_ask x kx).1; omega)) (fun k j hk => hz k j (by unfold kK at hk; omega))) (mk_e hu.1.2.2.2.2.2.2.2.2.2.2.2.1 (fun k j hk => hz k j (by unfold kK at hk; omega))) (siM_e hu.2.2.1.1 (fun k j hk => hJ k j (by omega)) (fun k j hk => hz k j (by unfold kM at hk; omega))) (siT_e hu.2.2.1.2.1 (fun k j hk => hJ k j (by omega)) (fun k j hk => hz k j (by unfold kT at hk; omega))) (siY_e hu.2.2.1.2.2.2 (fun k j hk => hz k j (by unfold kY at hk; omega))) (fun e => hX _ _ (by have := (hT.g_ask _ (hu.2.2.1.2.2.1.2 e).1).1; omega))
      have h2 := xT_two ok
      have e7J : J (C + 7) 3 = Y 0 41 := (hJ 7 3 (by omega)).trans e41
      have hev := t3 ok
      clear t3 hr1 hr2
      simp only [q68_39, q68_40, q68_41, q68_44, q68_45, q68_48, q68_49, q68_52, k_0 hS, z_C hS, r_0_1 hS, k_7 hS, z_7, r_0_2 hS, k_11 hS, z_11, as_nil, as_i, as_r, Nat.reduceAdd, Nat.reduceLeDiff, z_eq0, z_eq1, z_or, z_em, Classical.not_not, not_false_eq_true, not_true_eq_false, true_and, and_true, false_and, and_false, and_self, true_implies, false_implies, implies_true, Option.toList_some, Option.toList_none, List.cons_append, List.nil_append, Nat.add_eq_zero_iff, a_nl_i, a_nl_r, a_nl_n, true_or, or_true, eq_self, a_isRA_22, a_isRA_24, a_isRA_32, a_isA_20, ok_4, ok_5, ok_6, ok_7, ok_9, ok_20, ok_21, ok_30, ok_50, ok_180, ok_192, ok_200, ok, n10]
      try simp only [true_and, and_true, true_implies, false_implies, implies_true, not_true_eq_false, not_false_eq_true]
      refine ce_letter (d := d + 68) hS (by rw [hJ 11 2 (by omega), e40]; exact Int32.lt_of_lt_of_le (by decide) h2) ?_
      simp only [q68_55, q68_56, q68_57, q68_60, k_0 hS, z_C hS, r_0_2 hS, k_11 hS, z_11, as_nil, as_i, as_r, Nat.reduceAdd, Nat.reduceLeDiff, z_eq0, z_eq1, z_or, z_em, Classical.not_not, not_false_eq_true, not_true_eq_false, true_and, and_true, false_and, and_false, and_self, true_implies, false_implies, implies_true, Option.toList_some, Option.toList_none, List.cons_append, List.nil_append, Nat.add_eq_zero_iff, a_nl_i, a_nl_r, a_nl_n, true_or, or_true, eq_self, a_isRA_22, a_isRA_24, a_isRA_32, a_isA_20, ok_4, ok_5, ok_6, ok_7, ok_9, ok_20, ok_21, ok_30, ok_50, ok_180, ok_192, ok_200]
      refine ce_written (d := d + 68) hHJ (fun J2 z2 f2 y2 => ?_)
      have hS := z2.1.s
      have e72 : J2 (C + 7) 3 = Y 0 41 := (f2 _ _ (by omega)).trans e7J
      have l2 : (J (C + 11) 3).toNatClampNeg ≤ 50 := by
        have g := t1.1.g_code
        have := cl_le0 g.1 g.2
        rw [show (50 : Int32).toNatClampNeg = 50 from rfl] at this
        exact this
      simp only [q68_63, k_0 hS, z_C hS, as_nil, as_i, as_r, Nat.reduceAdd, Nat.reduceLeDiff, z_eq0, z_eq1, z_or, z_em, Classical.not_not, not_false_eq_true, not_true_eq_false, true_and, and_true, false_and, and_false, and_self, true_implies, false_implies, implies_true, Option.toList_some, Option.toList_none, List.cons_append, List.nil_append, Nat.add_eq_zero_iff, a_nl_i, a_nl_r, a_nl_n, true_or, or_true, eq_self, a_isRA_22, a_isRA_24, a_isRA_32, a_isA_20, ok_4, ok_5, ok_6, ok_7, ok_9, ok_20, ok_21, ok_30, ok_50, ok_180, ok_192, ok_200]
      refine ⟨k_7 hS, ce_addText (d := d + 67) z2 (x := n + 1) up_eq (by omega) (by rw [up_eq]; exact l2) (by rw [e72]; exact q2') (fun J3 z3 f3 i3 z4 => ?_)⟩
      rw [e72] at z4 ⊢
      have hS := z4.1.s
      have hKx : ∀ x, x < n + 1 → a_up (a_up K (n + 1) 20) (n + 1 + 1) 11 x = K x := fun x hx => by rw [up_ne (by omega), up_ne (by omega)]
      have hLx : ∀ x, x < n + 1 → a_up (a_up L (n + 1) (J (C + 11) 3).toNatClampNeg) (n + 1 + 1) 5 x = L x := fun x hx => by rw [up_ne (by omega), up_ne (by omega)]
      have hJx : ∀ x j, x < n + 1 → J3 x j = J x j := fun x j hx => (f3 x j (by omega)).trans (f2 x j hx)
      have hRx : ∀ x j, x < n + 1 → a_ur (a_zr (a_zr R (n + 1)) (n + 1 + 1)) (n + 1 + 1) 2 (n + 1) x j = R x j := fun x j hx => by rw [ur_ap, if_neg (by omega), zr_ne (by omega), zr_ne (by omega)]
      have hu3 := cu_grow hHJ huJ hKx hLx hJx hRx
      have hc3 := hu3.1
      have rx2 : a_ur (a_zr (a_zr R (n + 1)) (n + 1 + 1)) (n + 1 + 1) 2 (n + 1) (n + 1 + 1) 2 = n + 1 := by rw [ur_ap, if_pos ⟨rfl, rfl⟩]
      have hfin := cu_text (X := n + 1 + 1) (s := s) z3.1 hu3 (Int32.not_le.mp q2') g40 ok up_eq (fun i i0 i1 => by
        rw [hRx _ _ (by omega)]
        have := kn_lt hH.2.1 (hc.2.2.2.1.2 i i0 i1).1 (by decide)
        omega) (by rw [i3.1, hJ 12 0 (by omega), e27]) i3.2.1 i3.2.2.1 i3.2.2.2 (fun fc => by
        rw [rx2, up_ne (by omega), up_eq]
        exact ev_vs (hev fc) (fun j hj => (f3 _ _ (by omega)).trans (y2 j hj))) (fun b b0 b1 => by
        have kb := (hc.2.1.2.2.1 b b0 b1).1
        have bl := kn_lt hH.2.1 kb (by decide)
        have g := hT.g_bnc _ kb
        have k4 := kn_lt hH.2.1 g.2.2.2.1.2.1 (by decide)
        have k5 := kn_lt hH.2.1 g.2.2.2.2.1.2.1 (by decide)
        rw [(hu.2.1.1 b b0 b1).2.2] at k4
        rw [rx2, hRx (C + 16) _ (by omega), hRx _ 5 bl]
        exact ⟨Or.inr k4, by omega⟩)
      have hT5 := sT_Tape_size (v := 0) (sT_Rules_count (v := Y 0 41 + 1) z4.1 (by clear hP hu hc hu3 hc3 hfin huJ z4 z3 z2 hev; grind)) (by decide)
      have hp := hP (Y 0 41 + 1 - 1) (n + 1 + 1) _ _ _ _ _ (cH_le (cH_J z4 hT5) (by omega)) hfin
      clear hP hu hc hu3 hc3 hfin huJ z4 z3 z2 hev
      have hS := hT5.s
      simp only [q68_66, q68_69, q68_71, q68_72, q68_75, q68_78, q68_79, q68_80, q68_81, q68_84, q68_85, q68_88, q68_89, k_0 hS, z_C hS, r_0_2 hS, k_11 hS, z_11, as_nil, as_i, as_r, Nat.reduceAdd, Nat.reduceLeDiff, z_eq0, z_eq1, z_or, z_em, Classical.not_not, not_false_eq_true, not_true_eq_false, true_and, and_true, false_and, and_false, and_self, true_implies, false_implies, implies_true, Option.toList_some, Option.toList_none, List.cons_append, List.nil_append, Nat.add_eq_zero_iff, a_nl_i, a_nl_r, a_nl_n, true_or, or_true, eq_self, a_isRA_22, a_isRA_24, a_isRA_32, a_isA_20, ok_4, ok_5, ok_6, ok_7, ok_9, ok_20, ok_21, ok_30, ok_50, ok_180, ok_192, ok_200, ui_ap, cc_ne, cc_n0, cc_0n, Nat.reduceEqDiff, reduceIte, if_true, if_false]
      try simp only [true_and, and_true, true_implies, false_implies, implies_true, not_true_eq_false, not_false_eq_true]
      first
        | exact hp
        | grind
    · rw [if_neg ok] at hP
      have ok2 : ((xT (Y 27) (Y 0 40)).1 = true) = False := eq_false ok
      have hT5 := sT_Tape_size (v := 0) t1.1 (by decide)
      have huF : cuP C K L (a_ui J (C + 11) 2 0) R (upY Y 0 40 0) := by
        have hJ : ∀ k j, ¬ k = 13 ∧ ¬ k = 11 → a_ui J (C + 11) 2 0 (C + k) j = I (C + k) j := fun k j hk => by rw [ui_ap, if_neg (by omega)]; exact hJ0 k j hk.1 (by omega)
        have hX : ∀ x j, C + 43 < x → a_ui J (C + 11) 2 0 x j = I x j := fun x j hx => by rw [ui_ap, if_neg (by omega)]; exact hX x j hx
        have hz : ∀ k j, ¬ (k = 0 ∧ j = 40) → upY Y 0 40 0 k j = Y k j := fun k j hk => up_no hk
        refine cu_gen hT hu ⟨fun k hk => funext (fun j => hz k j (by omega)), fun j hj => hz 0 j (by omega)⟩ (fE_of hH hX ⟨hJ 14 4 (by omega), hJ 14 5 (by omega)⟩ (hJ 7 3 (by omega))) (by rw [hJ 1 6 (by omega), hz 0 0 (by omega)]; exact hu.1.1.1) (fun j => by rw [hJ 2 j (by omega), hz 1 j (by omega)]; exact hu.1.1.2.1 j) (lsP_e hu.1.1.2.2 (fun j => hJ 3 j (by omega)) (fun k j hk => hz k j (by unfold kL at hk; omega))) ⟨by rw [hJ 14 6 (by omega), hz 0 9 (by omega)]; exact hu.1.2.1.2.1, by rw [hz 0 9 (by omega)]; exact hu.1.2.2.2.2.2.2.2.1⟩ (mr_e hu.1.2.2.1.2.1 hu.1.2.2.1.2.2.1 (fun x kx => hX _ _ (by have := (hT.g_ask x kx).1; omega)) (fun k j hk => hz k j (by unfold kK at hk; omega))) (mk_e hu.1.2.2.2.2.2.2.2.2.2.2.2.1 (fun k j hk => hz k j (by unfold kK at hk; omega))) (siM_e hu.2.2.1.1 (fun k j hk => hJ k j (by omega)) (fun k j hk => hz k j (by unfold kM at hk; omega))) ?_ (siY_e hu.2.2.1.2.2.2 (fun k j hk => hz k j (by unfold kY at hk; omega))) (fun e => hX _ _ (by have := (hT.g_ask _ (hu.2.2.1.2.2.1.2 e).1).1; omega))
        obtain ⟨⟨t1, t2⟩, ⟨t3, t4⟩, t5, t6⟩ := hu.2.2.1.2.1
        have c0 : a_ui J (C + 11) 2 0 C 10 = I C 10 := hJ 0 10 (by omega)
        refine ⟨⟨by rw [hJ _ _ (by omega), hz _ _ (by omega)]; exact t1, fun j hj => ?_⟩, ⟨by rw [ui_ap, if_pos ⟨rfl, rfl⟩, up_at], fun j => by rw [hJ _ _ (by omega), hz 27 _ (by omega)]; exact t4 j⟩, by rw [c0, hz 0 79 (by omega)]; exact t5, fun j hj => ?_⟩
        · rw [hz 0 2 (by omega)] at hj
          rw [hJ _ _ (by omega), hJ _ _ (by omega), hJ _ _ (by omega), hz 2 _ (by omega), hz 3 _ (by omega), hz 4 _ (by omega)]
          exact t2 j hj
        · rw [hz 0 79 (by omega)] at hj
          rw [hJ _ _ (by omega), hz 52 _ (by omega)]
          exact t6 j hj
      have hp := hP (-20 - J (C + 11) 4) n t K L _ R (cH_le (cH_J hH hT5) (by omega)) huF
      clear hP hu hc huF t3 hr1 hr2
      simp only [q68_39, q68_40, q68_41, q68_69, q68_71, q68_72, q68_75, q68_78, q68_79, q68_80, q68_81, q68_84, q68_85, q68_88, q68_89, k_0 hS, z_C hS, r_0_2 hS, k_11 hS, z_11, as_nil, as_i, as_r, Nat.reduceAdd, Nat.reduceLeDiff, z_eq0, z_eq1, z_or, z_em, Classical.not_not, not_false_eq_true, not_true_eq_false, true_and, and_true, false_and, and_false, and_self, true_implies, false_implies, implies_true, Option.toList_some, Option.toList_none, List.cons_append, List.nil_append, Nat.add_eq_zero_iff, a_nl_i, a_nl_r, a_nl_n, true_or, or_true, eq_self, a_isRA_22, a_isRA_24, a_isRA_32, a_isA_20, ok_4, ok_5, ok_6, ok_7, ok_9, ok_20, ok_21, ok_30, ok_50, ok_180, ok_192, ok_200, ui_ap, cc_ne, cc_n0, cc_0n, Nat.reduceEqDiff, reduceIte, if_true, if_false, ok2]
      try simp only [true_and, and_true, true_implies, false_implies, implies_true, not_true_eq_false, not_false_eq_true]
      first
        | exact hp
        | grind
  clear hP
  rw [a_enter1 (M := a_m68) rfl (a_cat_rf (a_cat_int a_cat_nil)) (show 2 ≤ 4 by decide)]
  show a_at _ (a_xm a_m68) 0 [some (a_rf C), some (.int s), none, none] [] _ _
  repeat' first
    | with_reducible apply And.intro
    | with_reducible assumption
    | with_reducible intro _
    | refine cr_refuse hH (fun _ _ => ?_)
    | refine hr1 ?_ _ (by assumption)
    | refine hr2 ?_ ?_ _ (by assumption)
    | refine hgo ?_ ?_
    | simp only [q68_0, q68_1, q68_4, q68_7, q68_8, q68_9, q68_12, q68_13, q68_14, q68_17, q68_20, q68_22, q68_25, q68_26, q68_28, q68_31, k_0 hS, z_C hS, r_0_1 hS, k_7 hS, z_7, sp_isShiftC, as_nil, as_i, as_r, Nat.reduceAdd, Nat.reduceLeDiff, z_eq0, z_eq1, z_or, z_em, Classical.not_not, not_false_eq_true, not_true_eq_false, true_and, and_true, false_and, and_false, and_self, true_implies, false_implies, implies_true, Option.toList_some, Option.toList_none, List.cons_append, List.nil_append, Nat.add_eq_zero_iff, a_nl_i, a_nl_r, a_nl_n, true_or, or_true, eq_self, a_isRA_22, a_isRA_24, a_isRA_32, a_isA_20, ok_4, ok_5, ok_6, ok_7, ok_9, ok_20, ok_21, ok_30, ok_50, ok_180, ok_192, ok_200]
  all_goals ((try clear hr2); (try clear hr1); (try clear hgo); (try clear hu); (try clear hc); (try clear hH); (try clear hT); (try clear hS); (try clear e27); grind [ui_ap])
end ZN0
section ZN1
variable {d n t M : Nat} {K L : Nat → Nat} {I I0 J J0 J1 J2 : Nat → Nat → Int32} {R : Nat → Nat → Nat} {P : Option Value → AH → Prop} {f : Nat → Int32} {e : Int32}
variable {Y Z W : Nat → Nat → Int32}
theorem xp_text (hS : m_S M K L R) {I1 : Nat → Nat → Int32} (hm : okY Y) {c : Nat} (hc : c + 130 ≤ 84000) (hF : mF M c I1 I) (hg : gs M I0 I Y) {s : Int32} (hP : ∀ w J, J M 35 = I M 35 → gs M I0 J (txY Y s) → P (some (.int w)) (n, t, K, L, J, R)) : a_does (d + 16) 201 [a_rf M, .int s] (n, t, K, L, I, R) P := by
  have hy := hm.1
  have h17 := hy.2.2.2.2.1
  have h10 := hy.2.1
  have h6 := hy.2.2.2.2.2.1
  have hl := hy.2.2.1
  have hrf : ∀ k : Nat, mF M (c + 120) I1 (a_ui I (M + 23) k (I (M + 23) k + 1)) ∧ gs M I0 (a_ui I (M + 23) k (I (M + 23) k + 1)) Y := fun k => ⟨mF_le (sF_refused hF) (by omega), gs_ui hg (sR_refused hg.1) (by omega) ⟨by unfold ps1; omega, by omega⟩⟩
  have e17 : I M 17 = Y 0 17 := hg.2.2.1 0 17 (by unfold ps1; omega)
  have e6 : I M 6 = Y 0 6 := hg.2.2.1 0 6 (by unfold ps1; omega)
  have e0 : I M 0 = Y 0 0 := hg.2.2.1 0 0 (by unfold ps1; omega)
  have m17 : ∀ x : Int32, (x ≤ Y 0 17 - 1) = (x < Y 0 17) := fun x => le_m1 h17
  have m6 : ∀ x : Int32, (x ≤ Y 0 6 - 1) = (x < Y 0 6) := fun x => le_m1 ⟨h6.1, Int32.le_trans h6.2 (by decide)⟩
  have m199 : ∀ x : Int32, (x ≤ 199) = (x < 200) := fun x => propext ⟨fun q => Int32.lt_of_le_of_lt q (by decide), fun q => by clear hP hrf hm hg hF; grind⟩
  have e41 : I M 41 = Y 0 41 := hg.2.2.1 0 41 (by unfold ps1; omega)
  have e40 : I M 40 = Y 0 40 := hg.2.2.1 0 40 (by unfold ps1; omega)
  have e27 : I (M + 27) = Y 27 := funext (fun j => hg.2.2.1 27 j (by unfold ps1; omega))
  unfold txY at hP
  refine pe_text hS hg.1 (fun q => ?_) (fun q1 q2 => ?_) (fun q1 q2 q3 J f1 f2 f3 f4 f5 => ?_) (fun q1 q2 q3 J f1 f2 f3 f4 f5 f6 f7 f8 => ?_)
  · rw [if_pos (Or.inl q)] at hP
    exact hP _ _ (by rw [ui_ap, if_neg (by omega)]) (hrf 1).2
  · rw [e41] at q2
    rw [if_pos (Or.inr q2)] at hP
    exact hP _ _ (by rw [ui_ap, if_neg (by omega)]) (hrf 6).2
  · rw [e41] at q2
    rw [e27, e40] at q3
    rw [if_neg (fun w => w.elim (fun w => w q1) q2), if_neg (by rw [q3]; decide)] at hP
    have fz : ∀ x j, ¬ sC M x j → ¬ (x = M ∧ (j = 40 ∨ j = 41)) → J x j = I x j := fun x j a b => by
      by_cases e : x = M + 28 ∨ x = M + 29 ∨ x = M + 30 ∨ x = M + 31
      · exact f5 x j e
      · exact f2 x j a (by omega) (by omega) (by omega) (by omega) b
    refine hP _ J (fz _ _ (by unfold sC; omega) (by omega)) (gs_mk hg f1 (fun x j p => fz _ _ (by unfold sC; omega) (by omega)) (funext (fun j => up_no (by omega))) (funext (fun j => up_no (by omega))) (funext (fun j => up_no (by omega))) (fun j => fz _ _ (by unfold sC; omega) (by omega)) (fun k j p => ?_))
    by_cases e : k = 0 ∧ j = 40
    · rw [e.1, e.2, up_at]
      exact f3
    · rw [up_no e]
      by_cases e2 : k = 0 ∧ j = 41
      · rw [e2.1, e2.2]
        exact f4.trans e41
      · rw [fz _ _ (by unfold sC; unfold ps1 at p; omega) (by omega)]
        exact hg.2.2.1 k j p
  · rw [e41] at q2 f4 f5 f6 f7 f8
    rw [e27, e40] at q3 f5
    rw [e40] at f6
    rw [if_neg (fun w => w.elim (fun w => w q1) q2), if_pos q3] at hP
    have fz : ∀ x j, ¬ sC M x j → ¬ (M + 28 ≤ x ∧ x ≤ M + 31) → ¬ (x = M ∧ (j = 40 ∨ j = 41)) → J x j = I x j := fun x j a b c => f2 x j a (by omega) (by omega) (by omega) (by omega) c
    refine hP _ J (fz _ _ (by unfold sC; omega) (by omega) (by omega)) (gs_mk hg f1 (fun x j p => fz _ _ (by unfold sC; omega) (by omega) (by omega)) (funext (fun j => tw_no (by omega) (by omega))) (funext (fun j => tw_no (by omega) (by omega))) (funext (fun j => tw_no (by omega) (by omega))) (fun j => fz _ _ (by unfold sC; omega) (by omega) (by omega)) (fun k j p => ?_))
    obtain ⟨b29, b30, b31, b40, b41⟩ := tw_at (Y := Y) (s := s)
    have hg1 := hg.2.2.1
    by_cases e : k = 0 ∧ j = 40
    · rw [e.1, e.2, b40]
      exact f3
    · by_cases e2 : k = 0 ∧ j = 41
      · rw [e2.1, e2.2, b41]
        exact f4
      · by_cases e28 : k = 28
        · rw [e28, tw_28, f5 j, show I (M + 28) j = Y 28 j from hg1 28 j (by unfold ps1; omega)]
        · by_cases e29 : k = 29
          · rw [e29, f6 j]
            by_cases ej : j = (Y 0 41).toNatClampNeg
            · rw [if_pos ej, ej, b29]
            · rw [if_neg ej, tw_ne (by omega) ej]
              exact hg1 29 j (by unfold ps1; omega)
          · by_cases e30 : k = 30
            · rw [e30, f7 j]
              by_cases ej : j = (Y 0 41).toNatClampNeg
              · rw [if_pos ej, ej, b30]
              · rw [if_neg ej, tw_ne (by omega) ej]
                exact hg1 30 j (by unfold ps1; omega)
            · by_cases e31 : k = 31
              · rw [e31, f8 j]
                by_cases ej : j = (Y 0 41).toNatClampNeg
                · rw [if_pos ej, ej, b31]
                · rw [if_neg ej, tw_ne (by omega) ej]
                  exact hg1 31 j (by unfold ps1; omega)
              · rw [tw_no (by omega) (by omega), fz _ _ (by unfold sC; unfold ps1 at p; omega) (by omega) (by omega)]
                exact hg1 k j p
end ZN1
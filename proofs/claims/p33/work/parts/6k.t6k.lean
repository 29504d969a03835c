/-! strike -/
section YU0
variable {d n t C c : Nat} {K L : Nat → Nat} {I I0 J J0 J1 J2 : Nat → Nat → Int32} {R : Nat → Nat → Nat} {P : Option Value → AH → Prop}
variable {Y Z W : Nat → Nat → Int32} {R' R1 : Nat → Nat → Nat} {K' L' : Nat → Nat}
def skY (Y : Nat → Nat → Int32) (x s : Int32) : Int32 × (Nat → Nat → Int32) := if ¬ ((0 ≤ x ∧ x < Y 0 41) ∧ (0 ≤ s ∧ s < 200)) then (-1, Y) else if Y 31 x.toNatClampNeg < 1000000 then (-3, Y) else (1, upY Y 31 x.toNatClampNeg s)
theorem cu_tx {m : Nat} (hH : cH C c m t K L I R) (hu : cuP C K L I R Y) {x s : Int32} (hx : 0 ≤ x ∧ x < Y 0 41) (hs : 0 ≤ s ∧ s < 200) : cuP C K L (a_ui (a_ui I (R (C + 8) x.toNatClampNeg) 4 1) (R (C + 8) x.toNatClampNeg) 3 s) R (upY Y 31 x.toNatClampNeg s) := by
  have hT := hH.1
  have hc := hu.1
  obtain ⟨kx, -⟩ := hc.2.2.2.1.2 x hx.1 hx.2
  have tx := (hT.g_txt _ kx).1
  have hr : rwE Y (upY Y 31 x.toNatClampNeg s) := rw_up9 (Or.inr (Or.inr (Or.inr rfl)))
  have z0 : upY Y 31 x.toNatClampNeg s 0 = Y 0 := hr 0 (by omega) (by omega) (by omega) (by omega)
  have hJ : ∀ y k, ¬ y = (R (C + 8) x.toNatClampNeg) → (a_ui (a_ui I (R (C + 8) x.toNatClampNeg) 4 1) (R (C + 8) x.toNatClampNeg) 3 s) y k = I y k := fun y k e => by rw [ui_ap, if_neg (fun q => e q.1), ui_ap, if_neg (fun q => e q.1)]
  have cin : ∀ k, k ≤ 43 → ∀ m, (a_ui (a_ui I (R (C + 8) x.toNatClampNeg) 4 1) (R (C + 8) x.toNatClampNeg) 3 s) (C + k) m = I (C + k) m := fun k hk m => hJ _ _ (by omega)
  have c0 : (a_ui (a_ui I (R (C + 8) x.toNatClampNeg) 4 1) (R (C + 8) x.toNatClampNeg) 3 s) C 10 = I C 10 := cin 0 (by omega) 10
  have h20 : ∀ y m, K y = 20 → (a_ui (a_ui I (R (C + 8) x.toNatClampNeg) 4 1) (R (C + 8) x.toNatClampNeg) 3 s) y m = I y m := fun y m ky => hJ _ _ (fun e => by rw [e, kx] at ky; cases ky)
  have h1' : ∀ y m, K y = 1 → (a_ui (a_ui I (R (C + 8) x.toNatClampNeg) 4 1) (R (C + 8) x.toNatClampNeg) 3 s) y m = I y m := fun y m ky => hJ _ _ (fun e => by rw [e, kx] at ky; cases ky)
  have h3' : ∀ y m, K y = 3 → (a_ui (a_ui I (R (C + 8) x.toNatClampNeg) 4 1) (R (C + 8) x.toNatClampNeg) 3 s) y m = I y m := fun y m ky => hJ _ _ (fun e => by rw [e, kx] at ky; cases ky)
  have hdis := hu.2.2.2.2.2
  have zz : ∀ i : Int32, 0 ≤ i → i < Y 0 41 → ¬ i = x → upY Y 31 x.toNatClampNeg s 31 i.toNatClampNeg = Y 31 i.toNatClampNeg := fun i i0 i1 e => up_no (fun q => e (cl_inj i0 hx.1 q.2))
  obtain ⟨⟨⟨p1, p2, p3⟩, ⟨q1, q2, q3, q4⟩, ⟨r1, r2, r3, r4⟩, ⟨x1, x2⟩, hy9⟩, hse, ⟨⟨⟨h1, h2⟩, h3, h4, h5, h6⟩, ⟨⟨t1, t2⟩, ⟨t3, t4⟩, t5, t6⟩, ⟨d1, d2⟩, hy⟩, hno, hst⟩ := hu
  refine ⟨⟨⟨by rw [cin _ (by omega), z0]; exact p1, fun m => by rw [cin _ (by omega), hr 1 (by omega) (by omega) (by omega) (by omega)]; exact p2 m, fun s s0 s1 => by rw [cin _ (by omega), li_rw hr]; exact p3 s s0 s1⟩, ⟨by rw [cin _ (by omega), z0]; exact q1, by rw [cin _ (by omega), z0]; exact q2, fun b b0 b1 => ?_, ?_⟩, ⟨by rw [cin _ (by omega), z0]; exact r1, fun o o0 o1 => ?_, fun o o0 o1 => ?_, fun o o0 o1 => ?_⟩, ⟨by rw [cin _ (by omega), z0]; exact x1, fun k k0 k1 => ?_⟩, yo_rw hr hy9⟩, by unfold seP; rw [z0]; exact hse, ⟨⟨⟨by rw [cin _ (by omega), z0]; exact h1, by rw [cin _ (by omega), z0]; exact h2⟩, fun k hk => by rw [cin _ (by omega), hr 38 (by omega) (by omega) (by omega) (by omega), hr 36 (by omega) (by omega) (by omega) (by omega)]; exact h3 k hk, fun r g hr' hg => by rw [cin _ (by omega), hr 35 (by omega) (by omega) (by omega) (by omega)]; exact h4 r g hr' hg, fun r a hr' ha => by rw [cin _ (by omega), hr 37 (by omega) (by omega) (by omega) (by omega)]; exact h5 r a hr' ha, fun a o ha ho => by rw [cin _ (by omega), hr 47 (by omega) (by omega) (by omega) (by omega)]; exact h6 a o ha ho⟩, ⟨⟨by rw [cin _ (by omega), z0]; exact t1, fun j hj => by rw [z0] at hj; rw [cin _ (by omega), cin _ (by omega), cin _ (by omega), hr 2 (by omega) (by omega) (by omega) (by omega), hr 3 (by omega) (by omega) (by omega) (by omega), hr 4 (by omega) (by omega) (by omega) (by omega)]; exact t2 j hj⟩, ⟨by rw [cin _ (by omega), z0]; exact t3, fun j => by rw [cin _ (by omega), hr 27 (by omega) (by omega) (by omega) (by omega)]; exact t4 j⟩, by rw [c0, z0]; exact t5, fun j hj => by rw [z0] at hj; rw [cin _ (by omega), hr 52 (by omega) (by omega) (by omega) (by omega)]; exact t6 j hj⟩, ⟨by rw [z0]; exact d1, fun hd => ?_⟩, sy_rw hr hy⟩, no_rw hr hno, fun i i0 i1 => ?_, fun i o i0 i1 o0 o1 e => ?_⟩
  · rw [z0] at b1
    obtain ⟨k1, k2, k3, k4⟩ := q3 b b0 b1
    rw [h3' _ _ k1, h3' _ _ k1, hr 5 (by omega) (by omega) (by omega) (by omega), hr 6 (by omega) (by omega) (by omega) (by omega)]
    exact ⟨k1, k2, k3, k4⟩
  · have hq : plP (whC C (a_ui (a_ui I (R (C + 8) x.toNatClampNeg) 4 1) (R (C + 8) x.toNatClampNeg) 3 s) R) (snC C (a_ui (a_ui I (R (C + 8) x.toNatClampNeg) 4 1) (R (C + 8) x.toNatClampNeg) 3 s) R) Y := plP_eq q4 (fun b b0 b1 => by
      have g := (hT.g_bnc _ (q3 b b0 b1).1).2.1.2.1
      unfold whC
      funext m
      exact h20 _ _ g) (fun b b0 b1 => by
      have g := (hT.g_bnc _ (q3 b b0 b1).1).2.2.1.2.1
      unfold snC
      funext m
      exact h20 _ _ g)
    unfold plP at hq ⊢
    rw [z0, hr 20 (by omega) (by omega) (by omega) (by omega), hr 21 (by omega) (by omega) (by omega) (by omega), hr 10 (by omega) (by omega) (by omega) (by omega), hr 22 (by omega) (by omega) (by omega) (by omega)]
    exact hq
  · rw [z0] at o1
    obtain ⟨k1, k2, k3⟩ := r2 o o0 o1
    exact ⟨k1, k2, by rw [h1' _ _ k1]; exact k3⟩
  · rw [z0] at o1
    rw [h1' _ _ (r2 o o0 o1).1, (mk_rw hr).1, (mk_rw hr).2]
    exact r3 o o0 o1
  · rw [z0] at o1
    have ko := (r2 o o0 o1).1
    have hl := r4 o o0 o1
    unfold alP at hl ⊢
    have u15 : upY Y 31 x.toNatClampNeg s 15 = Y 15 := funext (fun m => up_no (by omega))
    have u18 : upY Y 31 x.toNatClampNeg s 18 = Y 18 := funext (fun m => up_no (by omega))
    have u19 : upY Y 31 x.toNatClampNeg s 19 = Y 19 := funext (fun m => up_no (by omega))
    simp only [h1' _ _ ko, hr 8 (by omega) (by omega) (by omega) (by omega), hr 9 (by omega) (by omega) (by omega) (by omega), hr 10 (by omega) (by omega) (by omega) (by omega), hr 11 (by omega) (by omega) (by omega) (by omega), hr 7 (by omega) (by omega) (by omega) (by omega), hr 12 (by omega) (by omega) (by omega) (by omega), hr 13 (by omega) (by omega) (by omega) (by omega), hr 14 (by omega) (by omega) (by omega) (by omega), hr 16 (by omega) (by omega) (by omega) (by omega), hr 17 (by omega) (by omega) (by omega) (by omega), hr 20 (by omega) (by omega) (by omega) (by omega), hr 21 (by omega) (by omega) (by omega) (by omega), u15, u18, u19]
    exact hl
  · rw [z0] at k1
    obtain ⟨k11, k12, k13, k14, k15, k16⟩ := x2 k k0 k1
    have hcd : (a_ui (a_ui I (R (C + 8) x.toNatClampNeg) 4 1) (R (C + 8) x.toNatClampNeg) 3 s) (R (R (C + 8) k.toNatClampNeg) 2) = I (R (R (C + 8) k.toNatClampNeg) 2) := funext (fun m => h20 _ _ (hT.g_txt _ k11).2.2.1)
    rw [hcd, wt_rw hr, wv_rw hr, hr 30 (by omega) (by omega) (by omega) (by omega)]
    by_cases e : k = x
    · rw [e] at k11 k12 k13 k14 k16 ⊢
      refine ⟨k11, k12, by rw [ui_ap, if_neg (by omega), ui_ap, if_neg (by omega)]; exact k13, by rw [ui_ap, if_neg (by omega), ui_ap, if_neg (by omega)]; exact k14, fun q _ _ => ?_, k16⟩
      rw [ui_ap, if_pos ⟨rfl, rfl⟩, up_at]
    · have hne : ¬ R (C + 8) k.toNatClampNeg = (R (C + 8) x.toNatClampNeg) := fun q => e (hdis k x k0 k1 hx.1 hx.2 q)
      rw [hJ _ _ hne, hJ _ _ hne, hJ _ _ hne, zz k k0 k1 e]
      exact ⟨k11, k12, k13, k14, k15, k16⟩
  · obtain ⟨e1, e2, e3, e4⟩ := d2 hd
    simp only [h1' _ _ e1, z0]
    exact ⟨e1, e2, e3, e4⟩
  · rw [z0] at i1
    by_cases e : i = x
    · rw [e, ui_ap, if_neg (by omega), ui_ap, if_pos ⟨rfl, rfl⟩, up_at]
      exact ⟨fun _ => Int32.lt_trans hs.2 (by decide), fun _ => by decide⟩
    · have hne : ¬ R (C + 8) i.toNatClampNeg = (R (C + 8) x.toNatClampNeg) := fun q => e (hdis i x i0 i1 hx.1 hx.2 q)
      rw [hJ _ _ hne, zz i i0 i1 e]
      exact hst.1 i i0 i1
  · rw [z0] at i1 o1
    exact hst.2 i o i0 i1 o0 o1 e
theorem ge_strike (hH : cH C c (n + 1) t K L I R) (hu : cuP C K L I R Y) {x s : Int32} (hP : ∀ n' t' K' L' J R', cH C c (n' + 1) t' K' L' J R' → cuP C K' L' J R' (skY Y x s).2 → P (some (.int (skY Y x s).1)) (n' + 1, t', K', L', J, R')) : a_does (d + 70) 84 [a_rf C, .int x, .int s] (n + 1, t, K, L, I, R) P := by
  have hT := hH.1
  have hS := hT.s
  have gA := hT.g_asksR
  have gB := hT.g_benchesR
  have gX := hT.g_textsR
  have hc := hu.1
  have h17 := hc.2.2.2.2.2.2.2.2.1
  have e4 : I (C + 14) 4 = Y 0 17 := hc.2.2.1.1
  have e3 : I (C + 7) 3 = Y 0 41 := hc.2.2.2.1.1
  have h41 := hc.2.2.2.2.1
  unfold skY at hP
  have hr1 : ¬ ((0 ≤ x ∧ x < Y 0 41) ∧ (0 ≤ s ∧ s < 200)) → ∀ y, a_does (d + 69) 10 [a_rf C, .int (-1)] (n + 1, t, K, L, I, R) (fun r h' => a_at (d + 69) (a_xm a_m84) 25 [some (a_rf C), some (.int x), some (.int s), y] (r.toList ++ []) h' P) := fun q y => by
    rw [if_pos q] at hP
    refine ge_refuse (d := d + 68) hH hu (fun J z1 z2 => ?_)
    have hp := hP n t K L J R z1 z2
    clear hP hc hu
    simp only [q84_25, as_nil, as_i, as_r, Nat.reduceAdd, Nat.reduceLeDiff, z_eq0, z_eq1, z_or, z_em, Classical.not_not, not_false_eq_true, not_true_eq_false, true_and, and_true, false_and, and_false, and_self, true_implies, false_implies, implies_true, Option.toList_some, Option.toList_none, List.cons_append, List.nil_append, Nat.add_eq_zero_iff, a_nl_i, a_nl_r, a_nl_n, true_or, or_true, eq_self, a_isRA_22, a_isRA_24, a_isRA_32, a_isA_20, ok_4, ok_5, ok_6, ok_7, ok_9, ok_20, ok_21, ok_30, ok_50, ok_180, ok_192, ok_200]
    exact hp
  by_cases c1 : 0 ≤ x ∧ x < Y 0 41
  · have hxc : 0 ≤ x ∧ x < I (C + 7) 3 ∧ x < 20 := ⟨c1.1, by rw [e3]; exact c1.2, by have g7 := hT.g_texts; rw [e3] at g7; have := c1.2; clear hP hc hu hr1; grind⟩
    obtain ⟨kx, kx0, -⟩ := hc.2.2.2.1.2 x c1.1 c1.2
    have x0 : ((R (C + 8) x.toNatClampNeg) = 0) = False := eq_false kx0
    have tx := (hT.g_txt _ kx).1
    have h31 := hu.2.2.2.2.1 x c1.1 c1.2
    by_cases c2 : 0 ≤ s ∧ s < 200
    · rw [if_neg (fun q => q ⟨c1, c2⟩)] at hP
      by_cases c3 : Y 31 x.toNatClampNeg < 1000000
      · rw [if_pos c3] at hP
        have e4' := h31.mpr c3
        have hr : a_does (d + 69) 10 [a_rf C, .int (-3)] (n + 1, t, K, L, I, R) (fun r h' => a_at (d + 69) (a_xm a_m84) 39 [some (a_rf C), some (.int x), some (.int s), some (a_rf (R (C + 8) x.toNatClampNeg))] (r.toList ++ []) h' P) := by
          refine ge_refuse (d := d + 68) hH hu (fun J z1 z2 => ?_)
          have hp := hP n t K L J R z1 z2
          clear hP hc hu
          simp only [q84_39, as_nil, as_i, as_r, Nat.reduceAdd, Nat.reduceLeDiff, z_eq0, z_eq1, z_or, z_em, Classical.not_not, not_false_eq_true, not_true_eq_false, true_and, and_true, false_and, and_false, and_self, true_implies, false_implies, implies_true, Option.toList_some, Option.toList_none, List.cons_append, List.nil_append, Nat.add_eq_zero_iff, a_nl_i, a_nl_r, a_nl_n, true_or, or_true, eq_self, a_isRA_22, a_isRA_24, a_isRA_32, a_isA_20, ok_4, ok_5, ok_6, ok_7, ok_9, ok_20, ok_21, ok_30, ok_50, ok_180, ok_192, ok_200]
          exact hp
        clear hP hc hu hr1
        rw [a_enter1 (M := a_m84) rfl (a_cat_rf (a_cat_int (a_cat_int a_cat_nil))) (show 3 ≤ 4 by decide)]
        show a_at _ (a_xm a_m84) 0 [some (a_rf C), some (.int x), some (.int s), none] [] _ _
        simp only [q84_0, q84_1, q84_4, q84_5, q84_8, q84_9, q84_10, q84_13, q84_14, q84_17, q84_20, q84_21, q84_22, q84_25, q84_26, q84_27, q84_30, q84_33, q84_34, q84_36, k_0 hS, z_C hS, r_0_1 hS, k_7 hS, z_7, sp_textAt hS gX, sp_isShiftC, as_nil, as_i, as_r, Nat.reduceAdd, Nat.reduceLeDiff, z_eq0, z_eq1, z_or, z_em, Classical.not_not, not_false_eq_true, not_true_eq_false, true_and, and_true, false_and, and_false, and_self, true_implies, false_implies, implies_true, Option.toList_some, Option.toList_none, List.cons_append, List.nil_append, Nat.add_eq_zero_iff, a_nl_i, a_nl_r, a_nl_n, true_or, or_true, eq_self, a_isRA_22, a_isRA_24, a_isRA_32, a_isA_20, ok_4, ok_5, ok_6, ok_7, ok_9, ok_20, ok_21, ok_30, ok_50, ok_180, ok_192, ok_200, hxc, kx, x0, c2, e4']
        try simp only [true_and, and_true, true_implies, false_implies, implies_true, not_true_eq_false, not_false_eq_true]
        first
          | exact hr
          | grind
      · rw [if_neg c3] at hP
        have e4' : I (R (C + 8) x.toNatClampNeg) 4 = 0 := Classical.byContradiction (fun q => c3 (h31.mp q))
        have hp := hP n t K L (a_ui (a_ui I (R (C + 8) x.toNatClampNeg) 4 1) (R (C + 8) x.toNatClampNeg) 3 s) R (cH_J hH (sT_txt (sT_txt hT tx kx) tx kx)) (cu_tx hH hu c1 c2)
        clear hP hc hu hr1
        rw [a_enter1 (M := a_m84) rfl (a_cat_rf (a_cat_int (a_cat_int a_cat_nil))) (show 3 ≤ 4 by decide)]
        show a_at _ (a_xm a_m84) 0 [some (a_rf C), some (.int x), some (.int s), none] [] _ _
        simp only [q84_0, q84_1, q84_4, q84_5, q84_8, q84_9, q84_10, q84_13, q84_14, q84_17, q84_26, q84_27, q84_30, q84_40, q84_41, q84_42, q84_45, q84_46, q84_47, q84_50, q84_51, k_0 hS, z_C hS, r_0_1 hS, k_7 hS, z_7, sp_textAt hS gX, sp_isShiftC, as_nil, as_i, as_r, Nat.reduceAdd, Nat.reduceLeDiff, z_eq0, z_eq1, z_or, z_em, Classical.not_not, not_false_eq_true, not_true_eq_false, true_and, and_true, false_and, and_false, and_self, true_implies, false_implies, implies_true, Option.toList_some, Option.toList_none, List.cons_append, List.nil_append, Nat.add_eq_zero_iff, a_nl_i, a_nl_r, a_nl_n, true_or, or_true, eq_self, a_isRA_22, a_isRA_24, a_isRA_32, a_isA_20, ok_4, ok_5, ok_6, ok_7, ok_9, ok_20, ok_21, ok_30, ok_50, ok_180, ok_192, ok_200, hxc, kx, x0, c2, e4']
        try simp only [true_and, and_true, true_implies, false_implies, implies_true, not_true_eq_false, not_false_eq_true]
        first
          | exact hp
          | grind
    · have hr := hr1 (fun q => c2 q.2)
      clear hP hc hu hr1
      rw [a_enter1 (M := a_m84) rfl (a_cat_rf (a_cat_int (a_cat_int a_cat_nil))) (show 3 ≤ 4 by decide)]
      show a_at _ (a_xm a_m84) 0 [some (a_rf C), some (.int x), some (.int s), none] [] _ _
      simp only [q84_0, q84_1, q84_4, q84_5, q84_8, q84_9, q84_10, q84_13, q84_14, q84_17, q84_20, q84_21, q84_22, k_0 hS, z_C hS, r_0_1 hS, k_7 hS, z_7, sp_textAt hS gX, sp_isShiftC, as_nil, as_i, as_r, Nat.reduceAdd, Nat.reduceLeDiff, z_eq0, z_eq1, z_or, z_em, Classical.not_not, not_false_eq_true, not_true_eq_false, true_and, and_true, false_and, and_false, and_self, true_implies, false_implies, implies_true, Option.toList_some, Option.toList_none, List.cons_append, List.nil_append, Nat.add_eq_zero_iff, a_nl_i, a_nl_r, a_nl_n, true_or, or_true, eq_self, a_isRA_22, a_isRA_24, a_isRA_32, a_isA_20, ok_4, ok_5, ok_6, ok_7, ok_9, ok_20, ok_21, ok_30, ok_50, ok_180, ok_192, ok_200, hxc, kx, x0, c2]
      try simp only [true_and, and_true, true_implies, false_implies, implies_true, not_true_eq_false, not_false_eq_true]
      first
        | exact hr _
        | grind
  · have hxc : ¬ (0 ≤ x ∧ x < I (C + 7) 3 ∧ x < 20) := fun q => c1 ⟨q.1, by rw [← e3]; exact q.2.1⟩
    have hr := hr1 (fun q => c1 q.1)
    clear hP hc hu hr1
    rw [a_enter1 (M := a_m84) rfl (a_cat_rf (a_cat_int (a_cat_int a_cat_nil))) (show 3 ≤ 4 by decide)]
    show a_at _ (a_xm a_m84) 0 [some (a_rf C), some (.int x), some (.int s), none] [] _ _
    simp only [q84_0, q84_1, q84_4, q84_5, q84_8, q84_9, q84_10, q84_13, q84_14, q84_17, q84_20, q84_21, q84_22, k_0 hS, z_C hS, r_0_1 hS, k_7 hS, z_7, sp_textAt hS gX, sp_isShiftC, as_nil, as_i, as_r, Nat.reduceAdd, Nat.reduceLeDiff, z_eq0, z_eq1, z_or, z_em, Classical.not_not, not_false_eq_true, not_true_eq_false, true_and, and_true, false_and, and_false, and_self, true_implies, false_implies, implies_true, Option.toList_some, Option.toList_none, List.cons_append, List.nil_append, Nat.add_eq_zero_iff, a_nl_i, a_nl_r, a_nl_n, true_or, or_true, eq_self, a_isRA_22, a_isRA_24, a_isRA_32, a_isA_20, ok_4, ok_5, ok_6, ok_7, ok_9, ok_20, ok_21, ok_30, ok_50, ok_180, ok_192, ok_200, hxc]
    try simp only [true_and, and_true, true_implies, false_implies, implies_true, not_true_eq_false, not_false_eq_true]
    first
      | exact hr _
      | grind
end YU0
section YU1
variable {d n t M : Nat} {K L : Nat → Nat} {I I0 J J0 J1 J2 : Nat → Nat → Int32} {R : Nat → Nat → Nat} {P : Option Value → AH → Prop} {f : Nat → Int32} {e : Int32}
variable {Y Z W : Nat → Nat → Int32}
theorem xp_strike (hS : m_S M K L R) {I1 : Nat → Nat → Int32} (hm : okY Y) {c : Nat} (hc : c + 130 ≤ 84000) (hF : mF M c I1 I) (hg : gs M I0 I Y) {x s : Int32} (hP : ∀ J, J M 35 = I M 35 → gs M I0 J (skY Y x s).2 → P (some (.int (skY Y x s).1)) (n, t, K, L, J, R)) : a_does (d + 13) 207 [a_rf M, .int x, .int s] (n, t, K, L, I, R) P := by
  have hy := hm.1
  have h17 := hy.2.2.2.2.1
  have h10 := hy.2.1
  have h6 := hy.2.2.2.2.2.1
  have hl := hy.2.2.1
  have hrf : ∀ k : Nat, mF M (c + 120) I1 (a_ui I (M + 23) k (I (M + 23) k + 1)) ∧ gs M I0 (a_ui I (M + 23) k (I (M + 23) k + 1)) Y := fun k => ⟨mF_le (sF_refused hF) (by omega), gs_ui hg (sR_refused hg.1) (by omega) ⟨by unfold ps1; omega, by omega⟩⟩
  have e17 : I M 17 = Y 0 17 := hg.2.2.1 0 17 (by unfold ps1; omega)
  have e6 : I M 6 = Y 0 6 := hg.2.2.1 0 6 (by unfold ps1; omega)
  have e0 : I M 0 = Y 0 0 := hg.2.2.1 0 0 (by unfold ps1; omega)
  have m17 : ∀ x : Int32, (x ≤ Y 0 17 - 1) = (x < Y 0 17) := fun x => le_m1 h17
  have m6 : ∀ x : Int32, (x ≤ Y 0 6 - 1) = (x < Y 0 6) := fun x => le_m1 ⟨h6.1, Int32.le_trans h6.2 (by decide)⟩
  have m199 : ∀ x : Int32, (x ≤ 199) = (x < 200) := fun x => propext ⟨fun q => Int32.lt_of_le_of_lt q (by decide), fun q => by clear hP hrf hm hg hF; grind⟩
  have e41 : I M 41 = Y 0 41 := hg.2.2.1 0 41 (by unfold ps1; omega)
  have e31 : I (M + 31) x.toNatClampNeg = Y 31 x.toNatClampNeg := hg.2.2.1 31 _ (by unfold ps1; omega)
  have h41 := hy.1
  have m41 : ∀ y : Int32, (y ≤ Y 0 41 - 1) = (y < Y 0 41) := fun y => le_m1 ⟨h41.1, Int32.le_trans h41.2 (by decide)⟩
  unfold skY at hP
  by_cases c1 : (0 ≤ x ∧ x < Y 0 41) ∧ (0 ≤ s ∧ s < 200)
  · rw [if_neg (fun q => q c1)] at hP
    obtain ⟨k1, k2⟩ := c1
    have x20 : 0 ≤ x ∧ x < 20 := ⟨k1.1, Int32.lt_of_lt_of_le k1.2 h41.2⟩
    by_cases c2 : Y 31 x.toNatClampNeg < 1000000
    · rw [if_pos c2] at hP
      have c2' : ¬ 1000000 ≤ Y 31 x.toNatClampNeg := Int32.not_le.mpr c2
      have hr := hP _ (by rw [ui_ap, if_neg (by omega)]) (hrf 3).2
      clear hP hrf hm hy hl hg hF
      rw [a_enter1 (M := a_m207) rfl (a_cat_rf (a_cat_int (a_cat_int a_cat_nil))) (show 3 ≤ 3 by decide)]
      show a_at _ (a_xm a_m207) 0 [some (a_rf M), some (.int x), some (.int s)] [] _ _
      simp only [q207_0, q207_1, q207_2, q207_3, q207_6, q207_7, q207_8, q207_11, q207_14, q207_15, q207_18, q207_21, q207_22, q207_23, q207_26, q207_27, q207_28, q207_31, q207_32, q207_33, q207_36, q207_39, q207_40, q207_42, q207_45, m_0 hS, m_K hS, mR_struckFrom hS, mK_struckFrom hS, mL_struckFrom hS, sp_in, sp_isShift, sp_refuse_1 hS, sp_refuse_2 hS, sp_refuse_3 hS, sp_refuse_4 hS, sp_refuse_5 hS, sp_refuse_6 hS, as_nil, as_i, as_r, Nat.reduceAdd, Nat.reduceLeDiff, z_eq0, z_eq1, z_or, z_em, Classical.not_not, not_false_eq_true, not_true_eq_false, true_and, and_true, false_and, and_false, and_self, true_implies, false_implies, implies_true, Option.toList_some, Option.toList_none, List.cons_append, List.nil_append, Nat.add_eq_zero_iff, a_nl_i, a_nl_r, a_nl_n, true_or, or_true, eq_self, ok_4, ok_5, ok_6, ok_7, ok_9, ok_10, ok_20, ok_21, ok_24, ok_30, ok_48, ok_50, ok_60, ok_80, ok_120, ok_180, ok_192, ok_200, ok_900, ok_1000, ok_84000, e41, m41, m199, k1, k2, x20, e31, c2, c2']
      try simp only [true_and, and_true, true_implies, false_implies, implies_true, not_true_eq_false, not_false_eq_true]
      first
        | exact hr
        | grind
    · rw [if_neg c2] at hP
      have c2' : 1000000 ≤ Y 31 x.toNatClampNeg := Int32.not_lt.mp c2
      have hp := hP (a_ui I (M + 31) x.toNatClampNeg s) (by rw [ui_ap, if_neg (by omega)]) (gs_up2 hg (by omega) (by omega) (sR_struckFrom hg.1))
      clear hP hrf hm hy hl hg hF
      rw [a_enter1 (M := a_m207) rfl (a_cat_rf (a_cat_int (a_cat_int a_cat_nil))) (show 3 ≤ 3 by decide)]
      show a_at _ (a_xm a_m207) 0 [some (a_rf M), some (.int x), some (.int s)] [] _ _
      simp only [q207_0, q207_1, q207_2, q207_3, q207_6, q207_7, q207_8, q207_11, q207_14, q207_15, q207_18, q207_21, q207_22, q207_23, q207_26, q207_27, q207_28, q207_31, q207_32, q207_33, q207_36, q207_39, q207_40, q207_42, q207_45, q207_46, q207_47, q207_50, q207_51, q207_52, q207_53, q207_54, m_0 hS, m_K hS, mR_struckFrom hS, mK_struckFrom hS, mL_struckFrom hS, sp_in, sp_isShift, sp_refuse_1 hS, sp_refuse_2 hS, sp_refuse_3 hS, sp_refuse_4 hS, sp_refuse_5 hS, sp_refuse_6 hS, as_nil, as_i, as_r, Nat.reduceAdd, Nat.reduceLeDiff, z_eq0, z_eq1, z_or, z_em, Classical.not_not, not_false_eq_true, not_true_eq_false, true_and, and_true, false_and, and_false, and_self, true_implies, false_implies, implies_true, Option.toList_some, Option.toList_none, List.cons_append, List.nil_append, Nat.add_eq_zero_iff, a_nl_i, a_nl_r, a_nl_n, true_or, or_true, eq_self, ok_4, ok_5, ok_6, ok_7, ok_9, ok_10, ok_20, ok_21, ok_24, ok_30, ok_48, ok_50, ok_60, ok_80, ok_120, ok_180, ok_192, ok_200, ok_900, ok_1000, ok_84000, e41, m41, m199, k1, k2, x20, e31, c2, c2']
      try simp only [true_and, and_true, true_implies, false_implies, implies_true, not_true_eq_false, not_false_eq_true]
      first
        | exact hp
        | grind
  · rw [if_pos c1] at hP
    have hr := hP _ (by rw [ui_ap, if_neg (by omega)]) (hrf 1).2
    clear hP hrf hm hy hl hg hF
    rw [a_enter1 (M := a_m207) rfl (a_cat_rf (a_cat_int (a_cat_int a_cat_nil))) (show 3 ≤ 3 by decide)]
    show a_at _ (a_xm a_m207) 0 [some (a_rf M), some (.int x), some (.int s)] [] _ _
    simp only [q207_0, q207_1, q207_2, q207_3, q207_6, q207_7, q207_8, q207_11, q207_14, q207_15, q207_18, q207_21, q207_22, q207_23, q207_26, m_0 hS, m_K hS, sp_in, sp_isShift, sp_refuse_1 hS, sp_refuse_2 hS, sp_refuse_3 hS, sp_refuse_4 hS, sp_refuse_5 hS, sp_refuse_6 hS, as_nil, as_i, as_r, Nat.reduceAdd, Nat.reduceLeDiff, z_eq0, z_eq1, z_or, z_em, Classical.not_not, not_false_eq_true, not_true_eq_false, true_and, and_true, false_and, and_false, and_self, true_implies, false_implies, implies_true, Option.toList_some, Option.toList_none, List.cons_append, List.nil_append, Nat.add_eq_zero_iff, a_nl_i, a_nl_r, a_nl_n, true_or, or_true, eq_self, ok_4, ok_5, ok_6, ok_7, ok_9, ok_10, ok_20, ok_21, ok_24, ok_30, ok_48, ok_50, ok_60, ok_80, ok_120, ok_180, ok_192, ok_200, ok_900, ok_1000, ok_84000, e41, m41, m199]
    try simp only [true_and, and_true, true_implies, false_implies, implies_true, not_true_eq_false, not_false_eq_true]
    by_cases q1 : 0 ≤ x ∧ x < Y 0 41
    · have q2 : ¬ (0 ≤ s ∧ s < 200) := fun q => c1 ⟨q1, q⟩
      simp only [q1, q2]
      try simp only [true_and, and_true, true_implies, false_implies, implies_true, not_true_eq_false, not_false_eq_true]
      first
        | exact hr
        | grind
    · simp only [q1]
      try simp only [true_and, and_true, true_implies, false_implies, implies_true, not_true_eq_false, not_false_eq_true]
      first
        | exact hr
        | grind
end YU1
section
/-! the reference: wish -/
section YT0
variable {d n t M : Nat} {K L : Nat → Nat} {I I0 J J0 J1 J2 : Nat → Nat → Int32} {R : Nat → Nat → Nat} {P : Option Value → AH → Prop} {f : Nat → Int32} {e : Int32}
variable {Y Z W : Nat → Nat → Int32}
theorem psE_up2 (h : psE Y W) {k j : Nat} {v : Int32} (hk : ¬ k = 10 ∧ ¬ k = 20 ∧ ¬ k = 22) : psE (upY Y k j v) (upY W k j v) := by
  refine ⟨fun x i p => ?_, fun o o0 o1 o2 i i0 i1 => ?_⟩
  · by_cases e : x = k ∧ i = j
    · rw [e.1, e.2, up_at, up_at]
    · rw [up_no e, up_no e]
      exact h.1 x i p
  · rw [up_no (by omega)] at o2 i1
    rw [up_no (by omega), up_no (by omega)]
    exact h.2 o o0 o1 o2 i i0 i1
theorem gs_up2 {M : Nat} (hg : gs M I0 I Y) {k j : Nat} {v : Int32} (hk : ¬ k = 10 ∧ ¬ k = 20 ∧ ¬ k = 22) (hk2 : k ≤ 52) (hR : mR M (a_ui I (M + k) j v)) : gs M I0 (a_ui I (M + k) j v) (upY Y k j v) := by
  refine ⟨hR, fun x i p => by rw [ui_ap, if_neg (by omega)]; exact hg.2.1 x i p, ?_⟩
  have e : yv M (a_ui I (M + k) j v) = upY (yv M I) k j v := by
    funext x i
    unfold upY
    show a_ui I (M + k) j v (M + x) i = if x = k ∧ i = j then v else I (M + x) i
    rw [ui_ap]
    by_cases e : x = k ∧ i = j
    · rw [if_pos ⟨by omega, e.2⟩, if_pos e]
    · rw [if_neg (fun q => e ⟨by omega, q.2⟩), if_neg e]
  rw [e]
  exact psE_up2 hg.2.2 hk
theorem xp_wish (hS : m_S M K L R) {I1 : Nat → Nat → Int32} (hm : okY Y) {c : Nat} (hc : c + 130 ≤ 84000) (hF : mF M c I1 I) (hg : gs M I0 I Y) {a o w : Int32} (hw : w = 0 ∨ w = 1) (hP : ∀ J, mF M (c + 120) I1 J → gs M I0 J (wsY Y a o w).2 → P (some (.int (wsY Y a o w).1)) (n, t, K, L, J, R)) : a_does (d + 13) 250 [a_rf M, .int a, .int o, .int w] (n, t, K, L, I, R) P := by
  have hy := hm.1
  have h17 := hy.2.2.2.2.1
  have h10 := hy.2.1
  have h6 := hy.2.2.2.2.2.1
  have hl := hy.2.2.1
  have hrf : ∀ k : Nat, mF M (c + 120) I1 (a_ui I (M + 23) k (I (M + 23) k + 1)) ∧ gs M I0 (a_ui I (M + 23) k (I (M + 23) k + 1)) Y := fun k => ⟨mF_le (sF_refused hF) (by omega), gs_ui hg (sR_refused hg.1) (by omega) ⟨by unfold ps1; omega, by omega⟩⟩
  have e17 : I M 17 = Y 0 17 := hg.2.2.1 0 17 (by unfold ps1; omega)
  have e6 : I M 6 = Y 0 6 := hg.2.2.1 0 6 (by unfold ps1; omega)
  have e0 : I M 0 = Y 0 0 := hg.2.2.1 0 0 (by unfold ps1; omega)
  have m17 : ∀ x : Int32, (x ≤ Y 0 17 - 1) = (x < Y 0 17) := fun x => le_m1 h17
  have m6 : ∀ x : Int32, (x ≤ Y 0 6 - 1) = (x < Y 0 6) := fun x => le_m1 ⟨h6.1, Int32.le_trans h6.2 (by decide)⟩
  have m199 : ∀ x : Int32, (x ≤ 199) = (x < 200) := fun x => propext ⟨fun q => Int32.lt_of_le_of_lt q (by decide), fun q => by clear hP hrf hm hg hF; grind⟩
  unfold wsY at hP
  by_cases c1 : (0 ≤ a ∧ a < Y 0 17) ∧ (0 ≤ o ∧ o < Y 0 17) ∧ ¬ a = o
  · obtain ⟨k1, k2, k3⟩ := c1
    have ha : 0 ≤ a ∧ a < 30 := ⟨k1.1, Int32.lt_of_lt_of_le k1.2 h17.2⟩
    have ho : 0 ≤ o ∧ o < 30 := ⟨k2.1, Int32.lt_of_lt_of_le k2.2 h17.2⟩
    rw [if_neg (fun q => q ⟨k1, k2, k3⟩)] at hP
    obtain ⟨ex, hx, a30, o30⟩ := ix_900 ha ho
    have e47 : I (M + 47) (30 * a.toNatClampNeg + o.toNatClampNeg) = Y 47 (30 * a.toNatClampNeg + o.toNatClampNeg) := hg.2.2.1 47 _ (by unfold ps1; omega)
    have hww : w &&& 1 = w := by
      rcases hw with e | e
      · rw [e]; decide
      · rw [e]; decide
    have hp := hP (a_ui I (M + 47) (30 * a.toNatClampNeg + o.toNatClampNeg) w) (mF_le (sF_isWish hF) (by omega)) (gs_up2 hg (by omega) (by omega) (sR_isWish hg.1))
    have n10 : ¬ (1 : Int32) = 0 := by decide
    dsimp only at hp
    clear hP hrf hm hy hl hg hF
    by_cases c4 : Y 47 (30 * a.toNatClampNeg + o.toNatClampNeg) = w
    · rw [if_pos c4] at hp
      rw [a_enter1 (M := a_m250) rfl (a_cat_rf (a_cat_int (a_cat_int (a_cat_int a_cat_nil)))) (show 4 ≤ 5 by decide)]
      show a_at _ (a_xm a_m250) 0 [some (a_rf M), some (.int a), some (.int o), some (.int w), none] [] _ _
      simp only [q250_0, q250_1, q250_2, q250_5, q250_8, q250_9, q250_10, q250_13, q250_16, q250_17, q250_18, q250_21, q250_22, q250_23, q250_26, q250_27, q250_28, q250_31, q250_33, q250_34, q250_35, q250_36, q250_37, q250_38, q250_40, q250_41, q250_44, q250_46, q250_47, q250_48, q250_49, q250_50, q250_51, q250_52, q250_54, q250_55, q250_58, q250_59, q250_62, q250_63, m_0 hS, m_K hS, mR_isWish hS, mK_isWish hS, mL_isWish hS, sp_isAsk hS, sp_refuse_1 hS, sp_refuse_2 hS, sp_refuse_3 hS, sp_refuse_4 hS, sp_refuse_5 hS, sp_refuse_6 hS, as_nil, as_i, as_r, Nat.reduceAdd, Nat.reduceLeDiff, z_eq0, z_eq1, z_or, z_em, Classical.not_not, not_false_eq_true, not_true_eq_false, true_and, and_true, false_and, and_false, and_self, true_implies, false_implies, implies_true, Option.toList_some, Option.toList_none, List.cons_append, List.nil_append, Nat.add_eq_zero_iff, a_nl_i, a_nl_r, a_nl_n, true_or, or_true, eq_self, ok_4, ok_5, ok_6, ok_7, ok_9, ok_10, ok_20, ok_21, ok_24, ok_30, ok_48, ok_50, ok_60, ok_80, ok_120, ok_180, ok_192, ok_200, ok_900, ok_1000, ok_84000, e17, m17, k1, k2, k3, ex, hx, e47, hww, c4]
      try simp only [true_and, and_true, true_implies, false_implies, implies_true, not_true_eq_false, not_false_eq_true]
      first
        | exact hp
        | grind
    · rw [if_neg c4] at hp
      rw [a_enter1 (M := a_m250) rfl (a_cat_rf (a_cat_int (a_cat_int (a_cat_int a_cat_nil)))) (show 4 ≤ 5 by decide)]
      show a_at _ (a_xm a_m250) 0 [some (a_rf M), some (.int a), some (.int o), some (.int w), none] [] _ _
      simp only [q250_0, q250_1, q250_2, q250_5, q250_8, q250_9, q250_10, q250_13, q250_16, q250_17, q250_18, q250_21, q250_22, q250_23, q250_26, q250_27, q250_28, q250_31, q250_33, q250_34, q250_35, q250_36, q250_37, q250_38, q250_40, q250_41, q250_44, q250_46, q250_47, q250_48, q250_49, q250_50, q250_51, q250_52, q250_54, q250_55, q250_58, q250_59, q250_62, q250_63, m_0 hS, m_K hS, mR_isWish hS, mK_isWish hS, mL_isWish hS, sp_isAsk hS, sp_refuse_1 hS, sp_refuse_2 hS, sp_refuse_3 hS, sp_refuse_4 hS, sp_refuse_5 hS, sp_refuse_6 hS, as_nil, as_i, as_r, Nat.reduceAdd, Nat.reduceLeDiff, z_eq0, z_eq1, z_or, z_em, Classical.not_not, not_false_eq_true, not_true_eq_false, true_and, and_true, false_and, and_false, and_self, true_implies, false_implies, implies_true, Option.toList_some, Option.toList_none, List.cons_append, List.nil_append, Nat.add_eq_zero_iff, a_nl_i, a_nl_r, a_nl_n, true_or, or_true, eq_self, ok_4, ok_5, ok_6, ok_7, ok_9, ok_10, ok_20, ok_21, ok_24, ok_30, ok_48, ok_50, ok_60, ok_80, ok_120, ok_180, ok_192, ok_200, ok_900, ok_1000, ok_84000, e17, m17, k1, k2, k3, ex, hx, e47, hww, c4]
      try simp only [true_and, and_true, true_implies, false_implies, implies_true, not_true_eq_false, not_false_eq_true]
      first
        | exact hp
        | grind
  · rw [if_pos c1] at hP
    have hr := hP _ (hrf 1).1 (hrf 1).2
    clear hP hrf hm hy hl hg hF
    rw [a_enter1 (M := a_m250) rfl (a_cat_rf (a_cat_int (a_cat_int (a_cat_int a_cat_nil)))) (show 4 ≤ 5 by decide)]
    show a_at _ (a_xm a_m250) 0 [some (a_rf M), some (.int a), some (.int o), some (.int w), none] [] _ _
    simp only [q250_0, q250_1, q250_2, q250_5, q250_8, q250_9, q250_10, q250_13, q250_16, q250_17, q250_18, q250_21, q250_22, q250_23, q250_26, m_0 hS, m_K hS, sp_isAsk hS, sp_refuse_1 hS, sp_refuse_2 hS, sp_refuse_3 hS, sp_refuse_4 hS, sp_refuse_5 hS, sp_refuse_6 hS, as_nil, as_i, as_r, Nat.reduceAdd, Nat.reduceLeDiff, z_eq0, z_eq1, z_or, z_em, Classical.not_not, not_false_eq_true, not_true_eq_false, true_and, and_true, false_and, and_false, and_self, true_implies, false_implies, implies_true, Option.toList_some, Option.toList_none, List.cons_append, List.nil_append, Nat.add_eq_zero_iff, a_nl_i, a_nl_r, a_nl_n, true_or, or_true, eq_self, ok_4, ok_5, ok_6, ok_7, ok_9, ok_10, ok_20, ok_21, ok_24, ok_30, ok_48, ok_50, ok_60, ok_80, ok_120, ok_180, ok_192, ok_200, ok_900, ok_1000, ok_84000, e17, m17]
    try simp only [true_and, and_true, true_implies, false_implies, implies_true, not_true_eq_false, not_false_eq_true]
    by_cases q1 : 0 ≤ a ∧ a < Y 0 17
    · by_cases q2 : 0 ≤ o ∧ o < Y 0 17
      · have q3 : a = o := Classical.byContradiction (fun q => c1 ⟨q1, q2, q⟩)
        simp only [q1, q2, q3]
        try simp only [true_and, and_true, true_implies, false_implies, implies_true, not_true_eq_false, not_false_eq_true]
        first
          | exact hr
          | grind
      · simp only [q1, q2]
        try simp only [true_and, and_true, true_implies, false_implies, implies_true, not_true_eq_false, not_false_eq_true]
        first
          | exact hr
          | grind
    · simp only [q1]
      try simp only [true_and, and_true, true_implies, false_implies, implies_true, not_true_eq_false, not_false_eq_true]
      first
        | exact hr
        | grind
end YT0
end
section
/-! strike -/
section YU0
variable {d n t C c : Nat} {K L : Nat → Nat} {I I0 J J0 J1 J2 : Nat → Nat → Int32} {R : Nat → Nat → Nat} {P : Option Value → AH → Prop}
variable {Y Z W : Nat → Nat → Int32} {R' R1 : Nat → Nat → Nat} {K' L' : Nat → Nat}
def skY (Y : Nat → Nat → Int32) (x s : Int32) : Int32 × (Nat → Nat → Int32) := if ¬ ((0 ≤ x ∧ x < Y 0 41) ∧ (0 ≤ s ∧ s < 200)) then (-1, Y) else if Y 31 x.toNatClampNeg < 1000000 then (-3, Y) else (1, upY Y 31 x.toNatClampNeg s)
theorem cu_tx {m : Nat} (hH : cH C c m t K L I R) (hu : cuP C K L I R Y) {x s : Int32} (hx : 0 ≤ x ∧ x < Y 0 41) (hs : 0 ≤ s ∧ s < 200) : cuP C K L (a_ui (a_ui I (R (C + 8) x.toNatClampNeg) 4 1) (R (C + 8) x.toNatClampNeg) 3 s) R (upY Y 31 x.toNatClampNeg s) := by
  have hT := hH.1
  have hc := hu.1
  obtain ⟨kx, -⟩ := hc.2.2.2.1.2 x hx.1 hx.2
  have tx := (hT.g_txt _ kx).1
  have hr : rwE Y (upY Y 31 x.toNatClampNeg s) := rw_up9 (Or.inr (Or.inr (Or.inr rfl)))
  have z0 : upY Y 31 x.toNatClampNeg s 0 = Y 0 := hr 0 (by omega) (by omega) (by omega) (by omega)
  have hJ : ∀ y k, ¬ y = (R (C + 8) x.toNatClampNeg) → (a_ui (a_ui I (R (C + 8) x.toNatClampNeg) 4 1) (R (C + 8) x.toNatClampNeg) 3 s) y k = I y k := fun y k e => by rw [ui_ap, if_neg (fun q => e q.1), ui_ap, if_neg (fun q => e q.1)]
  have cin : ∀ k, k ≤ 43 → ∀ m, (a_ui (a_ui I (R (C + 8) x.toNatClampNeg) 4 1) (R (C + 8) x.toNatClampNeg) 3 s) (C + k) m = I (C + k) m := fun k hk m => hJ _ _ (by omega)
  have c0 : (a_ui (a_ui I (R (C + 8) x.toNatClampNeg) 4 1) (R (C + 8) x.toNatClampNeg) 3 s) C 10 = I C 10 := cin 0 (by omega) 10
  have h20 : ∀ y m, K y = 20 → (a_ui (a_ui I (R (C + 8) x.toNatClampNeg) 4 1) (R (C + 8) x.toNatClampNeg) 3 s) y m = I y m := fun y m ky => hJ _ _ (fun e => by rw [e, kx] at ky; cases ky)
  have h1' : ∀ y m, K y = 1 → (a_ui (a_ui I (R (C + 8) x.toNatClampNeg) 4 1) (R (C + 8) x.toNatClampNeg) 3 s) y m = I y m := fun y m ky => hJ _ _ (fun e => by rw [e, kx] at ky; cases ky)
  have h3' : ∀ y m, K y = 3 → (a_ui (a_ui I (R (C + 8) x.toNatClampNeg) 4 1) (R (C + 8) x.toNatClampNeg) 3 s) y m = I y m := fun y m ky => hJ _ _ (fun e => by rw [e, kx] at ky; cases ky)
  have hdis := hu.2.2.2.2.2
  have zz : ∀ i : Int32, 0 ≤ i → i < Y 0 41 → ¬ i = x → upY Y 31 x.toNatClampNeg s 31 i.toNatClampNeg = Y 31 i.toNatClampNeg := fun i i0 i1 e => up_no (fun q => e (cl_inj i0 hx.1 q.2))
  obtain ⟨⟨⟨p1, p2, p3⟩, ⟨q1, q2, q3, q4⟩, ⟨r1, r2, r3, r4⟩, ⟨x1, x2⟩, hy9⟩, hse, ⟨⟨⟨h1, h2⟩, h3, h4, h5, h6⟩, ⟨⟨t1, t2⟩, ⟨t3, t4⟩, t5, t6⟩, ⟨d1, d2⟩, hy⟩, hno, hst⟩ := hu
  refine ⟨⟨⟨by rw [cin _ (by omega), z0]; exact p1, fun m => by rw [cin _ (by omega), hr 1 (by omega) (by omega) (by omega) (by omega)]; exact p2 m, fun s s0 s1 => by rw [cin _ (by omega), li_rw hr]; exact p3 s s0 s1⟩, ⟨by rw [cin _ (by omega), z0]; exact q1, by rw [cin _ (by omega), z0]; exact q2, fun b b0 b1 => ?_, ?_⟩, ⟨by rw [cin _ (by omega), z0]; exact r1, fun o o0 o1 => ?_, fun o o0 o1 => ?_, fun o o0 o1 => ?_⟩, ⟨by rw [cin _ (by omega), z0]; exact x1, fun k k0 k1 => ?_⟩, yo_rw hr hy9⟩, by unfold seP; rw [z0]; exact hse, ⟨⟨⟨by rw [cin _ (by omega), z0]; exact h1, by rw [cin _ (by omega), z0]; exact h2⟩, fun k hk => by rw [cin _ (by omega), hr 38 (by omega) (by omega) (by omega) (by omega), hr 36 (by omega) (by omega) (by omega) (by omega)]; exact h3 k hk, fun r g hr' hg => by rw [cin _ (by omega), hr 35 (by omega) (by omega) (by omega) (by omega)]; exact h4 r g hr' hg, fun r a hr' ha => by rw [cin _ (by omega), hr 37 (by omega) (by omega) (by omega) (by omega)]; exact h5 r a hr' ha, fun a o ha ho => by rw [cin _ (by omega), hr 47 (by omega) (by omega) (by omega) (by omega)]; exact h6 a o ha ho⟩, ⟨⟨by rw [cin _ (by omega), z0]; exact t1, fun j hj => by rw [z0] at hj; rw [cin _ (by omega), cin _ (by omega), cin _ (by omega), hr 2 (by omega) (by omega) (by omega) (by omega), hr 3 (by omega) (by omega) (by omega) (by omega), hr 4 (by omega) (by omega) (by omega) (by omega)]; exact t2 j hj⟩, ⟨by rw [cin _ (by omega), z0]; exact t3, fun j => by rw [cin _ (by omega), hr 27 (by omega) (by omega) (by omega) (by omega)]; exact t4 j⟩, by rw [c0, z0]; exact t5, fun j hj => by rw [z0] at hj; rw [cin _ (by omega), hr 52 (by omega) (by omega) (by omega) (by omega)]; exact t6 j hj⟩, ⟨by rw [z0]; exact d1, fun hd => ?_⟩, sy_rw hr hy⟩, no_rw hr hno, fun i i0 i1 => ?_, fun i o i0 i1 o0 o1 e => ?_⟩
  · rw [z0] at b1
    obtain ⟨k1, k2, k3, k4⟩ := q3 b b0 b1
    rw [h3' _ _ k1, h3' _ _ k1, hr 5 (by omega) (by omega) (by omega) (by omega), hr 6 (by omega) (by omega) (by omega) (by omega)]
    exact ⟨k1, k2, k3, k4⟩
  · have hq : plP (whC C (a_ui (a_ui I (R (C + 8) x.toNatClampNeg) 4 1) (R (C + 8) x.toNatClampNeg) 3 s) R) (snC C (a_ui (a_ui I (R (C + 8) x.toNatClampNeg) 4 1) (R (C + 8) x.toNatClampNeg) 3 s) R) Y := plP_eq q4 (fun b b0 b1 => by
      have g := (hT.g_bnc _ (q3 b b0 b1).1).2.1.2.1
      unfold whC
      funext m
      exact h20 _ _ g) (fun b b0 b1 => by
      have g := (hT.g_bnc _ (q3 b b0 b1).1).2.2.1.2.1
      unfold snC
      funext m
      exact h20 _ _ g)
    unfold plP at hq ⊢
    rw [z0, hr 20 (by omega) (by omega) (by omega) (by omega), hr 21 (by omega) (by omega) (by omega) (by omega), hr 10 (by omega) (by omega) (by omega) (by omega), hr 22 (by omega) (by omega) (by omega) (by omega)]
    exact hq
  · rw [z0] at o1
    obtain ⟨k1, k2, k3⟩ := r2 o o0 o1
    exact ⟨k1, k2, by rw [h1' _ _ k1]; exact k3⟩
  · rw [z0] at o1
    rw [h1' _ _ (r2 o o0 o1).1, (mk_rw hr).1, (mk_rw hr).2]
    exact r3 o o0 o1
  · rw [z0] at o1
    have ko := (r2 o o0 o1).1
    have hl := r4 o o0 o1
    unfold alP at hl ⊢
    have u15 : upY Y 31 x.toNatClampNeg s 15 = Y 15 := funext (fun m => up_no (by omega))
    have u18 : upY Y 31 x.toNatClampNeg s 18 = Y 18 := funext (fun m => up_no (by omega))
    have u19 : upY Y 31 x.toNatClampNeg s 19 = Y 19 := funext (fun m => up_no (by omega))
    simp only [h1' _ _ ko, hr 8 (by omega) (by omega) (by omega) (by omega), hr 9 (by omega) (by omega) (by omega) (by omega), hr 10 (by omega) (by omega) (by omega) (by omega), hr 11 (by omega) (by omega) (by omega) (by omega), hr 7 (by omega) (by omega) (by omega) (by omega), hr 12 (by omega) (by omega) (by omega) (by omega), hr 13 (by omega) (by omega) (by omega) (by omega), hr 14 (by omega) (by omega) (by omega) (by omega), hr 16 (by omega) (by omega) (by omega) (by omega), hr 17 (by omega) (by omega) (by omega) (by omega), hr 20 (by omega) (by omega) (by omega) (by omega), hr 21 (by omega) (by omega) (by omega) (by omega), u15, u18, u19]
    exact hl
  · rw [z0] at k1
    obtain ⟨k11, k12, k13, k14, k15, k16⟩ := x2 k k0 k1
    have hcd : (a_ui (a_ui I (R (C + 8) x.toNatClampNeg) 4 1) (R (C + 8) x.toNatClampNeg) 3 s) (R (R (C + 8) k.toNatClampNeg) 2) = I (R (R (C + 8) k.toNatClampNeg) 2) := funext (fun m => h20 _ _ (hT.g_txt _ k11).2.2.1)
    rw [hcd, wt_rw hr, wv_rw hr, hr 30 (by omega) (by omega) (by omega) (by omega)]
    by_cases e : k = x
    · rw [e] at k11 k12 k13 k14 k16 ⊢
      refine ⟨k11, k12, by rw [ui_ap, if_neg (by omega), ui_ap, if_neg (by omega)]; exact k13, by rw [ui_ap, if_neg (by omega), ui_ap, if_neg (by omega)]; exact k14, fun q _ _ => ?_, k16⟩
      rw [ui_ap, if_pos ⟨rfl, rfl⟩, up_at]
    · have hne : ¬ R (C + 8) k.toNatClampNeg = (R (C + 8) x.toNatClampNeg) := fun q => e (hdis k x k0 k1 hx.1 hx.2 q)
      rw [hJ _ _ hne, hJ _ _ hne, hJ _ _ hne, zz k k0 k1 e]
      exact ⟨k11, k12, k13, k14, k15, k16⟩
  · obtain ⟨e1, e2, e3, e4⟩ := d2 hd
    simp only [h1' _ _ e1, z0]
    exact ⟨e1, e2, e3, e4⟩
  · rw [z0] at i1
    by_cases e : i = x
    · rw [e, ui_ap, if_neg (by omega), ui_ap, if_pos ⟨rfl, rfl⟩, up_at]
      exact ⟨fun _ => Int32.lt_trans hs.2 (by decide), fun _ => by decide⟩
    · have hne : ¬ R (C + 8) i.toNatClampNeg = (R (C + 8) x.toNatClampNeg) := fun q => e (hdis i x i0 i1 hx.1 hx.2 q)
      rw [hJ _ _ hne, zz i i0 i1 e]
      exact hst.1 i i0 i1
  · rw [z0] at i1 o1
    exact hst.2 i o i0 i1 o0 o1 e
theorem ge_strike (hH : cH C c (n + 1) t K L I R) (hu : cuP C K L I R Y) {x s : Int32} (hP : ∀ n' t' K' L' J R', cH C c (n' + 1) t' K' L' J R' → cuP C K' L' J R' (skY Y x s).2 → P (some (.int (skY Y x s).1)) (n' + 1, t', K', L', J, R')) : a_does (d + 70) 84 [a_rf C, .int x, .int s] (n + 1, t, K, L, I, R) P := by
  have hT := hH.1
  have hS := hT.s
  have gA := hT.g_asksR
  have gB := hT.g_benchesR
  have gX := hT.g_textsR
  have hc := hu.1
  have h17 := hc.2.2.2.2.2.2.2.2.1
  have e4 : I (C + 14) 4 = Y 0 17 := hc.2.2.1.1
  have e3 : I (C + 7) 3 = Y 0 41 := hc.2.2.2.1.1
  have h41 := hc.2.2.2.2.1
  unfold skY at hP
  have hr1 : ¬ ((0 ≤ x ∧ x < Y 0 41) ∧ (0 ≤ s ∧ s < 200)) → ∀ y, a_does (d + 69) 10 [a_rf C, .int (-1)] (n + 1, t, K, L, I, R) (fun r h' => a_at (d + 69) (a_xm a_m84) 25 [some (a_rf C), some (.int x), some (.int s), y] (r.toList ++ []) h' P) := fun q y => by
    rw [if_pos q] at hP
    refine ge_refuse (d := d + 68) hH hu (fun J z1 z2 => ?_)
    have hp := hP n t K L J R z1 z2
    clear hP hc hu
    simp only [q84_25, as_nil, as_i, as_r, Nat.reduceAdd, Nat.reduceLeDiff, z_eq0, z_eq1, z_or, z_em, Classical.not_not, not_false_eq_true, not_true_eq_false, true_and, and_true, false_and, and_false, and_self, true_implies, false_implies, implies_true, Option.toList_some, Option.toList_none, List.cons_append, List.nil_append, Nat.add_eq_zero_iff, a_nl_i, a_nl_r, a_nl_n, true_or, or_true, eq_self, a_isRA_22, a_isRA_24, a_isRA_32, a_isA_20, ok_4, ok_5, ok_6, ok_7, ok_9, ok_20, ok_21, ok_30, ok_50, ok_180, ok_192, ok_200]
    exact hp
  by_cases c1 : 0 ≤ x ∧ x < Y 0 41
  · have hxc : 0 ≤ x ∧ x < I (C + 7) 3 ∧ x < 20 := ⟨c1.1, by rw [e3]; exact c1.2, by have g7 := hT.g_texts; rw [e3] at g7; have := c1.2; clear hP hc hu hr1; grind⟩
    obtain ⟨kx, kx0, -⟩ := hc.2.2.2.1.2 x c1.1 c1.2
    have x0 : ((R (C + 8) x.toNatClampNeg) = 0) = False := eq_false kx0
    have tx := (hT.g_txt _ kx).1
    have h31 := hu.2.2.2.2.1 x c1.1 c1.2
    by_cases c2 : 0 ≤ s ∧ s < 200
    · rw [if_neg (fun q => q ⟨c1, c2⟩)] at hP
      by_cases c3 : Y 31 x.toNatClampNeg < 1000000
      · rw [if_pos c3] at hP
        have e4' := h31.mpr c3
        have hr : a_does (d + 69) 10 [a_rf C, .int (-3)] (n + 1, t, K, L, I, R) (fun r h' => a_at (d + 69) (a_xm a_m84) 39 [some (a_rf C), some (.int x), some (.int s), some (a_rf (R (C + 8) x.toNatClampNeg))] (r.toList ++ []) h' P) := by
          refine ge_refuse (d := d + 68) hH hu (fun J z1 z2 => ?_)
          have hp := hP n t K L J R z1 z2
          clear hP hc hu
          simp only [q84_39, as_nil, as_i, as_r, Nat.reduceAdd, Nat.reduceLeDiff, z_eq0, z_eq1, z_or, z_em, Classical.not_not, not_false_eq_true, not_true_eq_false, true_and, and_true, false_and, and_false, and_self, true_implies, false_implies, implies_true, Option.toList_some, Option.toList_none, List.cons_append, List.nil_append, Nat.add_eq_zero_iff, a_nl_i, a_nl_r, a_nl_n, true_or, or_true, eq_self, a_isRA_22, a_isRA_24, a_isRA_32, a_isA_20, ok_4, ok_5, ok_6, ok_7, ok_9, ok_20, ok_21, ok_30, ok_50, ok_180, ok_192, ok_200]
          exact hp
        clear hP hc hu hr1
        rw [a_enter1 (M := a_m84) rfl (a_cat_rf (a_cat_int (a_cat_int a_cat_nil))) (show 3 ≤ 4 by decide)]
        show a_at _ (a_xm a_m84) 0 [some (a_rf C), some (.int x), some (.int s), none] [] _ _
        simp only [q84_0, q84_1, q84_4, q84_5, q84_8, q84_9, q84_10, q84_13, q84_14, q84_17, q84_20, q84_21, q84_22, q84_25, q84_26, q84_27, q84_30, q84_33, q84_34, q84_36, k_0 hS, z_C hS, r_0_1 hS, k_7 hS, z_7, sp_textAt hS gX, sp_isShiftC, as_nil, as_i, as_r, Nat.reduceAdd, Nat.reduceLeDiff, z_eq0, z_eq1, z_or, z_em, Classical.not_not, not_false_eq_true, not_true_eq_false, true_and, and_true, false_and, and_false, and_self, true_implies, false_implies, implies_true, Option.toList_some, Option.toList_none, List.cons_append, List.nil_append, Nat.add_eq_zero_iff, a_nl_i, a_nl_r, a_nl_n, true_or, or_true, eq_self, a_isRA_22, a_isRA_24, a_isRA_32, a_isA_20, ok_4, ok_5, ok_6, ok_7, ok_9, ok_20, ok_21, ok_30, ok_50, ok_180, ok_192, ok_200, hxc, kx, x0, c2, e4']
        try simp only [true_and, and_true, true_implies, false_implies, implies_true, not_true_eq_false, not_false_eq_true]
        first
          | exact hr
          | grind
      · rw [if_neg c3] at hP
        have e4' : I (R (C + 8) x.toNatClampNeg) 4 = 0 := Classical.byContradiction (fun q => c3 (h31.mp q))
        have hp := hP n t K L (a_ui (a_ui I (R (C + 8) x.toNatClampNeg) 4 1) (R (C + 8) x.toNatClampNeg) 3 s) R (cH_J hH (sT_txt (sT_txt hT tx kx) tx kx)) (cu_tx hH hu c1 c2)
        clear hP hc hu hr1
        rw [a_enter1 (M := a_m84) rfl (a_cat_rf (a_cat_int (a_cat_int a_cat_nil))) (show 3 ≤ 4 by decide)]
        show a_at _ (a_xm a_m84) 0 [some (a_rf C), some (.int x), some (.int s), none] [] _ _
        simp only [q84_0, q84_1, q84_4, q84_5, q84_8, q84_9, q84_10, q84_13, q84_14, q84_17, q84_26, q84_27, q84_30, q84_40, q84_41, q84_42, q84_45, q84_46, q84_47, q84_50, q84_51, k_0 hS, z_C hS, r_0_1 hS, k_7 hS, z_7, sp_textAt hS gX, sp_isShiftC, as_nil, as_i, as_r, Nat.reduceAdd, Nat.reduceLeDiff, z_eq0, z_eq1, z_or, z_em, Classical.not_not, not_false_eq_true, not_true_eq_false, true_and, and_true, false_and, and_false, and_self, true_implies, false_implies, implies_true, Option.toList_some, Option.toList_none, List.cons_append, List.nil_append, Nat.add_eq_zero_iff, a_nl_i, a_nl_r, a_nl_n, true_or, or_true, eq_self, a_isRA_22, a_isRA_24, a_isRA_32, a_isA_20, ok_4, ok_5, ok_6, ok_7, ok_9, ok_20, ok_21, ok_30, ok_50, ok_180, ok_192, ok_200, hxc, kx, x0, c2, e4']
        try simp only [true_and, and_true, true_implies, false_implies, implies_true, not_true_eq_false, not_false_eq_true]
        first
          | exact hp
          | grind
    · have hr := hr1 (fun q => c2 q.2)
      clear hP hc hu hr1
      rw [a_enter1 (M := a_m84) rfl (a_cat_rf (a_cat_int (a_cat_int a_cat_nil))) (show 3 ≤ 4 by decide)]
      show a_at _ (a_xm a_m84) 0 [some (a_rf C), some (.int x), some (.int s), none] [] _ _
      simp only [q84_0, q84_1, q84_4, q84_5, q84_8, q84_9, q84_10, q84_13, q84_14, q84_17, q84_20, q84_21, q84_22, k_0 hS, z_C hS, r_0_1 hS, k_7 hS, z_7, sp_textAt hS gX, sp_isShiftC, as_nil, as_i, as_r, Nat.reduceAdd, Nat.reduceLeDiff, z_eq0, z_eq1, z_or, z_em, Classical.not_not, not_false_eq_true, not_true_eq_false, true_and, and_true, false_and, and_false, and_self, true_implies, false_implies, implies_true, Option.toList_some, Option.toList_none, List.cons_append, List.nil_append, Nat.add_eq_zero_iff, a_nl_i, a_nl_r, a_nl_n, true_or, or_true, eq_self, a_isRA_22, a_isRA_24, a_isRA_32, a_isA_20, ok_4, ok_5, ok_6, ok_7, ok_9, ok_20, ok_21, ok_30, ok_50, ok_180, ok_192, ok_200, hxc, kx, x0, c2]
      try simp only [true_and, and_true, true_implies, false_implies, implies_true, not_true_eq_false, not_false_eq_true]
      first
        | exact hr _
        | grind
  · have hxc : ¬ (0 ≤ x ∧ x < I (C + 7) 3 ∧ x < 20) := fun q => c1 ⟨q.1, by rw [← e3]; exact q.2.1⟩
    have hr := hr1 (fun q => c1 q.1)
    clear hP hc hu hr1
    rw [a_enter1 (M := a_m84) rfl (a_cat_rf (a_cat_int (a_cat_int a_cat_nil))) (show 3 ≤ 4 by decide)]
    show a_at _ (a_xm a_m84) 0 [some (a_rf C), some (.int x), some (.int s), none] [] _ _
    simp only [q84_0, q84_1, q84_4, q84_5, q84_8, q84_9, q84_10, q84_13, q84_14, q84_17, q84_20, q84_21, q84_22, k_0 hS, z_C hS, r_0_1 hS, k_7 hS, z_7, sp_textAt hS gX, sp_isShiftC, as_nil, as_i, as_r, Nat.reduceAdd, Nat.reduceLeDiff, z_eq0, z_eq1, z_or, z_em, Classical.not_not, not_false_eq_true, not_true_eq_false, true_and, and_true, false_and, and_false, and_self, true_implies, false_implies, implies_true, Option.toList_some, Option.toList_none, List.cons_append, List.nil_append, Nat.add_eq_zero_iff, a_nl_i, a_nl_r, a_nl_n, true_or, or_true, eq_self, a_isRA_22, a_isRA_24, a_isRA_32, a_isA_20, ok_4, ok_5, ok_6, ok_7, ok_9, ok_20, ok_21, ok_30, ok_50, ok_180, ok_192, ok_200, hxc]
    try simp only [true_and, and_true, true_implies, false_implies, implies_true, not_true_eq_false, not_false_eq_true]
    first
      | exact hr _
      | grind
end YU0
section YU1
variable {d n t M : Nat} {K L : Nat → Nat} {I I0 J J0 J1 J2 : Nat → Nat → Int32} {R : Nat → Nat → Nat} {P : Option Value → AH → Prop} {f : Nat → Int32} {e : Int32}
variable {Y Z W : Nat → Nat → Int32}
theorem xp_strike (hS : m_S M K L R) {I1 : Nat → Nat → Int32} (hm : okY Y) {c : Nat} (hc : c + 130 ≤ 84000) (hF : mF M c I1 I) (hg : gs M I0 I Y) {x s : Int32} (hP : ∀ J, J M 35 = I M 35 → gs M I0 J (skY Y x s).2 → P (some (.int (skY Y x s).1)) (n, t, K, L, J, R)) : a_does (d + 13) 207 [a_rf M, .int x, .int s] (n, t, K, L, I, R) P := by
  have hy := hm.1
  have h17 := hy.2.2.2.2.1
  have h10 := hy.2.1
  have h6 := hy.2.2.2.2.2.1
  have hl := hy.2.2.1
  have hrf : ∀ k : Nat, mF M (c + 120) I1 (a_ui I (M + 23) k (I (M + 23) k + 1)) ∧ gs M I0 (a_ui I (M + 23) k (I (M + 23) k + 1)) Y := fun k => ⟨mF_le (sF_refused hF) (by omega), gs_ui hg (sR_refused hg.1) (by omega) ⟨by unfold ps1; omega, by omega⟩⟩
  have e17 : I M 17 = Y 0 17 := hg.2.2.1 0 17 (by unfold ps1; omega)
  have e6 : I M 6 = Y 0 6 := hg.2.2.1 0 6 (by unfold ps1; omega)
  have e0 : I M 0 = Y 0 0 := hg.2.2.1 0 0 (by unfold ps1; omega)
  have m17 : ∀ x : Int32, (x ≤ Y 0 17 - 1) = (x < Y 0 17) := fun x => le_m1 h17
  have m6 : ∀ x : Int32, (x ≤ Y 0 6 - 1) = (x < Y 0 6) := fun x => le_m1 ⟨h6.1, Int32.le_trans h6.2 (by decide)⟩
  have m199 : ∀ x : Int32, (x ≤ 199) = (x < 200) := fun x => propext ⟨fun q => Int32.lt_of_le_of_lt q (by decide), fun q => by clear hP hrf hm hg hF; grind⟩
  have e41 : I M 41 = Y 0 41 := hg.2.2.1 0 41 (by unfold ps1; omega)
  have e31 : I (M + 31) x.toNatClampNeg = Y 31 x.toNatClampNeg := hg.2.2.1 31 _ (by unfold ps1; omega)
  have h41 := hy.1
  have m41 : ∀ y : Int32, (y ≤ Y 0 41 - 1) = (y < Y 0 41) := fun y => le_m1 ⟨h41.1, Int32.le_trans h41.2 (by decide)⟩
  unfold skY at hP
  by_cases c1 : (0 ≤ x ∧ x < Y 0 41) ∧ (0 ≤ s ∧ s < 200)
  · rw [if_neg (fun q => q c1)] at hP
    obtain ⟨k1, k2⟩ := c1
    have x20 : 0 ≤ x ∧ x < 20 := ⟨k1.1, Int32.lt_of_lt_of_le k1.2 h41.2⟩
    by_cases c2 : Y 31 x.toNatClampNeg < 1000000
    · rw [if_pos c2] at hP
      have c2' : ¬ 1000000 ≤ Y 31 x.toNatClampNeg := Int32.not_le.mpr c2
      have hr := hP _ (by rw [ui_ap, if_neg (by omega)]) (hrf 3).2
      clear hP hrf hm hy hl hg hF
      rw [a_enter1 (M := a_m207) rfl (a_cat_rf (a_cat_int (a_cat_int a_cat_nil))) (show 3 ≤ 3 by decide)]
      show a_at _ (a_xm a_m207) 0 [some (a_rf M), some (.int x), some (.int s)] [] _ _
      simp only [q207_0, q207_1, q207_2, q207_3, q207_6, q207_7, q207_8, q207_11, q207_14, q207_15, q207_18, q207_21, q207_22, q207_23, q207_26, q207_27, q207_28, q207_31, q207_32, q207_33, q207_36, q207_39, q207_40, q207_42, q207_45, m_0 hS, m_K hS, mR_struckFrom hS, mK_struckFrom hS, mL_struckFrom hS, sp_in, sp_isShift, sp_refuse_1 hS, sp_refuse_2 hS, sp_refuse_3 hS, sp_refuse_4 hS, sp_refuse_5 hS, sp_refuse_6 hS, as_nil, as_i, as_r, Nat.reduceAdd, Nat.reduceLeDiff, z_eq0, z_eq1, z_or, z_em, Classical.not_not, not_false_eq_true, not_true_eq_false, true_and, and_true, false_and, and_false, and_self, true_implies, false_implies, implies_true, Option.toList_some, Option.toList_none, List.cons_append, List.nil_append, Nat.add_eq_zero_iff, a_nl_i, a_nl_r, a_nl_n, true_or, or_true, eq_self, ok_4, ok_5, ok_6, ok_7, ok_9, ok_10, ok_20, ok_21, ok_24, ok_30, ok_48, ok_50, ok_60, ok_80, ok_120, ok_180, ok_192, ok_200, ok_900, ok_1000, ok_84000, e41, m41, m199, k1, k2, x20, e31, c2, c2']
      try simp only [true_and, and_true, true_implies, false_implies, implies_true, not_true_eq_false, not_false_eq_true]
      first
        | exact hr
        | grind
    · rw [if_neg c2] at hP
      have c2' : 1000000 ≤ Y 31 x.toNatClampNeg := Int32.not_lt.mp c2
      have hp := hP (a_ui I (M + 31) x.toNatClampNeg s) (by rw [ui_ap, if_neg (by omega)]) (gs_up2 hg (by omega) (by omega) (sR_struckFrom hg.1))
      clear hP hrf hm hy hl hg hF
      rw [a_enter1 (M := a_m207) rfl (a_cat_rf (a_cat_int (a_cat_int a_cat_nil))) (show 3 ≤ 3 by decide)]
      show a_at _ (a_xm a_m207) 0 [some (a_rf M), some (.int x), some (.int s)] [] _ _
      simp only [q207_0, q207_1, q207_2, q207_3, q207_6, q207_7, q207_8, q207_11, q207_14, q207_15, q207_18, q207_21, q207_22, q207_23, q207_26, q207_27, q207_28, q207_31, q207_32, q207_33, q207_36, q207_39, q207_40, q207_42, q207_45, q207_46, q207_47, q207_50, q207_51, q207_52, q207_53, q207_54, m_0 hS, m_K hS, mR_struckFrom hS, mK_struckFrom hS, mL_struckFrom hS, sp_in, sp_isShift, sp_refuse_1 hS, sp_refuse_2 hS, sp_refuse_3 hS, sp_refuse_4 hS, sp_refuse_5 hS, sp_refuse_6 hS, as_nil, as_i, as_r, Nat.reduceAdd, Nat.reduceLeDiff, z_eq0, z_eq1, z_or, z_em, Classical.not_not, not_false_eq_true, not_true_eq_false, true_and, and_true, false_and, and_false, and_self, true_implies, false_implies, implies_true, Option.toList_some, Option.toList_none, List.cons_append, List.nil_append, Nat.add_eq_zero_iff, a_nl_i, a_nl_r, a_nl_n, true_or, or_true, eq_self, ok_4, ok_5, ok_6, ok_7, ok_9, ok_10, ok_20, ok_21, ok_24, ok_30, ok_48, ok_50, ok_60, ok_80, ok_120, ok_180, ok_192, ok_200, ok_900, ok_1000, ok_84000, e41, m41, m199, k1, k2, x20, e31, c2, c2']
      try simp only [true_and, and_true, true_implies, false_implies, implies_true, not_true_eq_false, not_false_eq_true]
      first
        | exact hp
        | grind
  · rw [if_pos c1] at hP
    have hr := hP _ (by rw [ui_ap, if_neg (by omega)]) (hrf 1).2
    clear hP hrf hm hy hl hg hF
    rw [a_enter1 (M := a_m207) rfl (a_cat_rf (a_cat_int (a_cat_int a_cat_nil))) (show 3 ≤ 3 by decide)]
    show a_at _ (a_xm a_m207) 0 [some (a_rf M), some (.int x), some (.int s)] [] _ _
    simp only [q207_0, q207_1, q207_2, q207_3, q207_6, q207_7, q207_8, q207_11, q207_14, q207_15, q207_18, q207_21, q207_22, q207_23, q207_26, m_0 hS, m_K hS, sp_in, sp_isShift, sp_refuse_1 hS, sp_refuse_2 hS, sp_refuse_3 hS, sp_refuse_4 hS, sp_refuse_5 hS, sp_refuse_6 hS, as_nil, as_i, as_r, Nat.reduceAdd, Nat.reduceLeDiff, z_eq0, z_eq1, z_or, z_em, Classical.not_not, not_false_eq_true, not_true_eq_false, true_and, and_true, false_and, and_false, and_self, true_implies, false_implies, implies_true, Option.toList_some, Option.toList_none, List.cons_append, List.nil_append, Nat.add_eq_zero_iff, a_nl_i, a_nl_r, a_nl_n, true_or, or_true, eq_self, ok_4, ok_5, ok_6, ok_7, ok_9, ok_10, ok_20, ok_21, ok_24, ok_30, ok_48, ok_50, ok_60, ok_80, ok_120, ok_180, ok_192, ok_200, ok_900, ok_1000, ok_84000, e41, m41, m199]
    try simp only [true_and, and_true, true_implies, false_implies, implies_true, not_true_eq_false, not_false_eq_true]
    by_cases q1 : 0 ≤ x ∧ x < Y 0 41
    · have q2 : ¬ (0 ≤ s ∧ s < 200) := fun q => c1 ⟨q1, q⟩
      simp only [q1, q2]
      try simp only [true_and, and_true, true_implies, false_implies, implies_true, not_true_eq_false, not_false_eq_true]
      first
        | exact hr
        | grind
    · simp only [q1]
      try simp only [true_and, and_true, true_implies, false_implies, implies_true, not_true_eq_false, not_false_eq_true]
      first
        | exact hr
        | grind
end YU1
end
section
/-! put -/
section YV0
variable {d n t C c : Nat} {K L : Nat → Nat} {I I0 J J0 J1 J2 : Nat → Nat → Int32} {R : Nat → Nat → Nat} {P : Option Value → AH → Prop}
variable {Y Z W : Nat → Nat → Int32}
def ptY (Y : Nat → Nat → Int32) (v : Int32) : Int32 × (Nat → Nat → Int32) := if Y 0 79 = 21 then (-6, Y) else (Y 0 79 + 1, (upY (upY Y 52 (Y 0 79).toNatClampNeg v) 0 79 (Y 0 79 + 1)))
theorem cu_pt {m : Nat} (hH : cH C c m t K L I R) (hu : cuP C K L I R Y) {v : Int32} (h0 : 0 ≤ Y 0 79 ∧ Y 0 79 < 21) : cuP C K L (a_ui (a_ui I (C + 43) (Y 0 79).toNatClampNeg v) C 10 (Y 0 79 + 1)) R (upY (upY Y 52 (Y 0 79).toNatClampNeg v) 0 79 (Y 0 79 + 1)) := by
  have hT := hH.1
  have hS := hT.s
  have hc := hu.1
  have hy := hc.2.2.2.2
  obtain ⟨-, s2, -, s4⟩ := lp_st h0.1 h0.2
  have z0 : ∀ j, ¬ j = 79 → (upY (upY Y 52 (Y 0 79).toNatClampNeg v) 0 79 (Y 0 79 + 1)) 0 j = Y 0 j := fun j h => by rw [up_no (by omega), up_no (by omega)]
  have zr : ∀ x, ¬ x = 52 → ¬ x = 0 → (upY (upY Y 52 (Y 0 79).toNatClampNeg v) 0 79 (Y 0 79 + 1)) x = Y x := fun x h h2 => funext (fun i => by rw [up_no (by omega), up_no (by omega)])
  have sbz : sbE Y (upY (upY Y 52 (Y 0 79).toNatClampNeg v) 0 79 (Y 0 79 + 1)) := fun x j p => by rw [up_no (by unfold sb at p; omega), up_no (by unfold sb at p; omega)]
  have cin : ∀ k, ¬ k = 0 → ¬ k = 43 → ∀ m, (a_ui (a_ui I (C + 43) (Y 0 79).toNatClampNeg v) C 10 (Y 0 79 + 1)) (C + k) m = I (C + k) m := fun k hk hk2 m => by rw [ui_ap, if_neg (by omega), ui_ap, if_neg (by omega)]
  have hc1 := cp_sc hT hc (k := 43) (j := (Y 0 79).toNatClampNeg) (v := v) (by omega) (by omega)
  have hT1 : cT C K L (a_ui I (C + 43) (Y 0 79).toNatClampNeg v) R := sT_BeamHall_row hT
  have hc2 : cpP C K L (a_ui (a_ui I (C + 43) (Y 0 79).toNatClampNeg v) C 10 (Y 0 79 + 1)) R Y := cp_sc hT1 hc1 (k := 0) (j := 10) (v := Y 0 79 + 1) (by omega) (by omega)
  have hT2 : cT C K L (a_ui (a_ui I (C + 43) (Y 0 79).toNatClampNeg v) C 10 (Y 0 79 + 1)) R := sT_BeamHall_rowSize hT1 ⟨s2, by clear hu hc hc1 hc2 hy sbz cin zr z0; grind⟩
  have hc3 : cpP C K L (a_ui (a_ui I (C + 43) (Y 0 79).toNatClampNeg v) C 10 (Y 0 79 + 1)) R (upY (upY Y 52 (Y 0 79).toNatClampNeg v) 0 79 (Y 0 79 + 1)) := by
    refine cp_mk hT2 hc2 sbz ?_ (fun _ _ => ⟨rfl, rfl⟩) (fun _ _ _ _ _ _ _ => rfl) (fun _ _ _ => rfl) (fun _ _ _ _ _ => rfl) (fun _ _ _ _ => rfl) (fun _ _ _ => rfl) (fun _ _ _ _ => rfl) (fun i i0 i1 => ?_) ?_
    · have := hy.2.2.2.2.2.2.1
      unfold inP at this ⊢
      rw [zr 20 (by omega) (by omega), zr 21 (by omega) (by omega), zr 10 (by omega) (by omega)]
      exact this
    · rw [zr 20 (by omega) (by omega), zr 21 (by omega) (by omega)]
      exact (hc2.2.2.1.2.2.2 i i0 i1).2.2.2.1
    · have := hc2.2.1.2.2.2
      unfold plP at this ⊢
      rw [zr 20 (by omega) (by omega), zr 21 (by omega) (by omega), zr 10 (by omega) (by omega), zr 22 (by omega) (by omega), z0 17 (by omega), z0 6 (by omega)]
      exact this
  obtain ⟨-, hse, ⟨⟨⟨h1, h2⟩, h3, h4, h5, h6⟩, ⟨⟨t1, t2⟩, ⟨t3, t4⟩, t5, t6⟩, ⟨d1, d2⟩, ⟨y1, y2, y3, y4, y5, y6, y7, y8⟩⟩, hno, hst⟩ := hu
  refine ⟨hc3, se_b hse sbz, ⟨⟨⟨by rw [cin _ (by omega) (by omega), z0 10 (by omega)]; exact h1, by rw [cin _ (by omega) (by omega), z0 11 (by omega)]; exact h2⟩, fun k hk => by rw [cin _ (by omega) (by omega), zr 38 (by omega) (by omega), zr 36 (by omega) (by omega)]; exact h3 k hk, fun r g hr' hg => by rw [cin _ (by omega) (by omega), zr 35 (by omega) (by omega)]; exact h4 r g hr' hg, fun r a hr' ha => by rw [cin _ (by omega) (by omega), zr 37 (by omega) (by omega)]; exact h5 r a hr' ha, fun x p hx hp => by rw [cin _ (by omega) (by omega), zr 47 (by omega) (by omega)]; exact h6 x p hx hp⟩, ⟨⟨by rw [cin _ (by omega) (by omega), z0 2 (by omega)]; exact t1, fun j hj => by rw [z0 2 (by omega)] at hj; rw [cin _ (by omega) (by omega), cin _ (by omega) (by omega), cin _ (by omega) (by omega), zr 2 (by omega) (by omega), zr 3 (by omega) (by omega), zr 4 (by omega) (by omega)]; exact t2 j hj⟩, ⟨by rw [cin _ (by omega) (by omega), z0 40 (by omega)]; exact t3, fun j => by rw [cin _ (by omega) (by omega), zr 27 (by omega) (by omega)]; exact t4 j⟩, by rw [ui_ap, if_pos ⟨rfl, rfl⟩, up_at], fun j hj => ?_⟩, ⟨by rw [z0 12 (by omega)]; exact d1, fun hd => ?_⟩, ?_⟩, ?_, ?_⟩
  · rw [up_at, s4] at hj
    rw [ui_ap, if_neg (by omega), ui_ap, up_no (by omega)]
    by_cases e : j = (Y 0 79).toNatClampNeg
    · rw [if_pos ⟨rfl, e⟩, e, up_at]
    · rw [if_neg (fun q => e q.2), up_no (fun q => e q.2)]
      exact t6 j (by omega)
  · obtain ⟨e1, e2, e3, e4⟩ := d2 hd
    have g1 := (hT.g_ask _ e1).1
    have ej : ∀ j, (a_ui (a_ui I (C + 43) (Y 0 79).toNatClampNeg v) C 10 (Y 0 79 + 1)) (R C 11) j = I (R C 11) j := fun j => by rw [ui_ap, if_neg (by omega), ui_ap, if_neg (by omega)]
    simp only [ej]
    rw [z0 13 (by omega), z0 14 (by omega), z0 15 (by omega), z0 16 (by omega), z0 17 (by omega)]
    exact ⟨e1, e2, e3, e4⟩
  · refine ⟨fun k => ?_, fun r a => ?_, fun a => ?_, fun x p hx hp hle => ?_, fun q hq => ?_, fun j hj => ?_, fun k => ?_, fun j hj => ?_⟩
    · rw [zr 38 (by omega) (by omega), zr 37 (by omega) (by omega)]
      exact y1 k
    · rw [z0 17 (by omega), zr 37 (by omega) (by omega)]
      exact y2 r a
    · rw [zr 37 (by omega) (by omega)]
      exact y3 a
    · rw [z0 17 (by omega)] at hle
      rw [zr 47 (by omega) (by omega)]
      exact y4 x p hx hp hle
    · rw [z0 41 (by omega)] at hq
      rw [wt_b sbz, zr 29 (by omega) (by omega)]
      exact y5 q hq
    · rw [z0 2 (by omega)] at hj
      rw [zr 2 (by omega) (by omega), zr 3 (by omega) (by omega)]
      exact y6 j hj
    · rw [zr 47 (by omega) (by omega)]
      exact y7 k
    · rw [z0 2 (by omega)] at hj
      rw [zr 4 (by omega) (by omega), z0 0 (by omega)]
      exact y8 j hj
  · unfold noP
    rw [zr 20 (by omega) (by omega), zr 21 (by omega) (by omega)]
    exact hno
  · have q := stP_f hc hst (J := (a_ui (a_ui I (C + 43) (Y 0 79).toNatClampNeg v) C 10 (Y 0 79 + 1))) (R' := R) (fun x hx => by have := (hT.g_txt x hx).1; rw [ui_ap, if_neg (by omega), ui_ap, if_neg (by omega)]) (fun _ => rfl)
    unfold stP at q ⊢
    rw [z0 41 (by omega), zr 31 (by omega) (by omega)]
    exact q
theorem ge_put (hH : cH C c (n + 1) t K L I R) (hu : cuP C K L I R Y) {v : Int32} (hP : ∀ n' t' K' L' J R', cH C c (n' + 1) t' K' L' J R' → cuP C K' L' J R' (ptY Y v).2 → P (some (.int (ptY Y v).1)) (n' + 1, t', K', L', J, R')) : a_does (d + 70) 163 [a_rf C, .int v] (n + 1, t, K, L, I, R) P := by
  have hT := hH.1
  have hS := hT.s
  have gA := hT.g_asksR
  have gB := hT.g_benchesR
  have gX := hT.g_textsR
  have hc := hu.1
  have h17 := hc.2.2.2.2.2.2.2.2.1
  have e4 : I (C + 14) 4 = Y 0 17 := hc.2.2.1.1
  have e10 : I C 10 = Y 0 79 := hu.2.2.1.2.1.2.2.1
  have g := hT.g_row
  rw [e10] at g
  unfold ptY at hP
  by_cases c1 : Y 0 79 = 21
  · rw [if_pos c1] at hP
    have hr : a_does (d + 69) 10 [a_rf C, .int (-6)] (n + 1, t, K, L, I, R) (fun r h' => a_at (d + 69) (a_xm a_m163) 15 [some (a_rf C), some (.int v)] (r.toList ++ []) h' P) := by
      refine ge_refuse (d := d + 68) hH hu (fun J z1 z2 => ?_)
      have hp := hP n t K L J R z1 z2
      clear hP hc hu
      simp only [q163_15, as_nil, as_i, as_r, Nat.reduceAdd, Nat.reduceLeDiff, z_eq0, z_eq1, z_or, z_em, Classical.not_not, not_false_eq_true, not_true_eq_false, true_and, and_true, false_and, and_false, and_self, true_implies, false_implies, implies_true, Option.toList_some, Option.toList_none, List.cons_append, List.nil_append, Nat.add_eq_zero_iff, a_nl_i, a_nl_r, a_nl_n, true_or, or_true, eq_self, a_isRA_22, a_isRA_24, a_isRA_32, a_isA_20, ok_4, ok_5, ok_6, ok_7, ok_9, ok_20, ok_21, ok_30, ok_50, ok_180, ok_192, ok_200]
      exact hp
    have n1 : ¬ (21 : Int32) < 21 := by decide
    have n2 : (21 : Int32) ≤ 21 := by decide
    clear hP hc hu
    rw [a_enter1 (M := a_m163) rfl (a_cat_rf (a_cat_int a_cat_nil)) (show 2 ≤ 2 by decide)]
    show a_at _ (a_xm a_m163) 0 [some (a_rf C), some (.int v)] [] _ _
    simp only [q163_0, q163_1, q163_4, q163_6, q163_9, q163_10, q163_12, k_0 hS, z_C hS, as_nil, as_i, as_r, Nat.reduceAdd, Nat.reduceLeDiff, z_eq0, z_eq1, z_or, z_em, Classical.not_not, not_false_eq_true, not_true_eq_false, true_and, and_true, false_and, and_false, and_self, true_implies, false_implies, implies_true, Option.toList_some, Option.toList_none, List.cons_append, List.nil_append, Nat.add_eq_zero_iff, a_nl_i, a_nl_r, a_nl_n, true_or, or_true, eq_self, a_isRA_22, a_isRA_24, a_isRA_32, a_isA_20, ok_4, ok_5, ok_6, ok_7, ok_9, ok_20, ok_21, ok_30, ok_50, ok_180, ok_192, ok_200, e10, c1, n1, n2]
    try simp only [true_and, and_true, true_implies, false_implies, implies_true, not_true_eq_false, not_false_eq_true]
    first
      | exact hr
      | grind
  · rw [if_neg c1] at hP
    have h0 : 0 ≤ Y 0 79 ∧ Y 0 79 < 21 := ⟨g.1, by clear hP hc hu; grind⟩
    have n2 : ¬ 21 ≤ Y 0 79 := Int32.not_le.mpr h0.2
    obtain ⟨-, s2, -, s4⟩ := lp_st h0.1 h0.2
    have hp := hP n t K L (a_ui (a_ui I (C + 43) (Y 0 79).toNatClampNeg v) C 10 (Y 0 79 + 1)) R (cH_J hH (sT_BeamHall_rowSize (sT_BeamHall_row hT) ⟨s2, by clear hP hc hu; grind⟩)) (cu_pt hH hu h0)
    clear hP hc hu
    rw [a_enter1 (M := a_m163) rfl (a_cat_rf (a_cat_int a_cat_nil)) (show 2 ≤ 2 by decide)]
    show a_at _ (a_xm a_m163) 0 [some (a_rf C), some (.int v)] [] _ _
    simp only [q163_0, q163_1, q163_4, q163_6, q163_16, q163_17, q163_20, q163_21, q163_24, q163_25, q163_26, q163_27, q163_28, q163_31, q163_32, q163_33, q163_36, q163_37, q163_40, k_0 hS, z_C hS, r_0_9 hS, k_43 hS, l_43 hS, z_43, as_nil, as_i, as_r, Nat.reduceAdd, Nat.reduceLeDiff, z_eq0, z_eq1, z_or, z_em, Classical.not_not, not_false_eq_true, not_true_eq_false, true_and, and_true, false_and, and_false, and_self, true_implies, false_implies, implies_true, Option.toList_some, Option.toList_none, List.cons_append, List.nil_append, Nat.add_eq_zero_iff, a_nl_i, a_nl_r, a_nl_n, true_or, or_true, eq_self, a_isRA_22, a_isRA_24, a_isRA_32, a_isA_20, ok_4, ok_5, ok_6, ok_7, ok_9, ok_20, ok_21, ok_30, ok_50, ok_180, ok_192, ok_200, ui_ap, cc_ne, cc_n0, cc_0n, Nat.reduceEqDiff, reduceIte, if_true, if_false, e10, n2, h0]
    try simp only [true_and, and_true, true_implies, false_implies, implies_true, not_true_eq_false, not_false_eq_true]
    first
      | exact hp
      | grind
end YV0
section YV1
variable {d n t M : Nat} {K L : Nat → Nat} {I I0 J J0 J1 J2 : Nat → Nat → Int32} {R : Nat → Nat → Nat} {P : Option Value → AH → Prop} {f : Nat → Int32} {e : Int32}
variable {Y Z W : Nat → Nat → Int32}
theorem xp_put (hS : m_S M K L R) {I1 : Nat → Nat → Int32} (hm : okY Y) {c : Nat} (hc : c + 130 ≤ 84000) (hF : mF M c I1 I) (hg : gs M I0 I Y) {v : Int32} (hP : ∀ J, J M 35 = I M 35 → gs M I0 J (ptY Y v).2 → P (some (.int (ptY Y v).1)) (n, t, K, L, J, R)) : a_does (d + 13) 259 [a_rf M, .int v] (n, t, K, L, I, R) P := by
  have hy := hm.1
  have h17 := hy.2.2.2.2.1
  have h10 := hy.2.1
  have h6 := hy.2.2.2.2.2.1
  have hl := hy.2.2.1
  have hrf : ∀ k : Nat, mF M (c + 120) I1 (a_ui I (M + 23) k (I (M + 23) k + 1)) ∧ gs M I0 (a_ui I (M + 23) k (I (M + 23) k + 1)) Y := fun k => ⟨mF_le (sF_refused hF) (by omega), gs_ui hg (sR_refused hg.1) (by omega) ⟨by unfold ps1; omega, by omega⟩⟩
  have e17 : I M 17 = Y 0 17 := hg.2.2.1 0 17 (by unfold ps1; omega)
  have e6 : I M 6 = Y 0 6 := hg.2.2.1 0 6 (by unfold ps1; omega)
  have e0 : I M 0 = Y 0 0 := hg.2.2.1 0 0 (by unfold ps1; omega)
  have m17 : ∀ x : Int32, (x ≤ Y 0 17 - 1) = (x < Y 0 17) := fun x => le_m1 h17
  have m6 : ∀ x : Int32, (x ≤ Y 0 6 - 1) = (x < Y 0 6) := fun x => le_m1 ⟨h6.1, Int32.le_trans h6.2 (by decide)⟩
  have m199 : ∀ x : Int32, (x ≤ 199) = (x < 200) := fun x => propext ⟨fun q => Int32.lt_of_le_of_lt q (by decide), fun q => by clear hP hrf hm hg hF; grind⟩
  have e79 : I M 79 = Y 0 79 := hg.2.2.1 0 79 (by unfold ps1; omega)
  have g := rg_rowMany hg.1
  rw [e79] at g
  unfold ptY at hP
  by_cases c1 : Y 0 79 = 21
  · rw [if_pos c1] at hP
    have hr := hP _ (by rw [ui_ap, if_neg (by omega)]) (hrf 6).2
    clear hP hrf hm hy hl hg hF
    rw [a_enter1 (M := a_m259) rfl (a_cat_rf (a_cat_int a_cat_nil)) (show 2 ≤ 2 by decide)]
    show a_at _ (a_xm a_m259) 0 [some (a_rf M), some (.int v)] [] _ _
    simp only [q259_0, q259_1, q259_4, q259_6, q259_9, q259_10, q259_12, q259_15, m_0 hS, m_K hS, sp_refuse_1 hS, sp_refuse_2 hS, sp_refuse_3 hS, sp_refuse_4 hS, sp_refuse_5 hS, sp_refuse_6 hS, as_nil, as_i, as_r, Nat.reduceAdd, Nat.reduceLeDiff, z_eq0, z_eq1, z_or, z_em, Classical.not_not, not_false_eq_true, not_true_eq_false, true_and, and_true, false_and, and_false, and_self, true_implies, false_implies, implies_true, Option.toList_some, Option.toList_none, List.cons_append, List.nil_append, Nat.add_eq_zero_iff, a_nl_i, a_nl_r, a_nl_n, true_or, or_true, eq_self, ok_4, ok_5, ok_6, ok_7, ok_9, ok_10, ok_20, ok_21, ok_24, ok_30, ok_48, ok_50, ok_60, ok_80, ok_120, ok_180, ok_192, ok_200, ok_900, ok_1000, ok_84000, e79, c1]
    try simp only [true_and, and_true, true_implies, false_implies, implies_true, not_true_eq_false, not_false_eq_true]
    first
      | exact hr
      | grind
  · rw [if_neg c1] at hP
    have h0 : 0 ≤ Y 0 79 ∧ Y 0 79 < 21 := ⟨g.1, by clear hP hrf hm hy hl hg hF; grind⟩
    obtain ⟨-, s2, -, s4⟩ := lp_st h0.1 h0.2
    have g1 := gs_up2 hg (k := 52) (j := (Y 0 79).toNatClampNeg) (v := v) (by omega) (by omega) (sR_row hg.1)
    have g2 := gs_up2 g1 (k := 0) (j := 79) (v := Y 0 79 + 1) (by omega) (by omega) (sR_rowMany g1.1 ⟨s2, by clear hP hrf hm hy hl hg hF g1; grind⟩)
    have hp := hP (a_ui (a_ui I (M + 52) (Y 0 79).toNatClampNeg v) M 79 (Y 0 79 + 1)) (by rw [ui_ap, if_neg (by omega), ui_ap, if_neg (by omega)]) g2
    clear hP hrf hm hy hl hg hF g1 g2
    rw [a_enter1 (M := a_m259) rfl (a_cat_rf (a_cat_int a_cat_nil)) (show 2 ≤ 2 by decide)]
    show a_at _ (a_xm a_m259) 0 [some (a_rf M), some (.int v)] [] _ _
    simp only [q259_0, q259_1, q259_4, q259_6, q259_16, q259_17, q259_20, q259_21, q259_24, q259_25, q259_26, q259_27, q259_28, q259_31, q259_32, q259_33, q259_36, q259_37, q259_40, m_0 hS, m_K hS, mR_row hS, mK_row hS, mL_row hS, as_nil, as_i, as_r, Nat.reduceAdd, Nat.reduceLeDiff, z_eq0, z_eq1, z_or, z_em, Classical.not_not, not_false_eq_true, not_true_eq_false, true_and, and_true, false_and, and_false, and_self, true_implies, false_implies, implies_true, Option.toList_some, Option.toList_none, List.cons_append, List.nil_append, Nat.add_eq_zero_iff, a_nl_i, a_nl_r, a_nl_n, true_or, or_true, eq_self, ok_4, ok_5, ok_6, ok_7, ok_9, ok_10, ok_20, ok_21, ok_24, ok_30, ok_48, ok_50, ok_60, ok_80, ok_120, ok_180, ok_192, ok_200, ok_900, ok_1000, ok_84000, ui_ap, cc_ne, cc_n0, cc_0n, Nat.reduceEqDiff, reduceIte, if_true, if_false, e79, c1, h0]
    try simp only [true_and, and_true, true_implies, false_implies, implies_true, not_true_eq_false, not_false_eq_true]
    first
      | exact hp
      | grind
end YV1
end
section
/-! words that no place hangs in change -/
section ZA0
variable {d n t C c : Nat} {K L : Nat → Nat} {I I0 J J0 J1 J2 : Nat → Nat → Int32} {R : Nat → Nat → Nat} {P : Option Value → AH → Prop}
variable {Y Z W : Nat → Nat → Int32} {R' R1 : Nat → Nat → Nat} {K' L' : Nat → Nat}
/-- rows of asks, benches, texts and places are the same -/
def qE (Y Z : Nat → Nat → Int32) : Prop := (∀ k, (5 ≤ k ∧ k ≤ 22) ∨ (28 ≤ k ∧ k ≤ 31) → Z k = Y k) ∧ (∀ j, j = 6 ∨ j = 17 ∨ j = 41 ∨ (12 ≤ j ∧ j ≤ 16) → Z 0 j = Y 0 j)
/-- objects are the same, but for marks -/
def fE (C : Nat) (K : Nat → Nat) (I J : Nat → Nat → Int32) : Prop := (∀ x j, K x = 1 → ¬ j = 12 → J x j = I x j) ∧ (∀ x j, (K x = 3 ∨ K x = 11 ∨ (C + 96 < x ∧ K x = 20)) → J x j = I x j) ∧ J (C + 14) 4 = I (C + 14) 4 ∧ J (C + 14) 5 = I (C + 14) 5 ∧ J (C + 7) 3 = I (C + 7) 3
def kM (k j : Nat) : Prop := (k = 0 ∧ (j = 10 ∨ j = 11)) ∨ (35 ≤ k ∧ k ≤ 38) ∨ k = 47
def kT (k j : Nat) : Prop := (k = 0 ∧ (j = 2 ∨ j = 40 ∨ j = 79)) ∨ (2 ≤ k ∧ k ≤ 4) ∨ k = 27 ∨ k = 52
def kY (k j : Nat) : Prop := (k = 0 ∧ (j = 0 ∨ j = 2 ∨ j = 17 ∨ j = 41)) ∨ (2 ≤ k ∧ k ≤ 4) ∨ (28 ≤ k ∧ k ≤ 29) ∨ (37 ≤ k ∧ k ≤ 38) ∨ k = 47
def kL (k j : Nat) : Prop := (k = 0 ∧ (j = 0 ∨ j = 2)) ∨ (2 ≤ k ∧ k ≤ 4)
def kK (k j : Nat) : Prop := (k = 0 ∧ (j = 11 ∨ j = 17)) ∨ k = 36 ∨ k = 38
theorem siM_e (hs : siM C I Y) (hJ : ∀ k j, ((18 ≤ k ∧ k ≤ 20) ∨ k = 36 ∨ (k = 22 ∧ j = 8) ∨ (k = 17 ∧ j = 5)) → J (C + k) j = I (C + k) j) (hz : ∀ k j, kM k j → Z k j = Y k j) : siM C J Z := by
  obtain ⟨⟨h1, h2⟩, h3, h4, h5, h6⟩ := hs
  refine ⟨⟨by rw [hJ _ _ (by omega), hz 0 10 (by unfold kM; omega)]; exact h1, by rw [hJ _ _ (by omega), hz 0 11 (by unfold kM; omega)]; exact h2⟩, fun k hk => ?_, fun r g hr hg => ?_, fun r a hr ha => ?_, fun a o ha ho => ?_⟩
  · rw [hJ _ _ (by omega), hz 38 k (by unfold kM; omega), hz 36 k (by unfold kM; omega)]
    exact h3 k hk
  · rw [hJ _ _ (by omega), hz 35 _ (by unfold kM; omega)]
    exact h4 r g hr hg
  · rw [hJ _ _ (by omega), hz 37 _ (by unfold kM; omega)]
    exact h5 r a hr ha
  · rw [hJ _ _ (by omega), hz 47 _ (by unfold kM; omega)]
    exact h6 a o ha ho
theorem siT_e (hs : siT C I Y) (hJ : ∀ k j, ((4 ≤ k ∧ k ≤ 6) ∨ k = 12 ∨ k = 43 ∨ (k = 1 ∧ j = 5) ∨ (k = 11 ∧ j = 2) ∨ (k = 0 ∧ j = 10)) → J (C + k) j = I (C + k) j) (hz : ∀ k j, kT k j → Z k j = Y k j) : siT C J Z := by
  obtain ⟨⟨t1, t2⟩, ⟨t3, t4⟩, t5, t6⟩ := hs
  have c0 : J C 10 = I C 10 := hJ 0 10 (by omega)
  refine ⟨⟨by rw [hJ _ _ (by omega), hz 0 2 (by unfold kT; omega)]; exact t1, fun j hj => ?_⟩, ⟨by rw [hJ _ _ (by omega), hz 0 40 (by unfold kT; omega)]; exact t3, fun j => by rw [hJ _ _ (by omega), hz 27 j (by unfold kT; omega)]; exact t4 j⟩, by rw [c0, hz 0 79 (by unfold kT; omega)]; exact t5, fun j hj => ?_⟩
  · rw [hz 0 2 (by unfold kT; omega)] at hj
    rw [hJ _ _ (by omega), hJ _ _ (by omega), hJ _ _ (by omega), hz 2 j (by unfold kT; omega), hz 3 j (by unfold kT; omega), hz 4 j (by unfold kT; omega)]
    exact t2 j hj
  · rw [hz 0 79 (by unfold kT; omega)] at hj
    rw [hJ _ _ (by omega), hz 52 j (by unfold kT; omega)]
    exact t6 j hj
theorem siY_e (hs : siY Y) (hz : ∀ k j, kY k j → Z k j = Y k j) : siY Z := by
  have zr : ∀ k, ((2 ≤ k ∧ k ≤ 4) ∨ (28 ≤ k ∧ k ≤ 29) ∨ (37 ≤ k ∧ k ≤ 38) ∨ k = 47) → Z k = Y k := fun k hk => funext (fun j => hz k j (by unfold kY; omega))
  have wt : ∀ x, wtY Z x = wtY Y x := fun x => by
    unfold wtY
    rw [zr 28 (by omega)]
  obtain ⟨h1, h2, h3, h4, h5, h6, h7, h8⟩ := hs
  unfold siY
  rw [zr 38 (by omega), zr 37 (by omega), zr 47 (by omega), zr 2 (by omega), zr 3 (by omega), zr 4 (by omega), hz 0 0 (by unfold kY; omega), hz 0 2 (by unfold kY; omega), hz 0 17 (by unfold kY; omega)]
  refine ⟨h1, h2, h3, h4, fun x hx => ?_, h6, h7, h8⟩
  rw [hz 0 41 (by unfold kY; omega)] at hx
  rw [wt, zr 29 (by omega)]
  exact h5 x hx
theorem lk_e (hz : ∀ k j, kL k j → Z k j = Y k j) : lkY Z = lkY Y := by
  have zr : ∀ k, 2 ≤ k ∧ k ≤ 4 → Z k = Y k := fun k hk => funext (fun j => hz k j (by unfold kL; omega))
  funext x
  unfold lkY
  rw [zr 2 (by omega), zr 3 (by omega), zr 4 (by omega), hz 0 0 (by unfold kL; omega), hz 0 2 (by unfold kL; omega)]
theorem lsP_e (hs : lsP C I Y) (hJ : ∀ j, J (C + 3) j = I (C + 3) j) (hz : ∀ k j, kL k j → Z k j = Y k j) : lsP C J Z := fun s s0 s1 => by
  unfold liY
  rw [hJ, lk_e hz]
  exact hs s s0 s1
theorem cmk_e (hz : ∀ k j, kK k j → Z k j = Y k j) : cmY Z = cmY Y ∧ hsY Z = hsY Y := by
  have e : cmY Z = cmY Y := cmY_eq (fun k => by rw [hz 38 _ (by unfold kK; omega)]) (fun k => by rw [hz 36 _ (by unfold kK; omega)])
  refine ⟨e, ?_⟩
  funext r
  unfold hsY
  rw [hz 0 11 (by unfold kK; omega), hz 0 17 (by unfold kK; omega), e]
theorem mr_e (ha : akP C K I R Y) (hs : mrP C I R Y) (hJ : ∀ x, K x = 1 → J x 12 = I x 12) (hz : ∀ k j, kK k j → Z k j = Y k j) : mrP C J R Z := fun i i0 i1 => by
  rw [hz 0 17 (by unfold kK; omega)] at i1
  rw [hJ _ (ha i i0 i1).1, (cmk_e hz).1, (cmk_e hz).2]
  exact hs i i0 i1
theorem mk_e (hs : mkP Y) (hz : ∀ k j, kK k j → Z k j = Y k j) : mkP Z := fun k q => by
  rw [hz 38 _ (by unfold kK; omega)] at q
  rw [hz 36 _ (by unfold kK; omega)]
  exact hs k q
theorem cu_gen (hT : cT C K L I R) (hu : cuP C K L I R Y) (hq : qE Y Z) (hf : fE C K I J) (a1 : J (C + 1) 6 = Z 0 0) (a2 : ∀ j, J (C + 2) j = Z 1 j) (a3 : lsP C J Z) (b2 : J (C + 14) 6 = Z 0 9 ∧ (0 ≤ Z 0 9 ∧ Z 0 9 ≤ 3)) (mr : mrP C J R Z) (mk : mkP Z) (sM : siM C J Z) (sT : siT C J Z) (sY : siY Z) (d12 : ¬ R C 11 = 0 → J (R C 11) 12 = I (R C 11) 12) : cuP C K L J R Z := by
  obtain ⟨⟨⟨p1, p2, p3⟩, ⟨q1, q2, q3, q4⟩, ⟨r1, r2, r3, r4⟩, ⟨x1, x2⟩, hy⟩, hse, ⟨-, -, ⟨d1, d2⟩, -⟩, hno, hst⟩ := hu
  obtain ⟨hr, h0⟩ := hq
  obtain ⟨f1, f2, f3, f4, f5⟩ := hf
  have z6 := h0 6 (by omega)
  have z17 := h0 17 (by omega)
  have z41 := h0 41 (by omega)
  have wt : ∀ x, wtY Z x = wtY Y x := fun x => by
    unfold wtY
    rw [hr 28 (by omega)]
  have wv : ∀ x, wvY Z x = wvY Y x := fun x => by
    funext fc
    unfold wvY
    rw [wt, hr 29 (by omega)]
  refine ⟨⟨⟨a1, a2, a3⟩, ⟨by rw [f4, z6]; exact q1, b2.1, fun b b0 b1 => ?_, ?_⟩, ⟨by rw [f3, z17]; exact r1, fun o o0 o1 => ?_, mr, fun o o0 o1 => ?_⟩, ⟨by rw [f5, z41]; exact x1, fun k k0 k1 => ?_⟩, ?_⟩, ?_, ⟨sM, sT, ⟨by rw [h0 12 (by omega)]; exact d1, fun hd => ?_⟩, sY⟩, ?_, ?_⟩
  · rw [z6] at b1
    obtain ⟨k1, k2, k3, k4⟩ := q3 b b0 b1
    rw [f2 _ _ (Or.inl k1), f2 _ _ (Or.inl k1), hr 5 (by omega), hr 6 (by omega)]
    exact ⟨k1, k2, k3, k4⟩
  · have hq : plP (whC C J R) (snC C J R) Y := plP_eq q4 (fun b b0 b1 => by
      have g := (hT.g_bnc _ (q3 b b0 b1).1).2.1
      unfold whC
      funext m
      exact f2 _ _ (Or.inr (Or.inr ⟨g.1, g.2.1⟩))) (fun b b0 b1 => by
      have g := (hT.g_bnc _ (q3 b b0 b1).1).2.2.1
      unfold snC
      funext m
      exact f2 _ _ (Or.inr (Or.inr ⟨g.1, g.2.1⟩)))
    unfold plP at hq ⊢
    rw [z17, z6, hr 20 (by omega), hr 21 (by omega), hr 10 (by omega), hr 22 (by omega)]
    exact hq
  · rw [z17] at o1
    obtain ⟨k1, k2, k3⟩ := r2 o o0 o1
    exact ⟨k1, k2, by rw [f1 _ _ k1 (by decide)]; exact k3⟩
  · rw [z17] at o1
    have ko := (r2 o o0 o1).1
    have hl := r4 o o0 o1
    have e : ∀ j, ¬ j = 12 → J (R (C + 15) o.toNatClampNeg) j = I (R (C + 15) o.toNatClampNeg) j := fun j hj => f1 _ _ ko hj
    have er : ∀ k, 7 ≤ k ∧ k ≤ 21 → Z k = Y k := fun k hk => hr k (by omega)
    unfold alP at hl ⊢
    rw [e 0 (by decide), e 1 (by decide), e 2 (by decide), e 3 (by decide), e 5 (by decide), e 6 (by decide), e 7 (by decide), e 8 (by decide), e 9 (by decide), e 10 (by decide), e 11 (by decide), e 13 (by decide), e 14 (by decide), e 15 (by decide), e 16 (by decide), er 7 (by omega), er 8 (by omega), er 9 (by omega), er 10 (by omega), er 11 (by omega), er 12 (by omega), er 13 (by omega), er 14 (by omega), er 15 (by omega), er 16 (by omega), er 17 (by omega), er 18 (by omega), er 19 (by omega), er 20 (by omega), er 21 (by omega)]
    exact hl
  · rw [z41] at k1
    obtain ⟨k11, k12, k13, k14, k15, k16⟩ := x2 k k0 k1
    have g := hT.g_txt _ k11
    have hcd : J (R (R (C + 8) k.toNatClampNeg) 2) = I (R (R (C + 8) k.toNatClampNeg) 2) := funext (fun m => f2 _ _ (Or.inr (Or.inr ⟨g.2.1, g.2.2.1⟩)))
    rw [f2 _ _ (Or.inr (Or.inl k11)), f2 _ _ (Or.inr (Or.inl k11)), f2 _ _ (Or.inr (Or.inl k11)), hcd, wt, wv, hr 30 (by omega), hr 31 (by omega)]
    exact ⟨k11, k12, k13, k14, k15, k16⟩
  · obtain ⟨h1, h2, h3, h4, h5, h6, h7, h8, h9, h10⟩ := hy
    refine ⟨by rw [z41]; exact h1, by rw [hr 10 (by omega)]; exact h2, by rw [z17, hr 10 (by omega)]; exact h3, b2.2, by rw [z17]; exact h5, by rw [z6]; exact h6, ?_, mk, ?_, by rw [z17, hr 7 (by omega), hr 16 (by omega)]; exact h10⟩
    · unfold inP at h7 ⊢
      rw [hr 20 (by omega), hr 21 (by omega), hr 10 (by omega)]
      exact h7
    · unfold hbP at h9 ⊢
      rw [hr 6 (by omega)]
      exact h9
  · unfold seP at hse ⊢
    rw [z6, z41]
    exact hse
  · obtain ⟨e1, e2, e3, e4⟩ := d2 hd
    have e : ∀ j, ¬ j = 12 → J (R C 11) j = I (R C 11) j := fun j hj => f1 _ _ e1 hj
    rw [e 0 (by decide), e 1 (by decide), e 2 (by decide), e 3 (by decide), e 13 (by decide), e 14 (by decide), e 15 (by decide), e 16 (by decide), d12 hd, h0 13 (by omega), h0 14 (by omega), h0 15 (by omega), h0 16 (by omega), z17]
    exact ⟨e1, e2, e3, e4⟩
  · unfold noP at hno ⊢
    rw [hr 20 (by omega), hr 21 (by omega)]
    exact hno
  · unfold stP at hst ⊢
    rw [z41, hr 31 (by omega)]
    exact ⟨fun i i0 i1 => by rw [f2 _ _ (Or.inr (Or.inl (x2 i i0 i1).1))]; exact hst.1 i i0 i1, hst.2⟩
/-- a refusal leaves all but its count -/
def rfQ (C c n t : Nat) (K L : Nat → Nat) (I : Nat → Nat → Int32) (R : Nat → Nat → Nat) (J : Nat → Nat → Int32) : Prop := cH C c n t K L J R ∧ ∀ x j, ¬ x = C + 42 → J x j = I x j
theorem fE_of {m : Nat} (hH : cH C c m t K L I R) (hX : ∀ x j, C + 43 < x → J x j = I x j) (h14 : J (C + 14) 4 = I (C + 14) 4 ∧ J (C + 14) 5 = I (C + 14) 5) (h7 : J (C + 7) 3 = I (C + 7) 3) : fE C K I J := by
  have hT := hH.1
  refine ⟨fun x j kx _ => hX _ _ (by have := (hT.g_ask x kx).1; omega), fun x j kx => hX _ _ ?_, h14.1, h14.2, h7⟩
  rcases kx with kx | kx | kx
  · have := (hT.g_bnc x kx).1
    omega
  · have := (hT.g_txt x kx).1
    omega
  · omega
/-- the words stay, and all cells but those that nothing hangs in -/
theorem cu_re {m : Nat} (hH : cH C c m t K L I R) (hu : cuP C K L I R Y) (h : rfQ C c m t K L I R J) : cuP C K L J R Y := by
  have hT := hH.1
  have hJ : ∀ k j, ¬ k = 42 → J (C + k) j = I (C + k) j := fun k j hk => h.2 _ _ (by omega)
  have hX : ∀ x j, C + 43 < x → J x j = I x j := fun x j hx => h.2 _ _ (by omega)
  have hz : ∀ k j : Nat, ¬ (k = 0 ∧ j = 1000) → Y k j = Y k j := fun _ _ _ => rfl
  exact cu_gen hT hu ⟨fun k hk => funext (fun j => hz k j (by omega)), fun j hj => hz 0 j (by omega)⟩ (fE_of hH hX ⟨hJ 14 4 (by omega), hJ 14 5 (by omega)⟩ (hJ 7 3 (by omega))) (by rw [hJ 1 6 (by omega), hz 0 0 (by omega)]; exact hu.1.1.1) (fun j => by rw [hJ 2 j (by omega), hz 1 j (by omega)]; exact hu.1.1.2.1 j) (lsP_e hu.1.1.2.2 (fun j => hJ 3 j (by omega)) (fun k j hk => hz k j (by unfold kL at hk; omega))) ⟨by rw [hJ 14 6 (by omega), hz 0 9 (by omega)]; exact hu.1.2.1.2.1, by rw [hz 0 9 (by omega)]; exact hu.1.2.2.2.2.2.2.2.1⟩ (mr_e hu.1.2.2.1.2.1 hu.1.2.2.1.2.2.1 (fun x kx => hX _ _ (by have := (hT.g_ask x kx).1; omega)) (fun k j hk => hz k j (by unfold kK at hk; omega))) (mk_e hu.1.2.2.2.2.2.2.2.2.2.2.2.1 (fun k j hk => hz k j (by unfold kK at hk; omega))) (siM_e hu.2.2.1.1 (fun k j hk => hJ k j (by omega)) (fun k j hk => hz k j (by unfold kM at hk; omega))) (siT_e hu.2.2.1.2.1 (fun k j hk => hJ k j (by omega)) (fun k j hk => hz k j (by unfold kT at hk; omega))) (siY_e hu.2.2.1.2.2.2 (fun k j hk => hz k j (by unfold kY at hk; omega))) (fun e => hX _ _ (by have := (hT.g_ask _ (hu.2.2.1.2.2.1.2 e).1).1; omega))
theorem cr_refuse (hH : cH C c (n + 1) t K L I R) {v : Int32} (hP : ∀ J, rfQ C c (n + 1) t K L I R J → P (some (.int v)) (n + 1, t, K, L, J, R)) : a_does (d + 1) 10 [a_rf C, .int v] (n + 1, t, K, L, I, R) P := by
  have hT := hH.1
  have hS := hT.s
  have hw : ∀ k w, P (some (.int v)) (n + 1, t, K, L, (a_ui I (C + 42) k w), R) := fun k w => hP _ ⟨cH_J hH (sT_BeamHall_refused hT), fun x j e => by rw [ui_ap, if_neg (fun q => e q.1)]⟩
  have hw0 := hP I ⟨hH, fun _ _ _ => rfl⟩
  clear hP hH hT
  rw [a_enter1 (M := a_m10) rfl (a_cat_rf (a_cat_int a_cat_nil)) (show 2 ≤ 2 by decide)]
  show a_at _ (a_xm a_m10) 0 [some (a_rf C), some (.int v)] [] _ _
  repeat' first
    | with_reducible apply And.intro
    | with_reducible assumption
    | with_reducible intro _
    | with_reducible apply hw0
    | with_reducible apply hw
    | simp only [q10_0, q10_1, q10_4, q10_5, q10_7, q10_10, q10_11, q10_14, q10_15, q10_16, q10_17, q10_18, q10_19, q10_20, q10_21, q10_22, k_0 hS, z_C hS, r_0_8 hS, k_42 hS, l_42 hS, z_42, as_nil, as_i, as_r, Nat.reduceAdd, Nat.reduceLeDiff, z_eq0, z_eq1, z_or, z_em, Classical.not_not, not_false_eq_true, not_true_eq_false, true_and, and_true, false_and, and_false, and_self, true_implies, false_implies, implies_true, Option.toList_some, Option.toList_none, List.cons_append, List.nil_append, Nat.add_eq_zero_iff, a_nl_i, a_nl_r, a_nl_n, true_or, or_true, eq_self, a_isRA_22, a_isRA_24, a_isRA_32, a_isA_20, ok_4, ok_5, ok_6, ok_7, ok_9, ok_20, ok_21, ok_30, ok_50, ok_180, ok_192, ok_200]
  all_goals ((try clear ih); (try clear hP); (try clear hl); (try clear hq); (try clear a3); grind [ui_ap])
end ZA0
section ZA1
variable {d n t C c n0 n' n'' t' : Nat} {K L K0 L0 K' L' K'' L'' : Nat → Nat} {I I0 J J0 J1 J2 : Nat → Nat → Int32} {R R0 R' R'' : Nat → Nat → Nat} {P : Option Value → AH → Prop}
theorem kr_mode (hH : cH C c (n + 1) t K L I R) {a b m : Int32} (h1 : ¬ ((0 ≤ a ∧ a < 200) ∧ (0 ≤ b ∧ b < 200) ∧ a ≤ b) → ∀ J, rfQ C c (n + 1) t K L I R J → P (some (.int (-1))) (n + 1, t, K, L, J, R)) (h2 : ((0 ≤ a ∧ a < 200) ∧ (0 ≤ b ∧ b < 200) ∧ a ≤ b) → (m < 0 ∨ 4 < m) → ∀ J, rfQ C c (n + 1) t K L I R J → P (some (.int (-2))) (n + 1, t, K, L, J, R)) (hP : ((0 ≤ a ∧ a < 200) ∧ (0 ≤ b ∧ b < 200) ∧ a ≤ b) → ¬ (m < 0 ∨ 4 < m) → ∀ J, cH C c (n + 1) t K L J R → (∀ x j, ¬ x = C + 2 → J x j = I x j) → (∀ j, J (C + 2) j = if a.toNatClampNeg ≤ j ∧ j ≤ b.toNatClampNeg then m else I (C + 2) j) → P (some (.int (cn (I (C + 2)) m a.toNatClampNeg (b.toNatClampNeg + 1 - a.toNatClampNeg)))) (n + 1, t, K, L, J, R)) : a_does (d + 70) 11 [a_rf C, .int a, .int b, .int m] (n + 1, t, K, L, I, R) P := by
  have hT := hH.1
  have hS := hT.s
  have hZ := cZ_refl hH
  have hgo : ((0 ≤ a ∧ a < 200) ∧ (0 ≤ b ∧ b < 200) ∧ a ≤ b) → ¬ (m < 0 ∨ 4 < m) → a_at (d + 69) (a_xm a_m11) 30 [some (a_rf C), some (.int a), some (.int b), some (.int m)] [] (n + 1, t, K, L, I, R) P := fun q1 q2 => by
    have hP := hP q1 q2
    have qa : 0 ≤ a ∧ a ≤ 199 := by clear hP h1 h2 hZ hH hT; grind
    have qb : 0 ≤ b ∧ b ≤ 199 := by clear hP h1 h2 hZ hH hT; grind
    simp only [q11_30, q11_31, q11_34, q11_35, q11_36, q11_37, k_0 hS, z_C hS, r_0_0 hS, k_1 hS, z_1, as_nil, as_i, as_r, Nat.reduceAdd, Nat.reduceLeDiff, z_eq0, z_eq1, z_or, z_em, Classical.not_not, not_false_eq_true, not_true_eq_false, true_and, and_true, false_and, and_false, and_self, true_implies, false_implies, implies_true, Option.toList_some, Option.toList_none, List.cons_append, List.nil_append, Nat.add_eq_zero_iff, a_nl_i, a_nl_r, a_nl_n, true_or, or_true, eq_self, a_isRA_22, a_isRA_24, a_isRA_32, a_isA_20, ok_4, ok_5, ok_6, ok_7, ok_9, ok_20, ok_21, ok_30, ok_50, ok_180, ok_192, ok_200]
    rw [a_enter1 (M := a_m14) rfl (a_cat_rf (a_cat_int (a_cat_int (a_cat_int a_cat_nil)))) (show 4 ≤ 6 by decide)]
    show a_at _ (a_xm a_m14) 0 [some (a_rf (C + 1)), some (.int a), some (.int b), some (.int m), none, none] [] _ _
    simp only [q14_0, q14_1, q14_3, q14_4, as_nil, as_i, as_r, Nat.reduceAdd, Nat.reduceLeDiff, z_eq0, z_eq1, z_or, z_em, Classical.not_not, not_false_eq_true, not_true_eq_false, true_and, and_true, false_and, and_false, and_self, true_implies, false_implies, implies_true, Option.toList_some, Option.toList_none, List.cons_append, List.nil_append, Nat.add_eq_zero_iff, a_nl_i, a_nl_r, a_nl_n, true_or, or_true, eq_self, a_isRA_22, a_isRA_24, a_isRA_32, a_isA_20, ok_4, ok_5, ok_6, ok_7, ok_9, ok_20, ok_21, ok_30, ok_50, ok_180, ok_192, ok_200]
    refine lk_change_6 hS qa qb q1.2.2 (fun J f1 f2 => ?_) a (by grind) 0 I (by grind) (by grind) (fun _ _ _ => rfl) (fun j => by rw [if_neg (by omega)]) (by rw [Nat.sub_self]; rfl)
    simp only [q11_40, as_nil, as_i, as_r, Nat.reduceAdd, Nat.reduceLeDiff, z_eq0, z_eq1, z_or, z_em, Classical.not_not, not_false_eq_true, not_true_eq_false, true_and, and_true, false_and, and_false, and_self, true_implies, false_implies, implies_true, Option.toList_some, Option.toList_none, List.cons_append, List.nil_append, Nat.add_eq_zero_iff, a_nl_i, a_nl_r, a_nl_n, true_or, or_true, eq_self, a_isRA_22, a_isRA_24, a_isRA_32, a_isA_20, ok_4, ok_5, ok_6, ok_7, ok_9, ok_20, ok_21, ok_30, ok_50, ok_180, ok_192, ok_200]
    exact hP J (cH_J hH (sT_fr (k := 2) hT (by decide) f1)) f1 f2
  have g1 : m < 0 → m < 0 ∨ 4 < m := Or.inl
  have g2 : ¬ m ≤ 4 → m < 0 ∨ 4 < m := fun h => Or.inr (Int32.not_le.mp h)
  have g3 : ¬ m < 0 → m ≤ 4 → ¬ (m < 0 ∨ 4 < m) := fun h h2 h3 => h3.elim h (fun h4 => absurd h2 (Int32.not_le.mpr h4))
  rw [a_enter1 (M := a_m11) rfl (a_cat_rf (a_cat_int (a_cat_int (a_cat_int a_cat_nil)))) (show 4 ≤ 4 by decide)]
  show a_at _ (a_xm a_m11) 0 [some (a_rf C), some (.int a), some (.int b), some (.int m)] [] _ _
  repeat' first
    | with_reducible apply And.intro
    | with_reducible assumption
    | with_reducible intro _
    | refine cr_refuse hH (fun _ _ => ?_)
    | exact h1 (by assumption) _ (by assumption)
    | exact h2 (by assumption) (g1 (by assumption)) _ (by assumption)
    | exact h2 (by assumption) (g2 (by assumption)) _ (by assumption)
    | exact hgo (by assumption) (g3 (by assumption) (by assumption))
    | simp only [q11_0, q11_1, q11_2, q11_5, q11_8, q11_9, q11_10, q11_13, q11_14, q11_15, q11_18, q11_19, q11_20, q11_23, q11_24, q11_26, q11_29, k_0 hS, z_C hS, sp_areShifts, as_nil, as_i, as_r, Nat.reduceAdd, Nat.reduceLeDiff, z_eq0, z_eq1, z_or, z_em, Classical.not_not, not_false_eq_true, not_true_eq_false, true_and, and_true, false_and, and_false, and_self, true_implies, false_implies, implies_true, Option.toList_some, Option.toList_none, List.cons_append, List.nil_append, Nat.add_eq_zero_iff, a_nl_i, a_nl_r, a_nl_n, true_or, or_true, eq_self, a_isRA_22, a_isRA_24, a_isRA_32, a_isA_20, ok_4, ok_5, ok_6, ok_7, ok_9, ok_20, ok_21, ok_30, ok_50, ok_180, ok_192, ok_200]
  all_goals ((try clear hgo); (try clear h1); (try clear h2); (try clear hP); (try clear hZ); (try clear hH); (try clear hT); grind [ui_ap])
theorem kr_hours (hH : cH C c (n + 1) t K L I R) {v : Int32} (h1 : v < 0 → ∀ J, rfQ C c (n + 1) t K L I R J → P (some (.int (-4))) (n + 1, t, K, L, J, R)) (h2 : ¬ v < 0 → 1600 - I (C + 1) 6 < v → ∀ J, rfQ C c (n + 1) t K L I R J → P (some (.int (-6))) (n + 1, t, K, L, J, R)) (hP : ¬ v < 0 → ¬ 1600 - I (C + 1) 6 < v → cH C c (n + 1) t K L (a_ui I (C + 1) 6 (I (C + 1) 6 + v)) R → P (some (.int (I (C + 1) 6 + v))) (n + 1, t, K, L, (a_ui I (C + 1) 6 (I (C + 1) 6 + v)), R)) : a_does (d + 70) 9 [a_rf C, .int v] (n + 1, t, K, L, I, R) P := by
  have hT := hH.1
  have hS := hT.s
  have hZ := cZ_refl hH
  have g := hT.g_now
  have hc : ¬ v < 0 → ¬ 1600 - I (C + 1) 6 < v → cH C c (n + 1) t K L (a_ui I (C + 1) 6 (I (C + 1) 6 + v)) R := fun q1 q2 => cH_J hH (sT_Beam_now hT (by clear h1 h2 hP hZ hH hT hS; grind))
  rw [a_enter1 (M := a_m9) rfl (a_cat_rf (a_cat_int a_cat_nil)) (show 2 ≤ 2 by decide)]
  show a_at _ (a_xm a_m9) 0 [some (a_rf C), some (.int v)] [] _ _
  simp only [q9_0, q9_1, q9_4, q9_5, q9_7, q9_10, q9_11, q9_12, q9_15, q9_16, q9_19, q9_22, q9_23, q9_26, q9_27, q9_29, q9_32, q9_33, q9_34, q9_37, q9_38, q9_41, q9_42, q9_43, q9_46, q9_47, q9_50, q9_53, k_0 hS, z_C hS, r_0_0 hS, k_1 hS, z_1, as_nil, as_i, as_r, Nat.reduceAdd, Nat.reduceLeDiff, z_eq0, z_eq1, z_or, z_em, Classical.not_not, not_false_eq_true, not_true_eq_false, true_and, and_true, false_and, and_false, and_self, true_implies, false_implies, implies_true, Option.toList_some, Option.toList_none, List.cons_append, List.nil_append, Nat.add_eq_zero_iff, a_nl_i, a_nl_r, a_nl_n, true_or, or_true, eq_self, a_isRA_22, a_isRA_24, a_isRA_32, a_isA_20, ok_4, ok_5, ok_6, ok_7, ok_9, ok_20, ok_21, ok_30, ok_50, ok_180, ok_192, ok_200, ui_ap, cc_ne, cc_n0, cc_0n, Nat.reduceEqDiff, reduceIte, if_true, if_false]
  have hr4 : v < 0 → a_does (d + 69) 10 [a_rf C, .int (-4)] (n + 1, t, K, L, I, R) (fun r h' => a_at (d + 69) (a_xm a_m9) 10 [some (a_rf C), some (.int v)] (r.toList ++ []) h' P) := fun q => cr_refuse hH (fun J z => by
    simp only [q9_10, as_nil, as_i, as_r, Nat.reduceAdd, Nat.reduceLeDiff, z_eq0, z_eq1, z_or, z_em, Classical.not_not, not_false_eq_true, not_true_eq_false, true_and, and_true, false_and, and_false, and_self, true_implies, false_implies, implies_true, Option.toList_some, Option.toList_none, List.cons_append, List.nil_append, Nat.add_eq_zero_iff, a_nl_i, a_nl_r, a_nl_n, true_or, or_true, eq_self, a_isRA_22, a_isRA_24, a_isRA_32, a_isA_20, ok_4, ok_5, ok_6, ok_7, ok_9, ok_20, ok_21, ok_30, ok_50, ok_180, ok_192, ok_200]
    exact h1 q J z)
  have hr6 : ¬ v < 0 → 1600 - I (C + 1) 6 < v → a_does (d + 69) 10 [a_rf C, .int (-6)] (n + 1, t, K, L, I, R) (fun r h' => a_at (d + 69) (a_xm a_m9) 32 [some (a_rf C), some (.int v)] (r.toList ++ []) h' P) := fun q q2 => cr_refuse hH (fun J z => by
    simp only [q9_32, as_nil, as_i, as_r, Nat.reduceAdd, Nat.reduceLeDiff, z_eq0, z_eq1, z_or, z_em, Classical.not_not, not_false_eq_true, not_true_eq_false, true_and, and_true, false_and, and_false, and_self, true_implies, false_implies, implies_true, Option.toList_some, Option.toList_none, List.cons_append, List.nil_append, Nat.add_eq_zero_iff, a_nl_i, a_nl_r, a_nl_n, true_or, or_true, eq_self, a_isRA_22, a_isRA_24, a_isRA_32, a_isA_20, ok_4, ok_5, ok_6, ok_7, ok_9, ok_20, ok_21, ok_30, ok_50, ok_180, ok_192, ok_200]
    exact h2 q q2 J z)
  clear h1 h2
  clear hZ
  have hfin := fun q1 q2 => hP q1 q2 (hc q1 q2)
  clear hP hc
  clear hH hT hS
  grind
theorem kr_check (hH : cH C c (n + 1) t K L I R) {b a k : Int32} (h1 : ¬ ((0 ≤ b ∧ b < I (C + 14) 5) ∧ (0 ≤ a ∧ a < 200) ∧ a + I C 10 ≤ 200) → ∀ J, rfQ C c (n + 1) t K L I R J → P (some (.int (-1))) (n + 1, t, K, L, J, R)) (h2 : ((0 ≤ b ∧ b < I (C + 14) 5) ∧ (0 ≤ a ∧ a < 200) ∧ a + I C 10 ≤ 200) → k < 0 → ∀ J, rfQ C c (n + 1) t K L I R J → P (some (.int (-4))) (n + 1, t, K, L, J, R)) (h3 : ((0 ≤ b ∧ b < I (C + 14) 5) ∧ (0 ≤ a ∧ a < 200) ∧ a + I C 10 ≤ 200) → ¬ k < 0 → I (C + 1) 6 < k → ∀ J, rfQ C c (n + 1) t K L I R J → P (some (.int (-6))) (n + 1, t, K, L, J, R)) (hP : ((0 ≤ b ∧ b < I (C + 14) 5) ∧ (0 ≤ a ∧ a < 200) ∧ a + I C 10 ≤ 200) → ¬ k < 0 → ¬ I (C + 1) 6 < k → cT C K L (a_ui I C 10 0) R → ∀ v, P (some (.int v)) (n + 1, t, K, L, (a_ui I C 10 0), R)) : a_does (d + 70) 164 [a_rf C, .int b, .int a, .int k] (n + 1, t, K, L, I, R) P := by
  have hT := hH.1
  have hS := hT.s
  have hZ := cZ_refl hH
  have gA := hT.g_asksR
  have gB := hT.g_benchesR
  have gX := hT.g_textsR
  have gb := gB b.toNatClampNeg
  have gbn := hT.g_benches
  have gY := hT.g_benY
  have gy : 0 ≤ b → b < I (C + 14) 5 → ¬ R (C + 16) b.toNatClampNeg = 0 := fun e1 e2 => gY _ (cl_lt e1 e2)
  have hf : ((0 ≤ b ∧ b < I (C + 14) 5) ∧ (0 ≤ a ∧ a < 200) ∧ a + I C 10 ≤ 200) → ¬ k < 0 → ¬ I (C + 1) 6 < k → ∀ v, P (some (.int v)) (n + 1, t, K, L, (a_ui I C 10 0), R) := fun e1 e2 e3 v => hP e1 e2 e3 (sT_BeamHall_rowSize hT (by decide)) v
  have hgo : ((0 ≤ b ∧ b < I (C + 14) 5) ∧ (0 ≤ a ∧ a < 200) ∧ a + I C 10 ≤ 200) → ¬ k < 0 → ¬ I (C + 1) 6 < k → ¬ R (C + 16) b.toNatClampNeg = 0 → ∀ u, a_at (d + 69) (a_xm a_m164) 69 [some (a_rf C), some (.int b), some (.int a), some (.int k), some (a_rf (R (C + 16) b.toNatClampNeg)), u] [] (n + 1, t, K, L, I, R) P := fun e1 e2 e3 h0 u => by
    simp only [q164_69, q164_70, q164_72, q164_73, q164_74, k_0 hS, z_C hS, as_nil, as_i, as_r, Nat.reduceAdd, Nat.reduceLeDiff, z_eq0, z_eq1, z_or, z_em, Classical.not_not, not_false_eq_true, not_true_eq_false, true_and, and_true, false_and, and_false, and_self, true_implies, false_implies, implies_true, Option.toList_some, Option.toList_none, List.cons_append, List.nil_append, Nat.add_eq_zero_iff, a_nl_i, a_nl_r, a_nl_n, true_or, or_true, eq_self, a_isRA_22, a_isRA_24, a_isRA_32, a_isA_20, ok_4, ok_5, ok_6, ok_7, ok_9, ok_20, ok_21, ok_30, ok_50, ok_180, ok_192, ok_200]
    refine ck_firstWrong hT (gb.resolve_left h0) e1.2.1.1 e1.2.2 e1.2.1.2 (fun v => ?_)
    simp only [q164_77, q164_79, q164_80, q164_81, q164_84, q164_86, k_0 hS, z_C hS, as_nil, as_i, as_r, Nat.reduceAdd, Nat.reduceLeDiff, z_eq0, z_eq1, z_or, z_em, Classical.not_not, not_false_eq_true, not_true_eq_false, true_and, and_true, false_and, and_false, and_self, true_implies, false_implies, implies_true, Option.toList_some, Option.toList_none, List.cons_append, List.nil_append, Nat.add_eq_zero_iff, a_nl_i, a_nl_r, a_nl_n, true_or, or_true, eq_self, a_isRA_22, a_isRA_24, a_isRA_32, a_isA_20, ok_4, ok_5, ok_6, ok_7, ok_9, ok_20, ok_21, ok_30, ok_50, ok_180, ok_192, ok_200]
    exact hf e1 e2 e3 v
  rw [a_enter1 (M := a_m164) rfl (a_cat_rf (a_cat_int (a_cat_int (a_cat_int a_cat_nil)))) (show 4 ≤ 6 by decide)]
  show a_at _ (a_xm a_m164) 0 [some (a_rf C), some (.int b), some (.int a), some (.int k), none, none] [] _ _
  repeat' first
    | with_reducible apply And.intro
    | with_reducible assumption
    | with_reducible intro _
    | refine cr_refuse hH (fun _ _ => ?_)
    | refine h1 ?_ _ (by assumption)
    | refine h2 ?_ ?_ _ (by assumption)
    | refine h3 ?_ ?_ ?_ _ (by assumption)
    | refine hgo ?_ ?_ ?_ ?_ _
    | simp only [q164_0, q164_1, q164_4, q164_5, q164_8, q164_10, q164_12, q164_15, q164_16, q164_19, q164_22, q164_23, q164_24, q164_27, q164_28, q164_31, q164_34, q164_35, q164_36, q164_39, q164_40, q164_41, q164_44, q164_45, q164_47, q164_50, q164_51, q164_52, q164_53, q164_56, q164_59, q164_62, q164_63, q164_65, q164_68, k_0 hS, z_C hS, r_0_4 hS, k_14 hS, z_14, r_0_0 hS, k_1 hS, z_1, sp_benchAt hS gB, sp_isShiftC, as_nil, as_i, as_r, Nat.reduceAdd, Nat.reduceLeDiff, z_eq0, z_eq1, z_or, z_em, Classical.not_not, not_false_eq_true, not_true_eq_false, true_and, and_true, false_and, and_false, and_self, true_implies, false_implies, implies_true, Option.toList_some, Option.toList_none, List.cons_append, List.nil_append, Nat.add_eq_zero_iff, a_nl_i, a_nl_r, a_nl_n, true_or, or_true, eq_self, a_isRA_22, a_isRA_24, a_isRA_32, a_isA_20, ok_4, ok_5, ok_6, ok_7, ok_9, ok_20, ok_21, ok_30, ok_50, ok_180, ok_192, ok_200]
  all_goals ((try clear hgo); (try clear hf); (try clear gY); (try clear gA); (try clear gB); (try clear gX); (try clear gb); (try clear h1); (try clear h2); (try clear h3); (try clear h4); (try clear hP); (try clear hZ); (try clear hH); (try clear hT); (try clear hS); grind [ui_ap])
theorem kr_kin (hH : cH C c (n + 1) t K L I R) {r g : Int32} (h1 : ¬ ((0 ≤ r ∧ r ≤ 5) ∧ (0 ≤ g ∧ g ≤ 9)) → ∀ J, rfQ C c (n + 1) t K L I R J → P (some (.int (-1))) (n + 1, t, K, L, J, R)) (hP : (0 ≤ r ∧ r ≤ 5) → (0 ≤ g ∧ g ≤ 9) → cT C K L (a_ui I (C + 18) r.toNatClampNeg ((I (C + 18) r.toNatClampNeg) ||| (1 <<< (g &&& 31)))) R → P (some (.int (if ((I (C + 18) r.toNatClampNeg) >>> (g &&& 31)) &&& 1 = 0 then 1 else 0))) (n + 1, t, K, L, (a_ui I (C + 18) r.toNatClampNeg ((I (C + 18) r.toNatClampNeg) ||| (1 <<< (g &&& 31)))), R)) : a_does (d + 70) 89 [a_rf C, .int r, .int g] (n + 1, t, K, L, I, R) P := by
  have hT := hH.1
  have hS := hT.s
  have hZ := cZ_refl hH
  have hgo : (0 ≤ r ∧ r < 6) → ¬ g < 0 → g < 10 → a_at (d + 69) (a_xm a_m89) 23 [some (a_rf C), some (.int r), some (.int g)] [] (n + 1, t, K, L, I, R) P := fun h2 h3 h4 => by
    have hf := hP ⟨h2.1, by clear hP h1 hZ hH hT hS; grind⟩ ⟨Int32.not_lt.mp h3, by clear hP h1 hZ hH hT hS; grind⟩ (sT_Panel_kin hT)
    simp only [q89_23, q89_24, q89_27, q89_28, q89_29, k_0 hS, z_C hS, r_0_3 hS, k_17 hS, z_17, as_nil, as_i, as_r, Nat.reduceAdd, Nat.reduceLeDiff, z_eq0, z_eq1, z_or, z_em, Classical.not_not, not_false_eq_true, not_true_eq_false, true_and, and_true, false_and, and_false, and_self, true_implies, false_implies, implies_true, Option.toList_some, Option.toList_none, List.cons_append, List.nil_append, Nat.add_eq_zero_iff, a_nl_i, a_nl_r, a_nl_n, true_or, or_true, eq_self, a_isRA_22, a_isRA_24, a_isRA_32, a_isA_20, ok_4, ok_5, ok_6, ok_7, ok_9, ok_20, ok_21, ok_30, ok_50, ok_180, ok_192, ok_200]
    refine ck_tellKin hS h2 ?_
    simp only [q89_32, q89_35, q89_36, q89_39, q89_40, as_nil, as_i, as_r, Nat.reduceAdd, Nat.reduceLeDiff, z_eq0, z_eq1, z_or, z_em, Classical.not_not, not_false_eq_true, not_true_eq_false, true_and, and_true, false_and, and_false, and_self, true_implies, false_implies, implies_true, Option.toList_some, Option.toList_none, List.cons_append, List.nil_append, Nat.add_eq_zero_iff, a_nl_i, a_nl_r, a_nl_n, true_or, or_true, eq_self, a_isRA_22, a_isRA_24, a_isRA_32, a_isA_20, ok_4, ok_5, ok_6, ok_7, ok_9, ok_20, ok_21, ok_30, ok_50, ok_180, ok_192, ok_200]
    by_cases e : ((I (C + 18) r.toNatClampNeg) >>> (g &&& 31)) &&& 1 = 0
    · simp only [e, if_true, not_true_eq_false, false_implies, true_implies, and_true, true_and, implies_true, not_false_eq_true] at hf ⊢
      exact hf
    · simp only [e, if_false, not_true_eq_false, false_implies, true_implies, and_true, true_and, implies_true, not_false_eq_true] at hf ⊢
      exact hf
  have hr0 : r < 0 → ¬ ((0 ≤ r ∧ r ≤ 5) ∧ (0 ≤ g ∧ g ≤ 9)) := fun q e => absurd q (Int32.not_lt.mpr e.1.1)
  rw [a_enter1 (M := a_m89) rfl (a_cat_rf (a_cat_int (a_cat_int a_cat_nil))) (show 3 ≤ 3 by decide)]
  show a_at _ (a_xm a_m89) 0 [some (a_rf C), some (.int r), some (.int g)] [] _ _
  repeat' first
    | with_reducible apply And.intro
    | with_reducible assumption
    | with_reducible intro _
    | refine cr_refuse hH (fun _ _ => ?_)
    | refine h1 ?_ _ (by assumption)
    | refine hgo ?_ ?_ ?_
    | simp only [q89_0, q89_1, q89_4, q89_7, q89_8, q89_11, q89_12, q89_14, q89_17, q89_18, q89_19, q89_22, k_0 hS, z_C hS, sp_isReaderC, as_nil, as_i, as_r, Nat.reduceAdd, Nat.reduceLeDiff, z_eq0, z_eq1, z_or, z_em, Classical.not_not, not_false_eq_true, not_true_eq_false, true_and, and_true, false_and, and_false, and_self, true_implies, false_implies, implies_true, Option.toList_some, Option.toList_none, List.cons_append, List.nil_append, Nat.add_eq_zero_iff, a_nl_i, a_nl_r, a_nl_n, true_or, or_true, eq_self, a_isRA_22, a_isRA_24, a_isRA_32, a_isA_20, ok_4, ok_5, ok_6, ok_7, ok_9, ok_20, ok_21, ok_30, ok_50, ok_180, ok_192, ok_200]
  all_goals ((try clear hgo); (try clear hr0); (try clear h1); (try clear h2); (try clear h3); (try clear h4); (try clear hP); (try clear hZ); (try clear hH); (try clear hT); (try clear hS); grind [ui_ap])
theorem kr_shiftOf (hH : cH C c (n + 1) t K L I R) {s w k : Int32} (h1 : ¬ (0 ≤ s ∧ s ≤ 199) → ∀ J, rfQ C c (n + 1) t K L I R J → P (some (.int (-1))) (n + 1, t, K, L, J, R)) (h2 : (0 ≤ s ∧ s ≤ 199) → ¬ (0 ≤ w ∧ w ≤ 1) → ∀ J, rfQ C c (n + 1) t K L I R J → P (some (.int (-2))) (n + 1, t, K, L, J, R)) (h3 : (0 ≤ s ∧ s ≤ 199) → (0 ≤ w ∧ w ≤ 1) → k < 0 → ∀ J, rfQ C c (n + 1) t K L I R J → P (some (.int (-4))) (n + 1, t, K, L, J, R)) (h4 : (0 ≤ s ∧ s ≤ 199) → (0 ≤ w ∧ w ≤ 1) → ¬ k < 0 → I (C + 1) 6 < k → ∀ J, rfQ C c (n + 1) t K L I R J → P (some (.int (-6))) (n + 1, t, K, L, J, R)) (hP : (0 ≤ s ∧ s ≤ 199) → (0 ≤ w ∧ w ≤ 1) → ¬ k < 0 → ¬ I (C + 1) 6 < k → P (some (.int (if w = 0 then I (C + 2) s.toNatClampNeg else lsu (lkC C I k) (s * 8) 8 0 0))) (n + 1, t, K, L, I, R)) : a_does (d + 70) 17 [a_rf C, .int s, .int w, .int k] (n + 1, t, K, L, I, R) P := by
  have hT := hH.1
  have hS := hT.s
  have hZ := cZ_refl hH
  have hP0 : (0 ≤ s ∧ s ≤ 199) → (0 ≤ w ∧ w ≤ 1) → ¬ k < 0 → ¬ I (C + 1) 6 < k → w = 0 → P (some (.int (I (C + 2) s.toNatClampNeg))) (n + 1, t, K, L, I, R) := fun e1 e2 e3 e4 e5 => by
    have := hP e1 e2 e3 e4
    rw [if_pos e5] at this
    exact this
  have hP1 : (0 ≤ s ∧ s ≤ 199) → (0 ≤ w ∧ w ≤ 1) → ¬ k < 0 → ¬ I (C + 1) 6 < k → ¬ w = 0 → a_at (d + 69) (a_xm a_m17) 74 [some (a_rf C), some (.int s), some (.int w), some (.int k)] [] (n + 1, t, K, L, I, R) P := fun e1 e2 e3 e4 e5 => by
    have := hP e1 e2 e3 e4
    rw [if_neg e5] at this
    simp only [q17_74, q17_75, q17_78, q17_79, q17_80, k_0 hS, z_C hS, r_0_0 hS, k_1 hS, z_1, as_nil, as_i, as_r, Nat.reduceAdd, Nat.reduceLeDiff, z_eq0, z_eq1, z_or, z_em, Classical.not_not, not_false_eq_true, not_true_eq_false, true_and, and_true, false_and, and_false, and_self, true_implies, false_implies, implies_true, Option.toList_some, Option.toList_none, List.cons_append, List.nil_append, Nat.add_eq_zero_iff, a_nl_i, a_nl_r, a_nl_n, true_or, or_true, eq_self, a_isRA_22, a_isRA_24, a_isRA_32, a_isA_20, ok_4, ok_5, ok_6, ok_7, ok_9, ok_20, ok_21, ok_30, ok_50, ok_180, ok_192, ok_200]
    refine ce_lostAsKnown hT ?_
    simp only [q17_83, as_nil, as_i, as_r, Nat.reduceAdd, Nat.reduceLeDiff, z_eq0, z_eq1, z_or, z_em, Classical.not_not, not_false_eq_true, not_true_eq_false, true_and, and_true, false_and, and_false, and_self, true_implies, false_implies, implies_true, Option.toList_some, Option.toList_none, List.cons_append, List.nil_append, Nat.add_eq_zero_iff, a_nl_i, a_nl_r, a_nl_n, true_or, or_true, eq_self, a_isRA_22, a_isRA_24, a_isRA_32, a_isA_20, ok_4, ok_5, ok_6, ok_7, ok_9, ok_20, ok_21, ok_30, ok_50, ok_180, ok_192, ok_200]
    exact this
  have hr4 : ¬ k ≤ I (C + 1) 6 → I (C + 1) 6 < k := fun h => Int32.not_le.mp h
  clear hP
  rw [a_enter1 (M := a_m17) rfl (a_cat_rf (a_cat_int (a_cat_int (a_cat_int a_cat_nil)))) (show 4 ≤ 4 by decide)]
  show a_at _ (a_xm a_m17) 0 [some (a_rf C), some (.int s), some (.int w), some (.int k)] [] _ _
  repeat' first
    | with_reducible apply And.intro
    | with_reducible assumption
    | with_reducible intro _
    | refine cr_refuse hH (fun _ _ => ?_)
    | refine h1 ?_ _ (by assumption)
    | refine h2 ?_ ?_ _ (by assumption)
    | refine h3 ?_ ?_ ?_ _ (by assumption)
    | refine h4 ?_ ?_ ?_ ?_ _ (by assumption)
    | refine hP0 ?_ ?_ ?_ ?_ ?_
    | refine hP1 ?_ ?_ ?_ ?_ ?_
    | simp only [q17_0, q17_1, q17_4, q17_7, q17_8, q17_9, q17_12, q17_13, q17_14, q17_17, q17_18, q17_19, q17_22, q17_23, q17_25, q17_28, q17_29, q17_30, q17_33, q17_34, q17_36, q17_39, q17_40, q17_41, q17_42, q17_45, q17_48, q17_51, q17_52, q17_54, q17_57, q17_58, q17_59, q17_62, q17_63, q17_66, q17_69, q17_70, q17_71, q17_83, k_0 hS, z_C hS, r_0_0 hS, k_1 hS, z_1, r_1_0 hS, k_2 hS, l_2 hS, z_2, sp_isShiftC, as_nil, as_i, as_r, Nat.reduceAdd, Nat.reduceLeDiff, z_eq0, z_eq1, z_or, z_em, Classical.not_not, not_false_eq_true, not_true_eq_false, true_and, and_true, false_and, and_false, and_self, true_implies, false_implies, implies_true, Option.toList_some, Option.toList_none, List.cons_append, List.nil_append, Nat.add_eq_zero_iff, a_nl_i, a_nl_r, a_nl_n, true_or, or_true, eq_self, a_isRA_22, a_isRA_24, a_isRA_32, a_isA_20, ok_4, ok_5, ok_6, ok_7, ok_9, ok_20, ok_21, ok_30, ok_50, ok_180, ok_192, ok_200]
  all_goals ((try clear hP0); (try clear hP1); (try clear hr4); (try clear h1); (try clear h2); (try clear h3); (try clear h4); (try clear hP); (try clear hZ); (try clear hH); (try clear hT); (try clear hS); grind [ui_ap])
theorem kr_feed (hH : cH C c (n + 1) t K L I R) {m : Int32} {w : Int64} (h1 : m < 1 → ∀ J, rfQ C c (n + 1) t K L I R J → P (some (.int (-4))) (n + 1, t, K, L, J, R)) (h2 : ¬ m < 1 → (8 < m ∨ 50 < (I (C + 11) 2) + m) → ∀ J, rfQ C c (n + 1) t K L I R J → P (some (.int (-6))) (n + 1, t, K, L, J, R)) (hP : ¬ m < 1 → ¬ (8 < m ∨ 50 < (I (C + 11) 2) + m) → ∀ J, cT C K L J R → (∀ x j, ¬ x = C + 12 → ¬ (x = C + 11 ∧ j = 2) → J x j = I x j) → J (C + 11) 2 = (I (C + 11) 2) + m → byP (J (C + 12)) (I (C + 12)) w (I (C + 11) 2) m → P (some (.int ((I (C + 11) 2) + m))) (n + 1, t, K, L, J, R)) : a_does (d + 70) 66 [a_rf C, .int m, .long w] (n + 1, t, K, L, I, R) P := by
  have hT := hH.1
  have hS := hT.s
  have hZ := cZ_refl hH
  have g := hT.g_size
  have h2' : ¬ m < 1 → (¬ m ≤ 8 ∨ ¬ m ≤ 50 - (I (C + 11) 2)) → ∀ J, rfQ C c (n + 1) t K L I R J → P (some (.int (-6))) (n + 1, t, K, L, J, R) := fun q1 q2 => h2 q1 (by clear hP h1 h2 hH hT hS hZ; grind)
  have hg : ¬ m < 1 → m ≤ 8 → m ≤ 50 - (I (C + 11) 2) → a_does (d + 69) 67 [a_rf (C + 11), .int m, .long w] (n + 1, t, K, L, I, R) (fun r h' => a_at (d + 69) (a_xm a_m66) 48 [some (a_rf C), some (.int m), some (.long w), none] (r.toList ++ []) h' P) := fun q1 q2 q3 => by
    have q4 : (I (C + 11) 2) + m ≤ 50 := by clear hP h1 h2 hH hT hS hZ; grind
    have hp := hP q1 (fun z => z.elim (fun z => absurd q2 (Int32.not_le.mpr z)) (fun z => absurd q4 (Int32.not_le.mpr z)))
    have hl := le_append_3 (d := d + 68) (w := w) (P := fun r h' => a_at (d + 69) (a_xm a_m66) 48 [some (a_rf C), some (.int m), some (.long w), none] (r.toList ++ []) h' P) g.1 ⟨Int32.not_lt.mp q1, q2⟩ q4 g.2 (fun J j1 j2 j3 j4 => by
      have hf := hp J j1 j2 j3 j4
      simp only [q66_48, as_nil, as_i, as_r, Nat.reduceAdd, Nat.reduceLeDiff, z_eq0, z_eq1, z_or, z_em, Classical.not_not, not_false_eq_true, not_true_eq_false, true_and, and_true, false_and, and_false, and_self, true_implies, false_implies, implies_true, Option.toList_some, Option.toList_none, List.cons_append, List.nil_append, Nat.add_eq_zero_iff, a_nl_i, a_nl_r, a_nl_n, true_or, or_true, eq_self, a_isRA_22, a_isRA_24, a_isRA_32, a_isA_20, ok_4, ok_5, ok_6, ok_7, ok_9, ok_20, ok_21, ok_30, ok_50, ok_180, ok_192, ok_200]
      exact hf) 0 (by decide) I (by decide) (by clear hP h1 h2 hH hT hS hZ; grind) hT (fun _ _ _ _ => rfl) (by rw [Int32.add_zero]) byP_0
    rw [a_enter (M := a_m67) rfl (by rw [a_len_ril]; decide)]
    show a_at _ (a_xm a_m67) 0 (a_init [a_rf (C + 11), .int m, .long w] 5) [] _ _
    rw [a_init_ril]
    simp only [q67_0, q67_1, as_nil, as_i, as_r, Nat.reduceAdd, Nat.reduceLeDiff, z_eq0, z_eq1, z_or, z_em, Classical.not_not, not_false_eq_true, not_true_eq_false, true_and, and_true, false_and, and_false, and_self, true_implies, false_implies, implies_true, Option.toList_some, Option.toList_none, List.cons_append, List.nil_append, Nat.add_eq_zero_iff, a_nl_i, a_nl_r, a_nl_n, true_or, or_true, eq_self, a_isRA_22, a_isRA_24, a_isRA_32, a_isA_20, ok_4, ok_5, ok_6, ok_7, ok_9, ok_20, ok_21, ok_30, ok_50, ok_180, ok_192, ok_200]
    exact hl
  clear hP h2
  rw [a_enter (M := a_m66) rfl (by rw [a_len_ril]; decide)]
  show a_at _ (a_xm a_m66) 0 (a_init [a_rf C, .int m, .long w] 4) [] _ _
  rw [a_init_ril4]
  repeat' first
    | with_reducible apply And.intro
    | with_reducible assumption
    | with_reducible intro _
    | refine cr_refuse hH (fun _ _ => ?_)
    | refine h1 ?_ _ (by assumption)
    | refine h2' ?_ ?_ _ (by assumption)
    | refine hg ?_ ?_ ?_
    | simp only [q66_0, q66_1, q66_2, q66_5, q66_6, q66_8, q66_11, q66_12, q66_13, q66_15, q66_18, q66_19, q66_21, q66_22, q66_25, q66_28, q66_29, q66_32, q66_33, q66_35, q66_38, q66_39, q66_40, q66_43, q66_44, q66_45, q66_48, k_0 hS, z_C hS, r_0_2 hS, k_11 hS, z_11, as_nil, as_i, as_r, Nat.reduceAdd, Nat.reduceLeDiff, z_eq0, z_eq1, z_or, z_em, Classical.not_not, not_false_eq_true, not_true_eq_false, true_and, and_true, false_and, and_false, and_self, true_implies, false_implies, implies_true, Option.toList_some, Option.toList_none, List.cons_append, List.nil_append, Nat.add_eq_zero_iff, a_nl_i, a_nl_r, a_nl_n, true_or, or_true, eq_self, a_isRA_22, a_isRA_24, a_isRA_32, a_isA_20, ok_4, ok_5, ok_6, ok_7, ok_9, ok_20, ok_21, ok_30, ok_50, ok_180, ok_192, ok_200]
  all_goals ((try clear h1); (try clear h2'); (try clear hg); (try clear hP); (try clear hZ); (try clear hH); (try clear hT); (try clear hS); grind [ui_ap])
end ZA1
end
section
/-! hours, mode, kin, feed, check -/
section ZB0
variable {d n t C c : Nat} {K L : Nat → Nat} {I I0 J J0 J1 J2 : Nat → Nat → Int32} {R : Nat → Nat → Nat} {P : Option Value → AH → Prop}
variable {Y Z W : Nat → Nat → Int32} {R' R1 : Nat → Nat → Nat} {K' L' : Nat → Nat}
theorem up_same {k j : Nat} {v : Int32} (h : Y k j = v) : upY Y k j v = Y := by
  funext x i
  unfold upY
  by_cases e : x = k ∧ i = j
  · rw [if_pos e, e.1, e.2, h]
  · rw [if_neg e]
theorem lhu_k {f e g : Nat → Int32} {k k' h : Int32} : ∀ z i, (∀ j, i ≤ j → j < i + z → (g j ≤ k ↔ g j ≤ k')) → lhu f e g k h z i = lhu f e g k' h z i := by
  intro z
  induction z with
  | zero => intro i _; rfl
  | succ z ih =>
    intro i hi
    unfold lhu
    simp only [hi i (Nat.le_refl _) (by omega)]
    split
    · rfl
    · exact ih (i + 1) (fun j h1 h2 => hi j (by omega) (by omega))
theorem lk_now (hs : siY Y) {v : Int32} (h : Y 0 0 ≤ v) : lkY (upY Y 0 0 v) = lkY Y := by
  have zr : ∀ k, ¬ k = 0 → upY Y 0 0 v k = Y k := fun k hk => funext (fun j => up_no (by omega))
  funext x
  unfold lkY
  rw [zr 2 (by omega), zr 3 (by omega), zr 4 (by omega), up_at, up_no (by omega)]
  exact lhu_k _ _ (fun j _ h1 => ⟨fun _ => hs.2.2.2.2.2.2.2 j (by omega), fun _ => Int32.le_trans (hs.2.2.2.2.2.2.2 j (by omega)) h⟩)
theorem ix_60 {r g : Int32} (ha : 0 ≤ r ∧ r < 6) (ho : 0 ≤ g ∧ g < 10) : (10 * r + g).toNatClampNeg = 10 * r.toNatClampNeg + g.toNatClampNeg ∧ (0 ≤ 10 * r + g ∧ 10 * r + g < 60) ∧ r.toNatClampNeg < 6 ∧ g.toNatClampNeg < 10 := by
  have c0 : (0 : Int32).toInt = 0 := rfl
  have cm : (10 : Int32).toInt = 10 := rfl
  have cn : (6 : Int32).toInt = 6 := rfl
  have c9 : (60 : Int32).toInt = 60 := rfl
  have a0 := Int32.le_iff_toInt_le.mp ha.1
  have a1 := Int32.lt_iff_toInt_lt.mp ha.2
  have o0 := Int32.le_iff_toInt_le.mp ho.1
  have o1 := Int32.lt_iff_toInt_lt.mp ho.2
  rw [c0] at a0 o0
  rw [cn] at a1
  rw [cm] at o1
  have e1 : (10 * r).toInt = 10 * r.toInt := by rw [Int32.toInt_mul, cm, in_bm (by omega) (by omega)]
  have e2 : (10 * r + g).toInt = 10 * r.toInt + g.toInt := by rw [Int32.toInt_add, e1, in_bm (by omega) (by omega)]
  refine ⟨?_, ⟨by rw [Int32.le_iff_toInt_le, e2, c0]; omega, by rw [Int32.lt_iff_toInt_lt, e2, c9]; omega⟩, ?_, ?_⟩
  · show (10 * r + g).toInt.toNat = 10 * r.toInt.toNat + g.toInt.toNat
    rw [e2]
    omega
  · show r.toInt.toNat < 6
    omega
  · show g.toInt.toNat < 10
    omega
theorem ix_180 {r a : Int32} (ha : 0 ≤ r ∧ r < 6) (ho : 0 ≤ a ∧ a < 30) : (30 * r + a).toNatClampNeg = 30 * r.toNatClampNeg + a.toNatClampNeg ∧ (0 ≤ 30 * r + a ∧ 30 * r + a < 180) ∧ r.toNatClampNeg < 6 ∧ a.toNatClampNeg < 30 := by
  have c0 : (0 : Int32).toInt = 0 := rfl
  have cm : (30 : Int32).toInt = 30 := rfl
  have cn : (6 : Int32).toInt = 6 := rfl
  have c9 : (180 : Int32).toInt = 180 := rfl
  have a0 := Int32.le_iff_toInt_le.mp ha.1
  have a1 := Int32.lt_iff_toInt_lt.mp ha.2
  have o0 := Int32.le_iff_toInt_le.mp ho.1
  have o1 := Int32.lt_iff_toInt_lt.mp ho.2
  rw [c0] at a0 o0
  rw [cn] at a1
  rw [cm] at o1
  have e1 : (30 * r).toInt = 30 * r.toInt := by rw [Int32.toInt_mul, cm, in_bm (by omega) (by omega)]
  have e2 : (30 * r + a).toInt = 30 * r.toInt + a.toInt := by rw [Int32.toInt_add, e1, in_bm (by omega) (by omega)]
  refine ⟨?_, ⟨by rw [Int32.le_iff_toInt_le, e2, c0]; omega, by rw [Int32.lt_iff_toInt_lt, e2, c9]; omega⟩, ?_, ?_⟩
  · show (30 * r + a).toInt.toNat = 30 * r.toInt.toNat + a.toInt.toNat
    rw [e2]
    omega
  · show r.toInt.toNat < 6
    omega
  · show a.toInt.toNat < 30
    omega
/-- the words behind them -/
def hrY (Y : Nat → Nat → Int32) (v : Int32) : Nat → Nat → Int32 := if v < 0 ∨ 1600 - Y 0 0 < v then Y else upY Y 0 0 (Y 0 0 + v)
def mdW (Y : Nat → Nat → Int32) (a b m : Int32) : Nat → Nat → Int32 := fun k j => if k = 1 ∧ a.toNatClampNeg ≤ j ∧ j ≤ b.toNatClampNeg then m else Y k j
def mdY (Y : Nat → Nat → Int32) (a b m : Int32) : Nat → Nat → Int32 := if ((0 ≤ a ∧ a < 200) ∧ (0 ≤ b ∧ b < 200) ∧ a ≤ b) ∧ ¬ (m < 0 ∨ 4 < m) then mdW Y a b m else Y
def kiY (Y : Nat → Nat → Int32) (r g : Int32) : Nat → Nat → Int32 := if (0 ≤ r ∧ r ≤ 5) ∧ (0 ≤ g ∧ g ≤ 9) then upY Y 35 (10 * r.toNatClampNeg + g.toNatClampNeg) 1 else Y
def feW (Y : Nat → Nat → Int32) (m : Int32) (w : Int64) : Nat → Nat → Int32 := fun k j => if k = 0 ∧ j = 40 then Y 0 40 + m else if k = 27 ∧ (Y 0 40).toNatClampNeg ≤ j ∧ j < (Y 0 40 + m).toNatClampNeg then bX w (Int32.ofNat (j - (Y 0 40).toNatClampNeg)) else Y k j
def feY (Y : Nat → Nat → Int32) (m : Int32) (w : Int64) : Nat → Nat → Int32 := if m < 1 ∨ 8 < m ∨ 50 < Y 0 40 + m then Y else feW Y m w
def ckY (Y : Nat → Nat → Int32) (b a k : Int32) : Nat → Nat → Int32 := if ((0 ≤ b ∧ b < Y 0 6) ∧ (0 ≤ a ∧ a < 200) ∧ a + Y 0 79 ≤ 200) ∧ ¬ k < 0 ∧ ¬ Y 0 0 < k then upY Y 0 79 0 else Y
theorem ge_hours (hH : cH C c (n + 1) t K L I R) (hu : cuP C K L I R Y) {v : Int32} (hP : ∀ w n' t' K' L' J R', cH C c (n' + 1) t' K' L' J R' → cuP C K' L' J R' (hrY Y v) → P (some (.int w)) (n' + 1, t', K', L', J, R')) : a_does (d + 70) 9 [a_rf C, .int v] (n + 1, t, K, L, I, R) P := by
  have hT := hH.1
  have hS := hT.s
  have hc := hu.1
  have e6 : I (C + 1) 6 = Y 0 0 := hc.1.1
  have g0 := hT.g_now
  unfold hrY at hP
  refine kr_hours hH (fun q J z => ?_) (fun q q2 J z => ?_) (fun q1 q2 g => ?_)
  · rw [if_pos (Or.inl q)] at hP
    exact hP _ n t K L J R z.1 (cu_re hH hu z)
  · rw [if_pos (Or.inr (by rw [← e6]; exact q2))] at hP
    exact hP _ n t K L J R z.1 (cu_re hH hu z)
  · rw [e6] at q2 g g0 ⊢
    rw [if_neg (fun q => q.elim q1 q2)] at hP
    have hle : Y 0 0 ≤ Y 0 0 + v := by clear hP hu hc g; grind
    refine hP _ n t K L _ R g ?_
    have hJ : ∀ k j, ¬ (k = 1 ∧ j = 6) → a_ui I (C + 1) 6 (Y 0 0 + v) (C + k) j = I (C + k) j := fun k j hk => by rw [ui_ap, if_neg (by omega)]
    have hX : ∀ x j, C + 43 < x → a_ui I (C + 1) 6 (Y 0 0 + v) x j = I x j := fun x j hx => by rw [ui_ap, if_neg (by omega)]
    have hz : ∀ k j, ¬ (k = 0 ∧ j = 0) → upY Y 0 0 (Y 0 0 + v) k j = Y k j := fun k j hk => up_no hk
    have hs := hu.2.2.1.2.2.2
    refine cu_gen hT hu ⟨fun k hk => funext (fun j => hz k j (by omega)), fun j hj => hz 0 j (by omega)⟩ (fE_of hH hX ⟨hJ 14 4 (by omega), hJ 14 5 (by omega)⟩ (hJ 7 3 (by omega))) (by rw [ui_ap, if_pos ⟨rfl, rfl⟩, up_at]) (fun j => by rw [hJ 2 j (by omega), hz 1 j (by omega)]; exact hu.1.1.2.1 j) (fun s s0 s1 => ?_) ⟨by rw [hJ 14 6 (by omega), hz 0 9 (by omega)]; exact hu.1.2.1.2.1, by rw [hz 0 9 (by omega)]; exact hu.1.2.2.2.2.2.2.2.1⟩ (mr_e hu.1.2.2.1.2.1 hu.1.2.2.1.2.2.1 (fun x kx => hX _ _ (by have := (hT.g_ask x kx).1; omega)) (fun k j hk => hz k j (by unfold kK at hk; omega))) (mk_e hu.1.2.2.2.2.2.2.2.2.2.2.2.1 (fun k j hk => hz k j (by unfold kK at hk; omega))) (siM_e hu.2.2.1.1 (fun k j hk => hJ k j (by omega)) (fun k j hk => hz k j (by unfold kM at hk; omega))) (siT_e hu.2.2.1.2.1 (fun k j hk => hJ k j (by omega)) (fun k j hk => hz k j (by unfold kT at hk; omega))) ?_ (fun e => hX _ _ (by have := (hT.g_ask _ (hu.2.2.1.2.2.1.2 e).1).1; omega))
    · unfold liY
      rw [hJ 3 _ (by omega), lk_now hs hle]
      exact hu.1.1.2.2 s s0 s1
    · obtain ⟨y1, y2, y3, y4, y5, y6, y7, y8⟩ := hs
      have zr : ∀ k, ¬ k = 0 → upY Y 0 0 (Y 0 0 + v) k = Y k := fun k hk => funext (fun j => up_no (by omega))
      have wt : ∀ x, wtY (upY Y 0 0 (Y 0 0 + v)) x = wtY Y x := fun x => by
        unfold wtY
        rw [zr 28 (by omega)]
      unfold siY
      rw [zr 38 (by omega), zr 37 (by omega), zr 47 (by omega), zr 2 (by omega), zr 3 (by omega), zr 4 (by omega), up_at, hz 0 2 (by omega), hz 0 17 (by omega)]
      refine ⟨y1, y2, y3, y4, fun x hx => ?_, y6, y7, fun j hj => Int32.le_trans (y8 j hj) hle⟩
      rw [hz 0 41 (by omega)] at hx
      rw [wt, zr 29 (by omega)]
      exact y5 x hx
theorem ge_mode (hH : cH C c (n + 1) t K L I R) (hu : cuP C K L I R Y) {a b m : Int32} (hP : ∀ w n' t' K' L' J R', cH C c (n' + 1) t' K' L' J R' → cuP C K' L' J R' (mdY Y a b m) → P (some (.int w)) (n' + 1, t', K', L', J, R')) : a_does (d + 70) 11 [a_rf C, .int a, .int b, .int m] (n + 1, t, K, L, I, R) P := by
  have hT := hH.1
  have hS := hT.s
  have hc := hu.1
  unfold mdY at hP
  refine kr_mode hH (fun q J z => ?_) (fun q q2 J z => ?_) (fun q1 q2 J g f1 f2 => ?_)
  · rw [if_neg (fun w => q w.1)] at hP
    exact hP _ n t K L J R z.1 (cu_re hH hu z)
  · rw [if_neg (fun w => w.2 q2)] at hP
    exact hP _ n t K L J R z.1 (cu_re hH hu z)
  · rw [if_pos ⟨q1, q2⟩] at hP
    refine hP _ n t K L J R g ?_
    have hJ : ∀ k j, ¬ k = 2 → J (C + k) j = I (C + k) j := fun k j hk => f1 _ _ (by omega)
    have hX : ∀ x j, C + 43 < x → J x j = I x j := fun x j hx => f1 _ _ (by omega)
    have hz : ∀ k j, ¬ k = 1 → mdW Y a b m k j = Y k j := fun k j hk => if_neg (fun q => hk q.1)
    have hm : ∀ j, mdW Y a b m 1 j = if a.toNatClampNeg ≤ j ∧ j ≤ b.toNatClampNeg then m else Y 1 j := fun j => by
      unfold mdW
      by_cases e : a.toNatClampNeg ≤ j ∧ j ≤ b.toNatClampNeg
      · rw [if_pos ⟨rfl, e⟩, if_pos e]
      · rw [if_neg (fun q => e q.2), if_neg e]
    exact cu_gen hT hu ⟨fun k hk => funext (fun j => hz k j (by omega)), fun j hj => hz 0 j (by omega)⟩ (fE_of hH hX ⟨hJ 14 4 (by omega), hJ 14 5 (by omega)⟩ (hJ 7 3 (by omega))) (by rw [hJ 1 6 (by omega), hz 0 0 (by omega)]; exact hu.1.1.1) (fun j => by rw [f2, hm, hu.1.1.2.1 j]) (lsP_e hu.1.1.2.2 (fun j => hJ 3 j (by omega)) (fun k j hk => hz k j (by unfold kL at hk; omega))) ⟨by rw [hJ 14 6 (by omega), hz 0 9 (by omega)]; exact hu.1.2.1.2.1, by rw [hz 0 9 (by omega)]; exact hu.1.2.2.2.2.2.2.2.1⟩ (mr_e hu.1.2.2.1.2.1 hu.1.2.2.1.2.2.1 (fun x kx => hX _ _ (by have := (hT.g_ask x kx).1; omega)) (fun k j hk => hz k j (by unfold kK at hk; omega))) (mk_e hu.1.2.2.2.2.2.2.2.2.2.2.2.1 (fun k j hk => hz k j (by unfold kK at hk; omega))) (siM_e hu.2.2.1.1 (fun k j hk => hJ k j (by omega)) (fun k j hk => hz k j (by unfold kM at hk; omega))) (siT_e hu.2.2.1.2.1 (fun k j hk => hJ k j (by omega)) (fun k j hk => hz k j (by unfold kT at hk; omega))) (siY_e hu.2.2.1.2.2.2 (fun k j hk => hz k j (by unfold kY at hk; omega))) (fun e => hX _ _ (by have := (hT.g_ask _ (hu.2.2.1.2.2.1.2 e).1).1; omega))
theorem ge_kin (hH : cH C c (n + 1) t K L I R) (hu : cuP C K L I R Y) {r g : Int32} (hP : ∀ w n' t' K' L' J R', cH C c (n' + 1) t' K' L' J R' → cuP C K' L' J R' (kiY Y r g) → P (some (.int w)) (n' + 1, t', K', L', J, R')) : a_does (d + 70) 89 [a_rf C, .int r, .int g] (n + 1, t, K, L, I, R) P := by
  have hT := hH.1
  have hS := hT.s
  have hc := hu.1
  unfold kiY at hP
  refine kr_kin hH (fun q J z => ?_) (fun q1 q2 g1 => ?_)
  · rw [if_neg q] at hP
    exact hP _ n t K L J R z.1 (cu_re hH hu z)
  · rw [if_pos ⟨q1, q2⟩] at hP
    refine hP _ n t K L _ R (cH_J hH g1) ?_
    have hJ : ∀ k j, ¬ k = 18 → (a_ui I (C + 18) r.toNatClampNeg ((I (C + 18) r.toNatClampNeg) ||| (1 <<< (g &&& 31)))) (C + k) j = I (C + k) j := fun k j hk => by rw [ui_ap, if_neg (by omega)]
    have hX : ∀ x j, C + 43 < x → (a_ui I (C + 18) r.toNatClampNeg ((I (C + 18) r.toNatClampNeg) ||| (1 <<< (g &&& 31)))) x j = I x j := fun x j hx => by rw [ui_ap, if_neg (by omega)]
    have hz : ∀ k j, ¬ k = 35 → upY Y 35 (10 * r.toNatClampNeg + g.toNatClampNeg) 1 k j = Y k j := fun k j hk => up_no (by omega)
    obtain ⟨-, -, r6, g10⟩ := ix_60 (r := r) (g := g) ⟨q1.1, by clear hP hu hc g1 hz hJ hX; grind⟩ ⟨q2.1, by clear hP hu hc g1 hz hJ hX; grind⟩
    refine cu_gen hT hu ⟨fun k hk => funext (fun j => hz k j (by omega)), fun j hj => hz 0 j (by omega)⟩ (fE_of hH hX ⟨hJ 14 4 (by omega), hJ 14 5 (by omega)⟩ (hJ 7 3 (by omega))) (by rw [hJ 1 6 (by omega), hz 0 0 (by omega)]; exact hu.1.1.1) (fun j => by rw [hJ 2 j (by omega), hz 1 j (by omega)]; exact hu.1.1.2.1 j) (lsP_e hu.1.1.2.2 (fun j => hJ 3 j (by omega)) (fun k j hk => hz k j (by unfold kL at hk; omega))) ⟨by rw [hJ 14 6 (by omega), hz 0 9 (by omega)]; exact hu.1.2.1.2.1, by rw [hz 0 9 (by omega)]; exact hu.1.2.2.2.2.2.2.2.1⟩ (mr_e hu.1.2.2.1.2.1 hu.1.2.2.1.2.2.1 (fun x kx => hX _ _ (by have := (hT.g_ask x kx).1; omega)) (fun k j hk => hz k j (by unfold kK at hk; omega))) (mk_e hu.1.2.2.2.2.2.2.2.2.2.2.2.1 (fun k j hk => hz k j (by unfold kK at hk; omega))) ?_ (siT_e hu.2.2.1.2.1 (fun k j hk => hJ k j (by omega)) (fun k j hk => hz k j (by unfold kT at hk; omega))) (siY_e hu.2.2.1.2.2.2 (fun k j hk => hz k j (by unfold kY at hk; omega))) (fun e => hX _ _ (by have := (hT.g_ask _ (hu.2.2.1.2.2.1.2 e).1).1; omega))
    obtain ⟨⟨m1, m2⟩, m3, m4, m5, m6⟩ := hu.2.2.1.1
    refine ⟨⟨by rw [hJ _ _ (by omega), hz _ _ (by omega)]; exact m1, by rw [hJ _ _ (by omega), hz _ _ (by omega)]; exact m2⟩, fun k hk => by rw [hJ _ _ (by omega), hz 38 _ (by omega), hz 36 _ (by omega)]; exact m3 k hk, fun x y hx hy => ?_, fun x y hx hy => by rw [hJ _ _ (by omega), hz 37 _ (by omega)]; exact m5 x y hx hy, fun x y hx hy => by rw [hJ _ _ (by omega), hz 47 _ (by omega)]; exact m6 x y hx hy⟩
    by_cases e : x = r.toNatClampNeg
    · rw [e, ui_ap, if_pos ⟨rfl, rfl⟩]
      have q := bq_set (k := g.toNatClampNeg) (i := y) (by omega) (by omega) (I (C + 18) r.toNatClampNeg)
      rw [← on_cl q2.1] at q
      rw [q]
      by_cases e2 : y = g.toNatClampNeg
      · rw [e2, up_at, decide_eq_true rfl, Bool.or_true]
        exact ⟨fun _ => by decide, fun _ => rfl⟩
      · rw [up_no (by omega), decide_eq_false e2, Bool.or_false]
        exact m4 _ _ r6 hy
    · rw [ui_ap, if_neg (fun q => e q.2), up_no (by omega)]
      exact m4 x y hx hy
theorem ge_feed (hH : cH C c (n + 1) t K L I R) (hu : cuP C K L I R Y) {m : Int32} {w : Int64} (hP : ∀ v n' t' K' L' J R', cH C c (n' + 1) t' K' L' J R' → cuP C K' L' J R' (feY Y m w) → P (some (.int v)) (n' + 1, t', K', L', J, R')) : a_does (d + 70) 66 [a_rf C, .int m, .long w] (n + 1, t, K, L, I, R) P := by
  have hT := hH.1
  have hS := hT.s
  have hc := hu.1
  have e2 : I (C + 11) 2 = Y 0 40 := hu.2.2.1.2.1.2.1.1
  unfold feY at hP
  refine kr_feed hH (fun q J z => ?_) (fun q q2 J z => ?_) (fun q1 q2 J g1 f1 f2 f3 => ?_)
  · rw [if_pos (Or.inl q)] at hP
    exact hP _ n t K L J R z.1 (cu_re hH hu z)
  · rw [e2] at q2
    rw [if_pos (Or.inr q2)] at hP
    exact hP _ n t K L J R z.1 (cu_re hH hu z)
  · rw [e2] at q2 f2 f3
    rw [if_neg (fun q => q.elim q1 q2)] at hP
    refine hP _ n t K L J R (cH_J hH g1) ?_
    have hJ : ∀ k j, ¬ k = 12 → ¬ (k = 11 ∧ j = 2) → J (C + k) j = I (C + k) j := fun k j hk hk2 => f1 _ _ (by omega) (by omega)
    have hX : ∀ x j, C + 43 < x → J x j = I x j := fun x j hx => f1 _ _ (by omega) (by omega)
    have hz : ∀ k j, ¬ (k = 0 ∧ j = 40) ∧ ¬ k = 27 → feW Y m w k j = Y k j := fun k j hk => by
      unfold feW
      rw [if_neg hk.1, if_neg (fun q => hk.2 q.1)]
    have hJ : ∀ k j, ¬ k = 12 ∧ ¬ (k = 11 ∧ j = 2) → J (C + k) j = I (C + k) j := fun k j hk => hJ k j hk.1 hk.2
    refine cu_gen hT hu ⟨fun k hk => funext (fun j => hz k j (by omega)), fun j hj => hz 0 j (by omega)⟩ (fE_of hH hX ⟨hJ 14 4 (by omega), hJ 14 5 (by omega)⟩ (hJ 7 3 (by omega))) (by rw [hJ 1 6 (by omega), hz 0 0 (by omega)]; exact hu.1.1.1) (fun j => by rw [hJ 2 j (by omega), hz 1 j (by omega)]; exact hu.1.1.2.1 j) (lsP_e hu.1.1.2.2 (fun j => hJ 3 j (by omega)) (fun k j hk => hz k j (by unfold kL at hk; omega))) ⟨by rw [hJ 14 6 (by omega), hz 0 9 (by omega)]; exact hu.1.2.1.2.1, by rw [hz 0 9 (by omega)]; exact hu.1.2.2.2.2.2.2.2.1⟩ (mr_e hu.1.2.2.1.2.1 hu.1.2.2.1.2.2.1 (fun x kx => hX _ _ (by have := (hT.g_ask x kx).1; omega)) (fun k j hk => hz k j (by unfold kK at hk; omega))) (mk_e hu.1.2.2.2.2.2.2.2.2.2.2.2.1 (fun k j hk => hz k j (by unfold kK at hk; omega))) (siM_e hu.2.2.1.1 (fun k j hk => hJ k j (by omega)) (fun k j hk => hz k j (by unfold kM at hk; omega))) ?_ (siY_e hu.2.2.1.2.2.2 (fun k j hk => hz k j (by unfold kY at hk; omega))) (fun e => hX _ _ (by have := (hT.g_ask _ (hu.2.2.1.2.2.1.2 e).1).1; omega))
    obtain ⟨⟨t1, t2⟩, ⟨t3, t4⟩, t5, t6⟩ := hu.2.2.1.2.1
    have c0 : J C 10 = I C 10 := hJ 0 10 (by omega)
    refine ⟨⟨by rw [hJ _ _ (by omega), hz _ _ (by omega)]; exact t1, fun j hj => ?_⟩, ⟨by rw [f2]; exact (if_pos ⟨rfl, rfl⟩).symm, fun j => ?_⟩, by rw [c0, hz 0 79 (by omega)]; exact t5, fun j hj => ?_⟩
    · rw [hz 0 2 (by omega)] at hj
      rw [hJ _ _ (by omega), hJ _ _ (by omega), hJ _ _ (by omega), hz 2 _ (by omega), hz 3 _ (by omega), hz 4 _ (by omega)]
      exact t2 j hj
    · rw [f3 j, t4 j]
      by_cases e : (Y 0 40).toNatClampNeg ≤ j ∧ j < (Y 0 40 + m).toNatClampNeg
      · rw [if_pos e]
        unfold feW
        rw [if_neg (by omega), if_pos ⟨rfl, e⟩]
      · rw [if_neg e]
        unfold feW
        rw [if_neg (by omega), if_neg (fun q => e q.2)]
    · rw [hz 0 79 (by omega)] at hj
      rw [hJ _ _ (by omega), hz 52 _ (by omega)]
      exact t6 j hj
theorem ge_check (hH : cH C c (n + 1) t K L I R) (hu : cuP C K L I R Y) {b a k : Int32} (hP : ∀ w n' t' K' L' J R', cH C c (n' + 1) t' K' L' J R' → cuP C K' L' J R' (ckY Y b a k) → P (some (.int w)) (n' + 1, t', K', L', J, R')) : a_does (d + 70) 164 [a_rf C, .int b, .int a, .int k] (n + 1, t, K, L, I, R) P := by
  have hT := hH.1
  have hS := hT.s
  have hc := hu.1
  have e6 : I (C + 1) 6 = Y 0 0 := hc.1.1
  have e5 : I (C + 14) 5 = Y 0 6 := hc.2.1.1
  have e10 : I C 10 = Y 0 79 := hu.2.2.1.2.1.2.2.1
  unfold ckY at hP
  refine kr_check hH (fun q J z => ?_) (fun q q2 J z => ?_) (fun q q2 q3 J z => ?_) (fun q1 q2 q3 g1 v => ?_)
  · rw [e5, e10] at q
    rw [if_neg (fun w => q w.1)] at hP
    exact hP _ n t K L J R z.1 (cu_re hH hu z)
  · rw [if_neg (fun w => w.2.1 q2)] at hP
    exact hP _ n t K L J R z.1 (cu_re hH hu z)
  · rw [e6] at q3
    rw [if_neg (fun w => w.2.2 q3)] at hP
    exact hP _ n t K L J R z.1 (cu_re hH hu z)
  · rw [e5, e10] at q1
    rw [e6] at q3
    rw [if_pos ⟨q1, q2, q3⟩] at hP
    refine hP _ n t K L _ R (cH_J hH g1) ?_
    have hJ : ∀ k j, ¬ (k = 0 ∧ j = 10) → a_ui I C 10 0 (C + k) j = I (C + k) j := fun k j hk => by rw [ui_ap, if_neg (by omega)]
    have hX : ∀ x j, C + 43 < x → a_ui I C 10 0 x j = I x j := fun x j hx => by rw [ui_ap, if_neg (by omega)]
    have hz : ∀ k j, ¬ (k = 0 ∧ j = 79) → upY Y 0 79 0 k j = Y k j := fun k j hk => up_no hk
    refine cu_gen hT hu ⟨fun k hk => funext (fun j => hz k j (by omega)), fun j hj => hz 0 j (by omega)⟩ (fE_of hH hX ⟨hJ 14 4 (by omega), hJ 14 5 (by omega)⟩ (hJ 7 3 (by omega))) (by rw [hJ 1 6 (by omega), hz 0 0 (by omega)]; exact hu.1.1.1) (fun j => by rw [hJ 2 j (by omega), hz 1 j (by omega)]; exact hu.1.1.2.1 j) (lsP_e hu.1.1.2.2 (fun j => hJ 3 j (by omega)) (fun k j hk => hz k j (by unfold kL at hk; omega))) ⟨by rw [hJ 14 6 (by omega), hz 0 9 (by omega)]; exact hu.1.2.1.2.1, by rw [hz 0 9 (by omega)]; exact hu.1.2.2.2.2.2.2.2.1⟩ (mr_e hu.1.2.2.1.2.1 hu.1.2.2.1.2.2.1 (fun x kx => hX _ _ (by have := (hT.g_ask x kx).1; omega)) (fun k j hk => hz k j (by unfold kK at hk; omega))) (mk_e hu.1.2.2.2.2.2.2.2.2.2.2.2.1 (fun k j hk => hz k j (by unfold kK at hk; omega))) (siM_e hu.2.2.1.1 (fun k j hk => hJ k j (by omega)) (fun k j hk => hz k j (by unfold kM at hk; omega))) ?_ (siY_e hu.2.2.1.2.2.2 (fun k j hk => hz k j (by unfold kY at hk; omega))) (fun e => hX _ _ (by have := (hT.g_ask _ (hu.2.2.1.2.2.1.2 e).1).1; omega))
    obtain ⟨⟨t1, t2⟩, ⟨t3, t4⟩, t5, t6⟩ := hu.2.2.1.2.1
    refine ⟨⟨by rw [hJ _ _ (by omega), hz _ _ (by omega)]; exact t1, fun j hj => ?_⟩, ⟨by rw [hJ _ _ (by omega), hz _ _ (by omega)]; exact t3, fun j => by rw [hJ _ _ (by omega), hz 27 _ (by omega)]; exact t4 j⟩, by rw [ui_ap, if_pos ⟨rfl, rfl⟩, up_at], fun j hj => ?_⟩
    · rw [hz 0 2 (by omega)] at hj
      rw [hJ _ _ (by omega), hJ _ _ (by omega), hJ _ _ (by omega), hz 2 _ (by omega), hz 3 _ (by omega), hz 4 _ (by omega)]
      exact t2 j hj
    · rw [up_at] at hj
      exact absurd hj (Nat.not_lt_zero _)
theorem ge_shiftOf (hH : cH C c (n + 1) t K L I R) (hu : cuP C K L I R Y) {s k x : Int32} (hP : ∀ w n' t' K' L' J R', cH C c (n' + 1) t' K' L' J R' → cuP C K' L' J R' (Y) → P (some (.int w)) (n' + 1, t', K', L', J, R')) : a_does (d + 70) 17 [a_rf C, .int s, .int x, .int k] (n + 1, t, K, L, I, R) P := kr_shiftOf hH (fun _ J z => hP _ n t K L J R z.1 (cu_re hH hu z)) (fun _ _ J z => hP _ n t K L J R z.1 (cu_re hH hu z)) (fun _ _ _ J z => hP _ n t K L J R z.1 (cu_re hH hu z)) (fun _ _ _ _ J z => hP _ n t K L J R z.1 (cu_re hH hu z)) (fun _ _ _ _ => hP _ n t K L I R hH hu)
end ZB0
section ZB1
variable {d n t M : Nat} {K L : Nat → Nat} {I I0 J J0 J1 J2 : Nat → Nat → Int32} {R : Nat → Nat → Nat} {P : Option Value → AH → Prop} {f : Nat → Int32} {e : Int32}
variable {Y Z W : Nat → Nat → Int32}
theorem gs_mk {M : Nat} (hg : gs M I0 I Y) (hR : mR M J) (hx : ∀ x j, (x < M ∨ M + 52 < x) → J x j = I x j) (h10 : Z 10 = Y 10) (h20 : Z 20 = Y 20) (h22 : Z 22 = Y 22) (e22 : ∀ j, J (M + 22) j = I (M + 22) j) (hw : ∀ k j, ps1 k j → J (M + k) j = Z k j) : gs M I0 J Z := ⟨hR, fun x j p => (hx x j p).trans (hg.2.1 x j p), hw, fun o o0 o1 o2 i i0 i1 => by
  rw [h20] at o2
  rw [h10] at i1
  rw [h22]
  exact (e22 _).trans (hg.2.2.2 o o0 o1 o2 i i0 i1)⟩
theorem gs_Y (hg : gs M I0 I Y) (h : Z = Y) : gs M I0 I Z := by rw [h]; exact hg
theorem xp_hours (hS : m_S M K L R) {I1 : Nat → Nat → Int32} (hm : okY Y) {c : Nat} (hc : c + 130 ≤ 84000) (hF : mF M c I1 I) (hg : gs M I0 I Y) {v : Int32} (hP : ∀ w J, J M 35 = I M 35 → gs M I0 J (hrY Y v) → P (some (.int w)) (n, t, K, L, J, R)) : a_does (d + 13) 170 [a_rf M, .int v] (n, t, K, L, I, R) P := by
  have hy := hm.1
  have h17 := hy.2.2.2.2.1
  have h10 := hy.2.1
  have h6 := hy.2.2.2.2.2.1
  have hl := hy.2.2.1
  have hrf : ∀ k : Nat, mF M (c + 120) I1 (a_ui I (M + 23) k (I (M + 23) k + 1)) ∧ gs M I0 (a_ui I (M + 23) k (I (M + 23) k + 1)) Y := fun k => ⟨mF_le (sF_refused hF) (by omega), gs_ui hg (sR_refused hg.1) (by omega) ⟨by unfold ps1; omega, by omega⟩⟩
  have e17 : I M 17 = Y 0 17 := hg.2.2.1 0 17 (by unfold ps1; omega)
  have e6 : I M 6 = Y 0 6 := hg.2.2.1 0 6 (by unfold ps1; omega)
  have e0 : I M 0 = Y 0 0 := hg.2.2.1 0 0 (by unfold ps1; omega)
  have m17 : ∀ x : Int32, (x ≤ Y 0 17 - 1) = (x < Y 0 17) := fun x => le_m1 h17
  have m6 : ∀ x : Int32, (x ≤ Y 0 6 - 1) = (x < Y 0 6) := fun x => le_m1 ⟨h6.1, Int32.le_trans h6.2 (by decide)⟩
  have m199 : ∀ x : Int32, (x ≤ 199) = (x < 200) := fun x => propext ⟨fun q => Int32.lt_of_le_of_lt q (by decide), fun q => by clear hP hrf hm hg hF; grind⟩
  have g0 := rg_now hg.1
  rw [e0] at g0
  unfold hrY at hP
  refine pe_hours (d := d + 11) hS (fun q => ?_) (fun q1 q2 => ?_) (fun q1 q2 => ?_)
  · refine hP _ _ (by rw [ui_ap, if_neg (by omega)]) ?_
    by_cases c : v < 0 ∨ 1600 - Y 0 0 < v
    · rw [if_pos c]
      exact (hrf 4).2
    · rw [if_neg c]
      exact gs_Y (hrf 4).2 (up_same (by clear hP hrf hm hy hl hg hF; grind))
  · rw [e0] at q2
    rw [if_pos (Or.inr q2)] at hP
    exact hP _ _ (by rw [ui_ap, if_neg (by omega)]) (hrf 6).2
  · rw [e0] at q2 ⊢
    rw [if_neg (fun q => q.elim (fun q => q1 (by clear hP hrf hm hy hl hg hF; grind)) q2)] at hP
    refine hP _ _ (by rw [ui_ap, if_neg (by omega)]) ?_
    exact gs_up2 hg (k := 0) (j := 0) (by omega) (by omega) (sR_now hg.1 (by clear hP hrf hm hy hl hg hF; grind))
theorem mR_rw1 (h : mR M I) {k : Nat} (hk : k = 1 ∨ k = 27 ∨ k = 35) (e : ∀ x j, ¬ x = M + k → J x j = I x j) : mR M J := by
  have e0 : ∀ j, J M j = I M j := fun j => e _ _ (by omega)
  have e1 : ∀ i, ¬ i = 1 → ¬ i = 27 → ¬ i = 35 → J (M + i) = I (M + i) := fun i a b c => funext (fun j => e _ _ (by omega))
  unfold mR at h ⊢
  simp only [e0, e1 7 (by decide) (by decide) (by decide), e1 8 (by decide) (by decide) (by decide), e1 10 (by decide) (by decide) (by decide), e1 16 (by decide) (by decide) (by decide), e1 20 (by decide) (by decide) (by decide), e1 21 (by decide) (by decide) (by decide), e1 29 (by decide) (by decide) (by decide), e1 40 (by decide) (by decide) (by decide), e1 41 (by decide) (by decide) (by decide), e1 44 (by decide) (by decide) (by decide), e1 49 (by decide) (by decide) (by decide), e1 50 (by decide) (by decide) (by decide)]
  exact h
theorem xp_mode (hS : m_S M K L R) {I1 : Nat → Nat → Int32} (hm : okY Y) {c : Nat} (hc : c + 130 ≤ 84000) (hF : mF M c I1 I) (hg : gs M I0 I Y) {a b m : Int32} (hP : ∀ w J, J M 35 = I M 35 → gs M I0 J (mdY Y a b m) → P (some (.int w)) (n, t, K, L, J, R)) : a_does (d + 13) 172 [a_rf M, .int a, .int b, .int m] (n, t, K, L, I, R) P := by
  have hy := hm.1
  have h17 := hy.2.2.2.2.1
  have h10 := hy.2.1
  have h6 := hy.2.2.2.2.2.1
  have hl := hy.2.2.1
  have hrf : ∀ k : Nat, mF M (c + 120) I1 (a_ui I (M + 23) k (I (M + 23) k + 1)) ∧ gs M I0 (a_ui I (M + 23) k (I (M + 23) k + 1)) Y := fun k => ⟨mF_le (sF_refused hF) (by omega), gs_ui hg (sR_refused hg.1) (by omega) ⟨by unfold ps1; omega, by omega⟩⟩
  have e17 : I M 17 = Y 0 17 := hg.2.2.1 0 17 (by unfold ps1; omega)
  have e6 : I M 6 = Y 0 6 := hg.2.2.1 0 6 (by unfold ps1; omega)
  have e0 : I M 0 = Y 0 0 := hg.2.2.1 0 0 (by unfold ps1; omega)
  have m17 : ∀ x : Int32, (x ≤ Y 0 17 - 1) = (x < Y 0 17) := fun x => le_m1 h17
  have m6 : ∀ x : Int32, (x ≤ Y 0 6 - 1) = (x < Y 0 6) := fun x => le_m1 ⟨h6.1, Int32.le_trans h6.2 (by decide)⟩
  have m199 : ∀ x : Int32, (x ≤ 199) = (x < 200) := fun x => propext ⟨fun q => Int32.lt_of_le_of_lt q (by decide), fun q => by clear hP hrf hm hg hF; grind⟩
  unfold mdY at hP
  refine pe_mode (d := d + 10) hS (fun q => ?_) (fun q1 q2 => ?_) (fun q1 q2 J f1 f2 => ?_)
  · rw [if_neg (fun w => q ⟨⟨w.1.1.1, by rw [m199]; exact w.1.1.2⟩, ⟨w.1.2.1.1, by rw [m199]; exact w.1.2.1.2⟩, w.1.2.2⟩)] at hP
    exact hP _ _ (by rw [ui_ap, if_neg (by omega)]) (hrf 1).2
  · rw [if_neg (fun w => q2 ⟨Int32.not_lt.mp (fun q => w.2 (Or.inl q)), Int32.not_lt.mp (fun q => w.2 (Or.inr q))⟩)] at hP
    exact hP _ _ (by rw [ui_ap, if_neg (by omega)]) (hrf 2).2
  · rw [m199, m199] at q1
    rw [if_pos ⟨q1, fun q => q.elim (fun q => absurd q2.1 (Int32.not_le.mpr q)) (fun q => absurd q2.2 (Int32.not_le.mpr q))⟩] at hP
    refine hP _ J (f1 _ _ (by omega)) (gs_mk hg (mR_rw1 hg.1 (k := 1) (by omega) f1) (fun x j p => f1 _ _ (by omega)) (funext (fun j => if_neg (by omega))) (funext (fun j => if_neg (by omega))) (funext (fun j => if_neg (by omega))) (fun j => f1 _ _ (by omega)) (fun k j p => ?_))
    unfold mdW
    by_cases e : k = 1
    · rw [e, f2]
      by_cases e2 : a.toNatClampNeg ≤ j ∧ j ≤ b.toNatClampNeg
      · rw [if_pos e2, if_pos ⟨rfl, e2⟩]
      · rw [if_neg e2, if_neg (fun q => e2 q.2)]
        exact hg.2.2.1 1 j (by unfold ps1; omega)
    · rw [if_neg (fun q => e q.1), f1 _ _ (by omega)]
      exact hg.2.2.1 k j p
theorem xp_kin (hS : m_S M K L R) {I1 : Nat → Nat → Int32} (hm : okY Y) {c : Nat} (hc : c + 130 ≤ 84000) (hF : mF M c I1 I) (hg : gs M I0 I Y) {r g : Int32} (hP : ∀ w J, J M 35 = I M 35 → gs M I0 J (kiY Y r g) → P (some (.int w)) (n, t, K, L, J, R)) : a_does (d + 13) 213 [a_rf M, .int r, .int g] (n, t, K, L, I, R) P := by
  have hy := hm.1
  have h17 := hy.2.2.2.2.1
  have h10 := hy.2.1
  have h6 := hy.2.2.2.2.2.1
  have hl := hy.2.2.1
  have hrf : ∀ k : Nat, mF M (c + 120) I1 (a_ui I (M + 23) k (I (M + 23) k + 1)) ∧ gs M I0 (a_ui I (M + 23) k (I (M + 23) k + 1)) Y := fun k => ⟨mF_le (sF_refused hF) (by omega), gs_ui hg (sR_refused hg.1) (by omega) ⟨by unfold ps1; omega, by omega⟩⟩
  have e17 : I M 17 = Y 0 17 := hg.2.2.1 0 17 (by unfold ps1; omega)
  have e6 : I M 6 = Y 0 6 := hg.2.2.1 0 6 (by unfold ps1; omega)
  have e0 : I M 0 = Y 0 0 := hg.2.2.1 0 0 (by unfold ps1; omega)
  have m17 : ∀ x : Int32, (x ≤ Y 0 17 - 1) = (x < Y 0 17) := fun x => le_m1 h17
  have m6 : ∀ x : Int32, (x ≤ Y 0 6 - 1) = (x < Y 0 6) := fun x => le_m1 ⟨h6.1, Int32.le_trans h6.2 (by decide)⟩
  have m199 : ∀ x : Int32, (x ≤ 199) = (x < 200) := fun x => propext ⟨fun q => Int32.lt_of_le_of_lt q (by decide), fun q => by clear hP hrf hm hg hF; grind⟩
  unfold kiY at hP
  refine pe_kin (d := d + 10) hS (fun q => ?_) (fun q1 q2 => ?_)
  · rw [if_neg q] at hP
    exact hP _ _ (by rw [ui_ap, if_neg (by omega)]) (hrf 1).2
  · rw [if_pos ⟨q1, q2⟩] at hP
    obtain ⟨ex, -⟩ := ix_60 (r := r) (g := g) ⟨q1.1, by clear hP hrf hm hy hl hg hF; grind⟩ ⟨q2.1, by clear hP hrf hm hy hl hg hF; grind⟩
    rw [ex, show (1 : Int32) &&& 1 = 1 by decide]
    exact hP _ _ (by rw [ui_ap, if_neg (by omega)]) (gs_up2 hg (by omega) (by omega) (sR_isKin hg.1))
theorem xp_feed (hS : m_S M K L R) {I1 : Nat → Nat → Int32} (hm : okY Y) {c : Nat} (hc : c + 130 ≤ 84000) (hF : mF M c I1 I) (hg : gs M I0 I Y) {m : Int32} {w : Int64} (hP : ∀ v J, J M 35 = I M 35 → gs M I0 J (feY Y m w) → P (some (.int v)) (n, t, K, L, J, R)) : a_does (d + 16) 200 [a_rf M, .int m, .long w] (n, t, K, L, I, R) P := by
  have hy := hm.1
  have h17 := hy.2.2.2.2.1
  have h10 := hy.2.1
  have h6 := hy.2.2.2.2.2.1
  have hl := hy.2.2.1
  have hrf : ∀ k : Nat, mF M (c + 120) I1 (a_ui I (M + 23) k (I (M + 23) k + 1)) ∧ gs M I0 (a_ui I (M + 23) k (I (M + 23) k + 1)) Y := fun k => ⟨mF_le (sF_refused hF) (by omega), gs_ui hg (sR_refused hg.1) (by omega) ⟨by unfold ps1; omega, by omega⟩⟩
  have e17 : I M 17 = Y 0 17 := hg.2.2.1 0 17 (by unfold ps1; omega)
  have e6 : I M 6 = Y 0 6 := hg.2.2.1 0 6 (by unfold ps1; omega)
  have e0 : I M 0 = Y 0 0 := hg.2.2.1 0 0 (by unfold ps1; omega)
  have m17 : ∀ x : Int32, (x ≤ Y 0 17 - 1) = (x < Y 0 17) := fun x => le_m1 h17
  have m6 : ∀ x : Int32, (x ≤ Y 0 6 - 1) = (x < Y 0 6) := fun x => le_m1 ⟨h6.1, Int32.le_trans h6.2 (by decide)⟩
  have m199 : ∀ x : Int32, (x ≤ 199) = (x < 200) := fun x => propext ⟨fun q => Int32.lt_of_le_of_lt q (by decide), fun q => by clear hP hrf hm hg hF; grind⟩
  have e40 : I M 40 = Y 0 40 := hg.2.2.1 0 40 (by unfold ps1; omega)
  unfold feY at hP
  refine pe_feed hS hg.1 (rg_tapeMany hg.1) (fun q => ?_) (fun q1 q2 => ?_) (fun q1 q2 J f0 f1 f2 f3 => ?_)
  · rw [if_pos (Or.inl q)] at hP
    exact hP _ _ (by rw [ui_ap, if_neg (by omega)]) (hrf 4).2
  · rw [e40] at q2
    rw [if_pos (Or.inr q2)] at hP
    exact hP _ _ (by rw [ui_ap, if_neg (by omega)]) (hrf 6).2
  · rw [e40] at q2 f2 f3
    rw [if_neg (fun q => q.elim q1 q2)] at hP
    refine hP _ J (f1 _ _ (by omega) (by omega)) (gs_mk hg f0 (fun x j p => f1 _ _ (by omega) (by omega)) ?_ ?_ ?_ (fun j => f1 _ _ (by omega) (by omega)) (fun k j p => ?_))
    · funext j
      unfold feW
      rw [if_neg (by omega), if_neg (by omega)]
    · funext j
      unfold feW
      rw [if_neg (by omega), if_neg (by omega)]
    · funext j
      unfold feW
      rw [if_neg (by omega), if_neg (by omega)]
    · unfold feW
      by_cases e : k = 0 ∧ j = 40
      · rw [if_pos e, e.1, e.2]
        exact f2
      · rw [if_neg e]
        by_cases e2 : k = 27
        · rw [e2, f3 j]
          by_cases e3 : (Y 0 40).toNatClampNeg ≤ j ∧ j < (Y 0 40 + m).toNatClampNeg
          · rw [if_pos e3, if_pos ⟨rfl, e3⟩]
          · rw [if_neg e3, if_neg (fun q => e3 q.2)]
            exact hg.2.2.1 27 j (by unfold ps1; omega)
        · rw [if_neg (fun q => e2 q.1), f1 _ _ (by omega) (by omega)]
          exact hg.2.2.1 k j p
theorem xp_check (hS : m_S M K L R) {I1 : Nat → Nat → Int32} (hm : okY Y) {c : Nat} (hc : c + 130 ≤ 84000) (hF : mF M c I1 I) (hg : gs M I0 I Y) {b a k : Int32} (hP : ∀ w J, J M 35 = I M 35 → gs M I0 J (ckY Y b a k) → P (some (.int w)) (n, t, K, L, J, R)) : a_does (d + 13) 260 [a_rf M, .int b, .int a, .int k] (n, t, K, L, I, R) P := by
  have hy := hm.1
  have h17 := hy.2.2.2.2.1
  have h10 := hy.2.1
  have h6 := hy.2.2.2.2.2.1
  have hl := hy.2.2.1
  have hrf : ∀ k : Nat, mF M (c + 120) I1 (a_ui I (M + 23) k (I (M + 23) k + 1)) ∧ gs M I0 (a_ui I (M + 23) k (I (M + 23) k + 1)) Y := fun k => ⟨mF_le (sF_refused hF) (by omega), gs_ui hg (sR_refused hg.1) (by omega) ⟨by unfold ps1; omega, by omega⟩⟩
  have e17 : I M 17 = Y 0 17 := hg.2.2.1 0 17 (by unfold ps1; omega)
  have e6 : I M 6 = Y 0 6 := hg.2.2.1 0 6 (by unfold ps1; omega)
  have e0 : I M 0 = Y 0 0 := hg.2.2.1 0 0 (by unfold ps1; omega)
  have m17 : ∀ x : Int32, (x ≤ Y 0 17 - 1) = (x < Y 0 17) := fun x => le_m1 h17
  have m6 : ∀ x : Int32, (x ≤ Y 0 6 - 1) = (x < Y 0 6) := fun x => le_m1 ⟨h6.1, Int32.le_trans h6.2 (by decide)⟩
  have m199 : ∀ x : Int32, (x ≤ 199) = (x < 200) := fun x => propext ⟨fun q => Int32.lt_of_le_of_lt q (by decide), fun q => by clear hP hrf hm hg hF; grind⟩
  have e79 : I M 79 = Y 0 79 := hg.2.2.1 0 79 (by unfold ps1; omega)
  have g79 := rg_rowMany hg.1
  rw [e79] at g79
  have ec : ((0 ≤ b ∧ b ≤ I M 6 - 1) ∧ (0 ≤ a ∧ a ≤ 199) ∧ a + I M 79 - 1 ≤ 199) ↔ ((0 ≤ b ∧ b < Y 0 6) ∧ (0 ≤ a ∧ a < 200) ∧ a + Y 0 79 ≤ 200) := by
    rw [e6, e79, m6, m199]
    clear hP hrf hm hy hl hg hF
    grind
  unfold ckY at hP
  refine pe_check (d := d + 10) hS hg.1 (fun q => ?_) (fun q1 q2 => ?_) (fun q1 q2 q3 => ?_) (fun q1 q2 q3 v => ?_)
  · rw [if_neg (fun w => q (ec.mpr w.1))] at hP
    exact hP _ _ (by rw [ui_ap, if_neg (by omega)]) (hrf 1).2
  · rw [if_neg (fun w => w.2.1 q2)] at hP
    exact hP _ _ (by rw [ui_ap, if_neg (by omega)]) (hrf 4).2
  · rw [e0] at q3
    rw [if_neg (fun w => w.2.2 q3)] at hP
    exact hP _ _ (by rw [ui_ap, if_neg (by omega)]) (hrf 6).2
  · rw [e0] at q3
    rw [if_pos ⟨ec.mp q1, q2, q3⟩] at hP
    exact hP _ _ (by rw [ui_ap, if_neg (by omega)]) (gs_up2 hg (k := 0) (j := 79) (by omega) (by omega) (sR_rowMany hg.1 (by decide)))
end ZB1
end
section
/-! trip: hours lost bit by bit -/
section ZC0
variable {d n t C c : Nat} {K L : Nat → Nat} {I I0 J J0 J1 J2 : Nat → Nat → Int32} {R : Nat → Nat → Nat} {P : Option Value → AH → Prop}
variable {Y Z W : Nat → Nat → Int32} {R' R1 : Nat → Nat → Nat} {K' L' : Nat → Nat}
/-- hours lost are kept bit by bit -/
def lbP (C : Nat) (I Y : Nat → Nat → Int32) : Prop := ∀ s k : Nat, s < 200 → k < 8 → (bq (I (C + 3) s) k = true ↔ lkY Y (Int32.ofNat (8 * s + k)) = 1)
theorem cl_on2 {m : Nat} (h : m < 100000) : (Int32.ofNat m).toNatClampNeg = m ∧ (Int32.ofNat m).toInt = m := by
  have e : (Int32.ofNat m).toInt = m := by
    rw [Int32.toInt_ofNat', show Int32.size = 4294967296 from rfl]
    simp only [Int.bmod_def]
    omega
  refine ⟨?_, e⟩
  show (Int32.ofNat m).toInt.toNat = m
  rw [e]
  omega
theorem d8 {i : Int32} (h0 : 0 ≤ i) (h1 : i < 1600) : (i / 8).toNatClampNeg = i.toNatClampNeg / 8 ∧ i - i / 8 * 8 = Int32.ofNat (i.toNatClampNeg % 8) ∧ i.toNatClampNeg < 1600 := by
  obtain ⟨x1, x2⟩ := h8 h0 h1
  have c0 : (0 : Int32).toInt = 0 := rfl
  have c8 : (8 : Int32).toInt = 8 := rfl
  have c16 : (1600 : Int32).toInt = 1600 := rfl
  have e0 := Int32.le_iff_toInt_le.mp h0
  have e1 := Int32.lt_iff_toInt_lt.mp h1
  rw [c0] at e0
  rw [c16] at e1
  have e := ti_div h0 (show (0 : Int32) < 8 by decide)
  rw [c8] at e
  have em : (i / 8 * 8).toInt = i.toInt / 8 * 8 := by
    rw [Int32.toInt_mul, c8, e]
    simp only [Int.bmod_def]
    omega
  have es : (i - i / 8 * 8).toInt = i.toInt - i.toInt / 8 * 8 := by
    rw [Int32.toInt_sub, em]
    simp only [Int.bmod_def]
    omega
  have ec : i.toNatClampNeg = i.toInt.toNat := rfl
  refine ⟨?_, Int32.toInt_inj.mp ?_, by omega⟩
  · show (i / 8).toInt.toNat = _
    rw [e, ec]
    omega
  · rw [es, (cl_on2 (m := i.toNatClampNeg % 8) (by omega)).2, ec]
    omega
theorem le_found_58 {h v : Int32} (h0 : 0 ≤ h ∧ h ≤ 1600) (hv : 1 ≤ v ∧ v ≤ 60) (hP : ∀ J, cT C K L J R → (∀ x j, ¬ x = C + 3 → J x j = I x j) → (∀ s k : Nat, s < 200 → k < 8 → (bq (J (C + 3) s) k = true ↔ bq (I (C + 3) s) k = true ∨ (h.toNatClampNeg ≤ 8 * s + k ∧ 8 * s + k < (h + v).toNatClampNeg))) → P (some (.int (J (C + 1) 5))) (n, t, K, L, J, R)) : ∀ i : Int32, i ≤ 1600 → ∀ J, h ≤ i → i ≤ h + v → cT C K L J R → (∀ x j, ¬ x = C + 3 → J x j = I x j) → (∀ s k : Nat, s < 200 → k < 8 → (bq (J (C + 3) s) k = true ↔ bq (I (C + 3) s) k = true ∨ (h.toNatClampNeg ≤ 8 * s + k ∧ 8 * s + k < (i).toNatClampNeg))) → a_at d (a_xm a_m16) 58 [some (a_rf (C + 1)), some (.int h), some (.int v), some (.int i)] [] (n, t, K, L, J, R) P := by
  have hhv : 0 ≤ h + v ∧ h + v ≤ 1660 := by clear hP; grind
  refine up_ind 1600 (fun i hk ih => ?_)
  intro J q0 q1 hT hF hB
  have hS := hT.s
  have n8 : ¬ (8 : Int32) = 0 := by decide
  have i0 : 0 ≤ i := Int32.le_trans h0.1 q0
  have hend : (h + v ≤ i ∨ 1600 ≤ i) → P (some (.int (J (C + 1) 5))) (n, t, K, L, J, R) := fun w => by
    refine hP J hT hF (fun s k hs hk8 => (hB s k hs hk8).trans ⟨fun z => z.imp id (fun z => ⟨z.1, ?_⟩), fun z => z.imp id (fun z => ⟨z.1, ?_⟩)⟩)
    · have := cl_le0 i0 q1
      omega
    · rcases w with w | w
      · rw [show i = h + v from by clear ih hP hF hB; grind]
        exact z.2
      · have := cl_le0 (show (0 : Int32) ≤ 1600 by decide) w
        rw [show (1600 : Int32).toNatClampNeg = 1600 from rfl] at this
        omega
  have hgo : i < h + v → i < 1600 → a_at d (a_xm a_m16) 58 [some (a_rf (C + 1)), some (.int h), some (.int v), some (.int (i + 1))] [] (n, t, K, L, (a_ui J (C + 3) (i / 8).toNatClampNeg (J (C + 3) (i / 8).toNatClampNeg ||| ((1 : Int32) <<< ((i - i / 8 * 8) &&& 31)))), R) P := fun w1 w2 => by
    obtain ⟨x1, x2⟩ := h8 i0 w2
    obtain ⟨e1, e2, e3⟩ := d8 i0 w2
    have g := or8 (hT.g_lost (i / 8).toNatClampNeg) x2
    have eu := cl_up i0 (s := i) (by clear ih hP hF hB hend; grind)
    refine ih w2 _ (by clear ih hP hF hB hend; grind) (by clear ih hP hF hB hend; grind) (sT_Beam_lost hT (k := (i / 8).toNatClampNeg) g) (fun x j e => by rw [ui_ap, if_neg (fun q => e q.1)]; exact hF x j e) (fun s k hs hk8 => ?_)
    rw [ui_ap, eu, e1, e2]
    by_cases es : s = i.toNatClampNeg / 8
    · rw [if_pos ⟨rfl, es⟩, bq_set (by omega) (by omega), Bool.or_eq_true, ← es, hB s k hs hk8]
      by_cases ek : k = i.toNatClampNeg % 8
      · have a1 := cl_le0 h0.1 q0
        exact ⟨fun _ => Or.inr ⟨by omega, by omega⟩, fun _ => Or.inr (decide_eq_true ek)⟩
      · rw [decide_eq_false ek]
        exact ⟨fun z => z.elim (fun z => z.imp id (fun z => ⟨z.1, by omega⟩)) (fun z => absurd z Bool.false_ne_true), fun z => Or.inl (z.imp id (fun z => ⟨z.1, by omega⟩))⟩
    · rw [if_neg (fun q => es q.2), hB s k hs hk8]
      exact ⟨fun z => z.imp id (fun z => ⟨z.1, by omega⟩), fun z => z.imp id (fun z => ⟨z.1, by omega⟩)⟩
  have hx : i < 1600 → 0 ≤ i / 8 ∧ i / 8 < 200 := fun w => (h8 i0 w).1
  clear ih hP hF hB
  rw [q16_58]
  simp only [q16_59, q16_60, q16_61, q16_62, q16_65, q16_66, q16_69, q16_72, q16_73, q16_76, q16_77, q16_79, q16_80, q16_81, q16_82, q16_83, q16_84, q16_86, q16_87, q16_88, q16_89, q16_90, q16_93, q16_96, q16_97, q16_100, k_1 hS, z_1, r_1_1 hS, k_3 hS, l_3 hS, z_3, as_nil, as_i, as_r, Nat.reduceAdd, Nat.reduceLeDiff, z_eq0, z_eq1, z_or, z_em, Classical.not_not, not_false_eq_true, not_true_eq_false, true_and, and_true, false_and, and_false, and_self, true_implies, false_implies, implies_true, Option.toList_some, Option.toList_none, List.cons_append, List.nil_append, Nat.add_eq_zero_iff, a_nl_i, a_nl_r, a_nl_n, true_or, or_true, eq_self, a_isRA_22, a_isRA_24, a_isRA_32, a_isA_20, ok_4, ok_5, ok_6, ok_7, ok_9, ok_20, ok_21, ok_30, ok_50, ok_180, ok_192, ok_200, ui_ap, cc_ne, cc_n0, cc_0n, Nat.reduceEqDiff, reduceIte, if_true, if_false, n8]
  refine ⟨fun w => hend (Or.inl w), fun w1 => ⟨fun w => hend (Or.inr w), fun w2 => ?_⟩⟩
  have hgo := hgo (Int32.not_le.mp w1) (Int32.not_le.mp w2)
  have hx := hx (Int32.not_le.mp w2)
  repeat' first
    | with_reducible apply And.intro
    | exact hgo
    | exact hx.1
    | exact hx.2
theorem ce_found {h v : Int32} (h0 : 0 ≤ h ∧ h ≤ 1600) (hv : 1 ≤ v ∧ v ≤ 60) (hT : cT C K L I R) (hc : I (C + 1) 5 < 20) (hP : ∀ J, cT C K L J R → (∀ x j, ¬ x = C + 3 → J x j = tX C I h v x j) → (∀ s k : Nat, s < 200 → k < 8 → (bq (J (C + 3) s) k = true ↔ bq (I (C + 3) s) k = true ∨ (h.toNatClampNeg ≤ 8 * s + k ∧ 8 * s + k < (h + v).toNatClampNeg))) → P (some (.int (I (C + 1) 5 + 1))) (n, t, K, L, J, R)) : a_does (d + 1) 16 [a_rf (C + 1), .int h, .int v] (n, t, K, L, I, R) P := by
  have hS := hT.s
  have g := hT.g_trips
  have hc2 : ¬ 20 ≤ I (C + 1) 5 := Int32.not_le.mpr hc
  have hT2 : cT C K L (tX C I h v) R := sT_Beam_trips (sT_Beam_tripFound (sT_Beam_tripTill (sT_Beam_tripFrom hT))) (by clear hP hT hS; grind)
  have i3 : ∀ j, tX C I h v (C + 3) j = I (C + 3) j := fun j => tX_ne (by omega) (by omega) (by omega) (by omega)
  have hl := le_found_58 (d := d) (h := h) (v := v) (I := tX C I h v) (n := n) (t := t) (K := K) (L := L) (R := R) (P := P) (C := C) h0 hv (fun J g1 g2 g3 => by
    have e5 : J (C + 1) 5 = I (C + 1) 5 + 1 := by rw [g2 _ _ (by omega)]; exact tX_1
    rw [e5]
    exact hP J g1 g2 (fun s k hs hk => by rw [g3 s k hs hk, i3])) h h0.2 _ (Int32.le_refl _) (by clear hP hT hS hT2; grind) hT2 (fun _ _ _ => rfl) (fun s k hs hk => ⟨fun z => Or.inl z, fun z => z.elim id (fun z => by omega)⟩)
  unfold tX at hl
  clear hP hT2 i3
  rw [a_enter1 (M := a_m16) rfl (a_cat_rf (a_cat_int (a_cat_int a_cat_nil))) (show 3 ≤ 4 by decide)]
  show a_at _ (a_xm a_m16) 0 [some (a_rf (C + 1)), some (.int h), some (.int v), none] [] _ _
  simp only [q16_0, q16_1, q16_4, q16_6, q16_9, q16_10, q16_13, q16_14, q16_17, q16_18, q16_19, q16_20, q16_23, q16_24, q16_27, q16_28, q16_29, q16_30, q16_31, q16_32, q16_33, q16_34, q16_37, q16_38, q16_41, q16_42, q16_45, q16_46, q16_47, q16_48, q16_51, q16_52, q16_53, q16_56, q16_57, k_1 hS, z_1, r_1_2 hS, k_4 hS, l_4 hS, z_4, r_1_3 hS, k_5 hS, l_5 hS, z_5, r_1_4 hS, k_6 hS, l_6 hS, z_6, as_nil, as_i, as_r, Nat.reduceAdd, Nat.reduceLeDiff, z_eq0, z_eq1, z_or, z_em, Classical.not_not, not_false_eq_true, not_true_eq_false, true_and, and_true, false_and, and_false, and_self, true_implies, false_implies, implies_true, Option.toList_some, Option.toList_none, List.cons_append, List.nil_append, Nat.add_eq_zero_iff, a_nl_i, a_nl_r, a_nl_n, true_or, or_true, eq_self, a_isRA_22, a_isRA_24, a_isRA_32, a_isA_20, ok_4, ok_5, ok_6, ok_7, ok_9, ok_20, ok_21, ok_30, ok_50, ok_180, ok_192, ok_200, ui_ap, cc_ne, cc_n0, cc_0n, Nat.reduceEqDiff, reduceIte, if_true, if_false, hc, hc2, g.1]
  repeat' first
    | with_reducible apply And.intro
    | exact hl
    | decide
theorem lhu_app {f e g : Nat → Int32} {k h : Int32} : ∀ z i, lhu f e g k h (z + 1) i = 1 ↔ lhu f e g k h z i = 1 ∨ (g (i + z) ≤ k ∧ f (i + z) ≤ h ∧ h ≤ e (i + z)) := by
  intro z
  induction z with
  | zero =>
    intro i
    unfold lhu
    by_cases c : g i ≤ k ∧ f i ≤ h ∧ h ≤ e i
    · rw [if_pos c]
      exact ⟨fun _ => Or.inr c, fun _ => rfl⟩
    · rw [if_neg c]
      unfold lhu
      exact ⟨fun q => absurd q (by decide), fun q => q.elim (fun q => absurd q (by decide)) (fun q => absurd q c)⟩
  | succ z ih =>
    intro i
    rw [show i + (z + 1) = (i + 1) + z by omega]
    have e1 : lhu f e g k h (z + 1 + 1) i = if g i ≤ k ∧ f i ≤ h ∧ h ≤ e i then 1 else lhu f e g k h (z + 1) (i + 1) := rfl
    have e2 : lhu f e g k h (z + 1) i = if g i ≤ k ∧ f i ≤ h ∧ h ≤ e i then 1 else lhu f e g k h z (i + 1) := rfl
    rw [e1, e2]
    by_cases c : g i ≤ k ∧ f i ≤ h ∧ h ≤ e i
    · rw [if_pos c, if_pos c]
      exact ⟨fun _ => Or.inl rfl, fun _ => rfl⟩
    · rw [if_neg c, if_neg c]
      exact ih (i + 1)
def tpW (Y : Nat → Nat → Int32) (h v : Int32) : Nat → Nat → Int32 := upY (upY (upY (upY Y 2 (Y 0 2).toNatClampNeg h) 3 (Y 0 2).toNatClampNeg v) 4 (Y 0 2).toNatClampNeg (Y 0 0)) 0 2 (Y 0 2 + 1)
def tpY (Y : Nat → Nat → Int32) (h v : Int32) : Nat → Nat → Int32 := if (h < 0 ∨ v < 1) ∨ (Y 0 0 < h ∨ 60 < v ∨ Y 0 2 = 20) then Y else tpW Y h v
theorem tp_no {h v : Int32} {k j : Nat} (hk : ¬ (k = 0 ∧ j = 2) ∧ ¬ ((2 ≤ k ∧ k ≤ 4) ∧ j = (Y 0 2).toNatClampNeg)) : tpW Y h v k j = Y k j := by
  unfold tpW
  rw [up_no hk.1, up_no (by omega), up_no (by omega), up_no (by omega)]
theorem tp_at {h v : Int32} : tpW Y h v 2 (Y 0 2).toNatClampNeg = h ∧ tpW Y h v 3 (Y 0 2).toNatClampNeg = v ∧ tpW Y h v 4 (Y 0 2).toNatClampNeg = Y 0 0 ∧ tpW Y h v 0 2 = Y 0 2 + 1 := by
  unfold tpW
  refine ⟨?_, ?_, ?_, up_at⟩
  · rw [up_no (by omega), up_no (by omega), up_no (by omega), up_at]
  · rw [up_no (by omega), up_no (by omega), up_at]
  · rw [up_no (by omega), up_at]
theorem lk_tp {h v : Int32} (h2 : 0 ≤ Y 0 2 ∧ Y 0 2 < 20) (x : Int32) : lkY (tpW Y h v) x = 1 ↔ lkY Y x = 1 ∨ (h ≤ x ∧ x ≤ h + v - 1) := by
  obtain ⟨a1, a2, a3, a4⟩ := tp_at (Y := Y) (h := h) (v := v)
  have e0 : tpW Y h v 0 0 = Y 0 0 := tp_no (by omega)
  unfold lkY
  rw [a4, e0, (lp_st h2.1 h2.2).2.2.2, lhu_app, Nat.zero_add]
  show _ ∨ (tpW Y h v 4 (Y 0 2).toNatClampNeg ≤ _ ∧ tpW Y h v 2 (Y 0 2).toNatClampNeg ≤ x ∧ x ≤ tpW Y h v 2 (Y 0 2).toNatClampNeg + tpW Y h v 3 (Y 0 2).toNatClampNeg - 1) ↔ _
  rw [a1, a2, a3, lhu_eq (f' := Y 2) (e' := fun j => Y 2 j + Y 3 j - 1) (g' := Y 4) _ 0 (fun j _ hj => by
    show _ ∧ _ ∧ x ≤ tpW Y h v 2 j + tpW Y h v 3 j - 1 ↔ _
    rw [tp_no (by omega), tp_no (by omega), tp_no (by omega)])]
  exact ⟨fun q => q.imp id (fun q => q.2), fun q => q.imp id (fun q => ⟨Int32.le_refl _, q⟩)⟩
theorem lk_01 (x : Int32) : lkY Y x = 0 ∨ lkY Y x = 1 := lhu_01 _ _
def b8 (x : Int32) (k : Nat) : Int32 := if bq x k = true then 1 else 0
theorem bcf_k8 : ∀ a : Fin 256, bcf (Int32.ofNat a.val) = 0 + b8 (Int32.ofNat a.val) 0 + b8 (Int32.ofNat a.val) 1 + b8 (Int32.ofNat a.val) 2 + b8 (Int32.ofNat a.val) 3 + b8 (Int32.ofNat a.val) 4 + b8 (Int32.ofNat a.val) 5 + b8 (Int32.ofNat a.val) 6 + b8 (Int32.ofNat a.val) 7 := by decide +kernel
theorem ls_lb (hl : ∀ j, 0 ≤ I (C + 3) j ∧ I (C + 3) j ≤ 255) (h : lbP C I Y) : lsP C I Y := fun s s0 s1 => by
  have hx := hl s.toNatClampNeg
  have hb := h s.toNatClampNeg
  have s200 : s.toNatClampNeg < 200 := show _ < (200 : Int32).toNatClampNeg from cl_lt s0 s1
  generalize I (C + 3) s.toNatClampNeg = x at hx hb
  have c0 : (0 : Int32).toInt = 0 := rfl
  have c255 : (255 : Int32).toInt = 255 := rfl
  have c200 : (200 : Int32).toInt = 200 := rfl
  have e0 := Int32.le_iff_toInt_le.mp hx.1
  have e1 := Int32.le_iff_toInt_le.mp hx.2
  have q0 := Int32.le_iff_toInt_le.mp s0
  have q1 := Int32.lt_iff_toInt_lt.mp s1
  rw [c0] at e0 q0
  rw [c255] at e1
  rw [c200] at q1
  have ex : x = Int32.ofNat (⟨x.toInt.toNat, by omega⟩ : Fin 256).val := Int32.toInt_inj.mp (by
    rw [Int32.toInt_ofNat', show Int32.size = 4294967296 from rfl]
    simp only [Int.bmod_def]
    show x.toInt = _
    omega)
  have key := bcf_k8 ⟨x.toInt.toNat, by omega⟩
  rw [← ex] at key
  have e8 : ∀ k : Nat, k < 8 → 8 * s + Int32.ofNat k = Int32.ofNat (8 * s.toNatClampNeg + k) := fun k hk => by
    refine Int32.toInt_inj.mp ?_
    rw [(cl_on2 (by omega)).2, Int32.toInt_add, Int32.toInt_mul, show (8 : Int32).toInt = 8 from rfl, (cl_on2 (m := k) (by omega)).2]
    show _ = ((8 * s.toInt.toNat + k : Nat) : Int)
    simp only [Int.bmod_def]
    omega
  have q : ∀ k : Nat, k < 8 → lkY Y (8 * s + Int32.ofNat k) = b8 x k := fun k hk => by
    rw [e8 k hk]
    unfold b8
    by_cases c : bq x k = true
    · rw [if_pos c]
      exact (hb k s200 hk).mp c
    · rw [if_neg c]
      exact (lk_01 _).resolve_right (fun w => c ((hb k s200 hk).mpr w))
  rw [key, ← q 0 (by omega), ← q 1 (by omega), ← q 2 (by omega), ← q 3 (by omega), ← q 4 (by omega), ← q 5 (by omega), ← q 6 (by omega), ← q 7 (by omega)]
  rfl
end ZC0
section ZC1
variable {d n t C c n0 n' n'' t' : Nat} {K L K0 L0 K' L' K'' L'' : Nat → Nat} {I I0 J J0 J1 J2 : Nat → Nat → Int32} {R R0 R' R'' : Nat → Nat → Nat} {P : Option Value → AH → Prop}
theorem ky_trip (hH : cH C c (n + 1) t K L I R) {h v : Int32} (h1 : (h < 0 ∨ v < 1) → ∀ J, rfQ C c (n + 1) t K L I R J → P (some (.int (-4))) (n + 1, t, K, L, J, R)) (h2 : ¬ (h < 0 ∨ v < 1) → (I (C + 1) 6 < h ∨ 60 < v ∨ 20 ≤ I (C + 1) 5) → ∀ J, rfQ C c (n + 1) t K L I R J → P (some (.int (-6))) (n + 1, t, K, L, J, R)) (hP : ¬ (h < 0 ∨ v < 1) → ¬ (I (C + 1) 6 < h ∨ 60 < v ∨ 20 ≤ I (C + 1) 5) → ∀ J, cH C c (n + 1) t K L J R → (∀ x j, ¬ x = C + 3 → J x j = tX C I h v x j) → (∀ s k : Nat, s < 200 → k < 8 → (bq (J (C + 3) s) k = true ↔ bq (I (C + 3) s) k = true ∨ (h.toNatClampNeg ≤ 8 * s + k ∧ 8 * s + k < (h + v).toNatClampNeg))) → P (some (.int (I (C + 1) 5 + 1))) (n + 1, t, K, L, J, R)) : a_does (d + 70) 15 [a_rf C, .int h, .int v] (n + 1, t, K, L, I, R) P := by
  have hT := hH.1
  have hS := hT.s
  have hZ := cZ_refl hH
  have g := hT.g_now
  have gneg : ¬ h < 0 → 1 ≤ v → ¬ (h < 0 ∨ v < 1) := fun a b e => e.elim a (fun x => absurd b (Int32.not_le.mpr x))
  have hgo : ¬ h < 0 → 1 ≤ v → ¬ I (C + 1) 6 < h → ¬ 60 < v → I (C + 1) 5 < 20 → a_at (d + 69) (a_xm a_m15) 52 [some (a_rf C), some (.int h), some (.int v)] [] (n + 1, t, K, L, I, R) P := fun a b c1 d1 e1 => by
    have hP := hP (gneg a b) (fun e => e.elim c1 (fun e => e.elim d1 (fun x => absurd e1 (Int32.not_lt.mpr x))))
    simp only [q15_52, q15_53, q15_56, q15_57, q15_58, k_0 hS, z_C hS, r_0_0 hS, k_1 hS, z_1, as_nil, as_i, as_r, Nat.reduceAdd, Nat.reduceLeDiff, z_eq0, z_eq1, z_or, z_em, Classical.not_not, not_false_eq_true, not_true_eq_false, true_and, and_true, false_and, and_false, and_self, true_implies, false_implies, implies_true, Option.toList_some, Option.toList_none, List.cons_append, List.nil_append, Nat.add_eq_zero_iff, a_nl_i, a_nl_r, a_nl_n, true_or, or_true, eq_self, a_isRA_22, a_isRA_24, a_isRA_32, a_isA_20, ok_4, ok_5, ok_6, ok_7, ok_9, ok_20, ok_21, ok_30, ok_50, ok_180, ok_192, ok_200]
    refine ce_found ⟨Int32.not_lt.mp a, Int32.le_trans (Int32.not_lt.mp c1) g.2⟩ ⟨b, Int32.not_lt.mp d1⟩ hT e1 (fun J g1 f f3 => ?_)
    simp only [q15_61, as_nil, as_i, as_r, Nat.reduceAdd, Nat.reduceLeDiff, z_eq0, z_eq1, z_or, z_em, Classical.not_not, not_false_eq_true, not_true_eq_false, true_and, and_true, false_and, and_false, and_self, true_implies, false_implies, implies_true, Option.toList_some, Option.toList_none, List.cons_append, List.nil_append, Nat.add_eq_zero_iff, a_nl_i, a_nl_r, a_nl_n, true_or, or_true, eq_self, a_isRA_22, a_isRA_24, a_isRA_32, a_isA_20, ok_4, ok_5, ok_6, ok_7, ok_9, ok_20, ok_21, ok_30, ok_50, ok_180, ok_192, ok_200]
    exact hP J (cH_J hH g1) f f3
  rw [a_enter1 (M := a_m15) rfl (a_cat_rf (a_cat_int (a_cat_int a_cat_nil))) (show 3 ≤ 3 by decide)]
  show a_at _ (a_xm a_m15) 0 [some (a_rf C), some (.int h), some (.int v)] [] _ _
  repeat' first
    | with_reducible apply And.intro
    | with_reducible assumption
    | with_reducible intro _
    | refine cr_refuse hH (fun _ _ => ?_)
    | exact h1 (Or.inl (by assumption)) _ (by assumption)
    | exact h1 (Or.inr (Int32.not_le.mp (by assumption))) _ (by assumption)
    | exact h2 (gneg (by assumption) (by assumption)) (Or.inl (by assumption)) _ (by assumption)
    | exact h2 (gneg (by assumption) (by assumption)) (Or.inr (Or.inl (by assumption))) _ (by assumption)
    | exact h2 (gneg (by assumption) (by assumption)) (Or.inr (Or.inr (Int32.not_lt.mp (by assumption)))) _ (by assumption)
    | exact hgo (by assumption) (by assumption) (by assumption) (by assumption) (by assumption)
    | simp only [q15_0, q15_1, q15_4, q15_5, q15_6, q15_9, q15_10, q15_12, q15_15, q15_16, q15_17, q15_18, q15_21, q15_24, q15_27, q15_28, q15_30, q15_33, q15_34, q15_37, q15_40, q15_42, q15_45, q15_46, q15_48, q15_51, k_0 hS, z_C hS, r_0_0 hS, k_1 hS, z_1, as_nil, as_i, as_r, Nat.reduceAdd, Nat.reduceLeDiff, z_eq0, z_eq1, z_or, z_em, Classical.not_not, not_false_eq_true, not_true_eq_false, true_and, and_true, false_and, and_false, and_self, true_implies, false_implies, implies_true, Option.toList_some, Option.toList_none, List.cons_append, List.nil_append, Nat.add_eq_zero_iff, a_nl_i, a_nl_r, a_nl_n, true_or, or_true, eq_self, a_isRA_22, a_isRA_24, a_isRA_32, a_isA_20, ok_4, ok_5, ok_6, ok_7, ok_9, ok_20, ok_21, ok_30, ok_50, ok_180, ok_192, ok_200]
  all_goals ((try clear hgo); (try clear hr); (try clear hs); (try clear hc); (try clear h0); (try clear h1); (try clear h2); (try clear h3); (try clear h4); (try clear h5); (try clear hP); (try clear hZ); (try clear hH); (try clear hT); (try clear hS); grind [ui_ap])
end ZC1
section ZC2
variable {d n t C c : Nat} {K L : Nat → Nat} {I I0 J J0 J1 J2 : Nat → Nat → Int32} {R : Nat → Nat → Nat} {P : Option Value → AH → Prop}
variable {Y Z W : Nat → Nat → Int32} {R' R1 : Nat → Nat → Nat} {K' L' : Nat → Nat}
theorem cu_trip {m : Nat} (hH : cH C c m t K L I R) (hu : cuP C K L I R Y) (hlb : lbP C I Y) {h v : Int32} (hh : 0 ≤ h ∧ h ≤ Y 0 0) (hv : 1 ≤ v ∧ v ≤ 60) (h2 : Y 0 2 < 20) (hTJ : cT C K L J R) (f1 : ∀ x j, ¬ x = C + 3 → J x j = tX C I h v x j) (f3 : (∀ s k : Nat, s < 200 → k < 8 → (bq (J (C + 3) s) k = true ↔ bq (I (C + 3) s) k = true ∨ (h.toNatClampNeg ≤ 8 * s + k ∧ 8 * s + k < (h + v).toNatClampNeg)))) : cuP C K L J R (tpW Y h v) ∧ lbP C J (tpW Y h v) := by
  have hT := hH.1
  have g0 := hT.g_now
  have e6 : I (C + 1) 6 = Y 0 0 := hu.1.1.1
  have e5 : I (C + 1) 5 = Y 0 2 := hu.2.2.1.2.1.1.1
  rw [e6] at g0
  have hhv : 0 ≤ h + v ∧ h + v ≤ 1660 := by clear hu hlb f1 f3; grind
  have g2 := hT.g_trips
  rw [e5] at g2
  have h22 : 0 ≤ Y 0 2 ∧ Y 0 2 < 20 := ⟨g2.1, h2⟩
  have hlb2 : lbP C J (tpW Y h v) := fun s k hs hk => by
    obtain ⟨o1, o2⟩ := cl_on2 (m := 8 * s + k) (by omega)
    rw [f3 s k hs hk, lk_tp h22, hlb s k hs hk]
    have c0 : (0 : Int32).toInt = 0 := rfl
    have c1 : (1 : Int32).toInt = 1 := rfl
    have w0 := Int32.le_iff_toInt_le.mp hh.1
    have w1 := Int32.le_iff_toInt_le.mp hhv.1
    have w2 := Int32.le_iff_toInt_le.mp hhv.2
    rw [c0] at w0 w1
    rw [show (1660 : Int32).toInt = 1660 from rfl] at w2
    have em : (h + v - 1).toInt = (h + v).toInt - 1 := by
      rw [Int32.toInt_sub, c1]
      simp only [Int.bmod_def]
      omega
    have q1 : h ≤ Int32.ofNat (8 * s + k) ↔ h.toNatClampNeg ≤ 8 * s + k := by
      rw [Int32.le_iff_toInt_le, o2]
      show _ ↔ h.toInt.toNat ≤ _
      omega
    have q2 : Int32.ofNat (8 * s + k) ≤ h + v - 1 ↔ 8 * s + k < (h + v).toNatClampNeg := by
      rw [Int32.le_iff_toInt_le, o2, em]
      show _ ↔ _ < (h + v).toInt.toNat
      omega
    rw [q1, q2]
  refine ⟨?_, hlb2⟩
  have hJ0 : ∀ k j, ¬ (3 ≤ k ∧ k ≤ 6) → ¬ (k = 1 ∧ j = 5) → J (C + k) j = I (C + k) j := fun k j hk hk2 => by
    rw [f1 _ _ (by omega)]
    exact tX_ne (by omega) (by omega) (by omega) (by omega)
  have hJ : ∀ k j, ¬ (3 ≤ k ∧ k ≤ 6) ∧ ¬ (k = 1 ∧ j = 5) → J (C + k) j = I (C + k) j := fun k j hk => hJ0 k j hk.1 hk.2
  have hX : ∀ x j, C + 43 < x → J x j = I x j := fun x j hx => by
    rw [f1 _ _ (by omega)]
    exact tX_ne (by omega) (by omega) (by omega) (by omega)
  have hz : ∀ k j, ¬ (k = 0 ∧ j = 2) ∧ ¬ (2 ≤ k ∧ k ≤ 4) → tpW Y h v k j = Y k j := fun k j hk => tp_no (by omega)
  obtain ⟨b1, b2, b3, b4⟩ := tp_at (Y := Y) (h := h) (v := v)
  have eT := (lp_st h22.1 h22.2).2.2.2
  refine cu_gen hT hu ⟨fun k hk => funext (fun j => hz k j (by omega)), fun j hj => hz 0 j (by omega)⟩ (fE_of hH hX ⟨hJ 14 4 (by omega), hJ 14 5 (by omega)⟩ (hJ 7 3 (by omega))) (by rw [hJ 1 6 (by omega), hz 0 0 (by omega)]; exact hu.1.1.1) (fun j => by rw [hJ 2 j (by omega), hz 1 j (by omega)]; exact hu.1.1.2.1 j) (ls_lb hTJ.g_lost hlb2) ⟨by rw [hJ 14 6 (by omega), hz 0 9 (by omega)]; exact hu.1.2.1.2.1, by rw [hz 0 9 (by omega)]; exact hu.1.2.2.2.2.2.2.2.1⟩ (mr_e hu.1.2.2.1.2.1 hu.1.2.2.1.2.2.1 (fun x kx => hX _ _ (by have := (hT.g_ask x kx).1; omega)) (fun k j hk => hz k j (by unfold kK at hk; omega))) (mk_e hu.1.2.2.2.2.2.2.2.2.2.2.2.1 (fun k j hk => hz k j (by unfold kK at hk; omega))) (siM_e hu.2.2.1.1 (fun k j hk => hJ k j (by omega)) (fun k j hk => hz k j (by unfold kM at hk; omega))) ?_ ?_ (fun e => hX _ _ (by have := (hT.g_ask _ (hu.2.2.1.2.2.1.2 e).1).1; omega))
  · obtain ⟨⟨t1, t2⟩, ⟨t3, t4⟩, t5, t6⟩ := hu.2.2.1.2.1
    have c0 : J C 10 = I C 10 := hJ 0 10 (by omega)
    refine ⟨⟨by rw [f1 _ _ (by omega), tX_1, e5, b4], fun j hj => ?_⟩, ⟨by rw [hJ _ _ (by omega), hz _ _ (by omega)]; exact t3, fun j => by rw [hJ _ _ (by omega), hz 27 _ (by omega)]; exact t4 j⟩, by rw [c0, hz 0 79 (by omega)]; exact t5, fun j hj => by rw [hz 0 79 (by omega)] at hj; rw [hJ _ _ (by omega), hz 52 _ (by omega)]; exact t6 j hj⟩
    rw [b4, eT] at hj
    rw [f1 _ _ (by omega), f1 _ _ (by omega), f1 _ _ (by omega), tX_4, tX_5, tX_6, e5, e6]
    by_cases e : j = (Y 0 2).toNatClampNeg
    · rw [if_pos e, if_pos e, if_pos e, e, b1, b2, b3]
      exact ⟨rfl, rfl, rfl⟩
    · rw [if_neg e, if_neg e, if_neg e, tp_no (by omega), tp_no (by omega), tp_no (by omega)]
      exact t2 j (by omega)
  · obtain ⟨y1, y2, y3, y4, y5, y6, y7, y8⟩ := hu.2.2.1.2.2.2
    have zr : ∀ k, (28 ≤ k ∧ k ≤ 29) ∨ (37 ≤ k ∧ k ≤ 38) ∨ k = 47 → tpW Y h v k = Y k := fun k hk => funext (fun j => hz k j (by omega))
    have wt : ∀ x, wtY (tpW Y h v) x = wtY Y x := fun x => by
      unfold wtY
      rw [zr 28 (by omega)]
    unfold siY
    rw [zr 38 (by omega), zr 37 (by omega), zr 47 (by omega), hz 0 0 (by omega), hz 0 17 (by omega), b4, eT]
    refine ⟨y1, y2, y3, y4, fun x hx => ?_, fun j hj => ?_, y7, fun j hj => ?_⟩
    · rw [hz 0 41 (by omega)] at hx
      rw [wt, zr 29 (by omega)]
      exact y5 x hx
    · by_cases e : j = (Y 0 2).toNatClampNeg
      · rw [e, b1, b2]
        exact ⟨⟨hh.1, Int32.le_trans hh.2 g0.2⟩, hv⟩
      · rw [tp_no (by omega), tp_no (by omega)]
        exact y6 j (by omega)
    · by_cases e : j = (Y 0 2).toNatClampNeg
      · rw [e, b3]
        exact Int32.le_refl _
      · rw [tp_no (by omega)]
        exact y8 j (by omega)
theorem ge_trip (hH : cH C c (n + 1) t K L I R) (hu : cuP C K L I R Y) (hlb : lbP C I Y) {h v : Int32} (hP : ∀ w n' t' K' L' J R', cH C c (n' + 1) t' K' L' J R' → cuP C K' L' J R' (tpY Y h v) ∧ lbP C J (tpY Y h v) → P (some (.int w)) (n' + 1, t', K', L', J, R')) : a_does (d + 70) 15 [a_rf C, .int h, .int v] (n + 1, t, K, L, I, R) P := by
  have hT := hH.1
  have hS := hT.s
  have hc := hu.1
  have e6 : I (C + 1) 6 = Y 0 0 := hu.1.1.1
  have e5 : I (C + 1) 5 = Y 0 2 := hu.2.2.1.2.1.1.1
  have g2 := hT.g_trips
  rw [e5] at g2
  have e20 : (20 ≤ Y 0 2) = (Y 0 2 = 20) := propext ⟨fun q => by clear hP hu hc hlb; grind, fun q => by rw [q]; decide⟩
  have hrf : ∀ J, rfQ C c (n + 1) t K L I R J → cuP C K L J R Y ∧ lbP C J Y := fun J z => ⟨cu_re hH hu z, fun s k hs hk => by rw [z.2 _ _ (by omega)]; exact hlb s k hs hk⟩
  unfold tpY at hP
  refine ky_trip hH (fun q J z => ?_) (fun q q2 J z => ?_) (fun q1 q2 J g f f3 => ?_)
  · rw [if_pos (Or.inl q)] at hP
    exact hP _ n t K L J R z.1 (hrf J z)
  · rw [e6, e5, e20] at q2
    rw [if_pos (Or.inr q2)] at hP
    exact hP _ n t K L J R z.1 (hrf J z)
  · rw [e6, e5, e20] at q2
    rw [if_neg (fun q => q.elim q1 q2)] at hP
    refine hP _ n t K L J R g (cu_trip hH hu hlb ⟨Int32.not_lt.mp (fun w => q1 (Or.inl w)), Int32.not_lt.mp (fun w => q2 (Or.inl w))⟩ ⟨Int32.not_lt.mp (fun w => q1 (Or.inr w)), Int32.not_lt.mp (fun w => q2 (Or.inr (Or.inl w)))⟩ ?_ g.1 f f3)
    have := fun w => q2 (Or.inr (Or.inr w))
    clear hP hu hc hlb f f3 q1 q2 hrf g
    grind
end ZC2
section ZC3
variable {d n t M : Nat} {K L : Nat → Nat} {I I0 J J0 J1 J2 : Nat → Nat → Int32} {R : Nat → Nat → Nat} {P : Option Value → AH → Prop} {f : Nat → Int32} {e : Int32}
variable {Y Z W : Nat → Nat → Int32}
theorem xp_trip (hS : m_S M K L R) {I1 : Nat → Nat → Int32} (hm : okY Y) {c : Nat} (hc : c + 130 ≤ 84000) (hF : mF M c I1 I) (hg : gs M I0 I Y) {h v : Int32} (hP : ∀ w J, J M 35 = I M 35 → gs M I0 J (tpY Y h v) → P (some (.int w)) (n, t, K, L, J, R)) : a_does (d + 13) 175 [a_rf M, .int h, .int v] (n, t, K, L, I, R) P := by
  have hy := hm.1
  have h17 := hy.2.2.2.2.1
  have h10 := hy.2.1
  have h6 := hy.2.2.2.2.2.1
  have hl := hy.2.2.1
  have hrf : ∀ k : Nat, mF M (c + 120) I1 (a_ui I (M + 23) k (I (M + 23) k + 1)) ∧ gs M I0 (a_ui I (M + 23) k (I (M + 23) k + 1)) Y := fun k => ⟨mF_le (sF_refused hF) (by omega), gs_ui hg (sR_refused hg.1) (by omega) ⟨by unfold ps1; omega, by omega⟩⟩
  have e17 : I M 17 = Y 0 17 := hg.2.2.1 0 17 (by unfold ps1; omega)
  have e6 : I M 6 = Y 0 6 := hg.2.2.1 0 6 (by unfold ps1; omega)
  have e0 : I M 0 = Y 0 0 := hg.2.2.1 0 0 (by unfold ps1; omega)
  have m17 : ∀ x : Int32, (x ≤ Y 0 17 - 1) = (x < Y 0 17) := fun x => le_m1 h17
  have m6 : ∀ x : Int32, (x ≤ Y 0 6 - 1) = (x < Y 0 6) := fun x => le_m1 ⟨h6.1, Int32.le_trans h6.2 (by decide)⟩
  have m199 : ∀ x : Int32, (x ≤ 199) = (x < 200) := fun x => propext ⟨fun q => Int32.lt_of_le_of_lt q (by decide), fun q => by clear hP hrf hm hg hF; grind⟩
  have e2 : I M 2 = Y 0 2 := hg.2.2.1 0 2 (by unfold ps1; omega)
  have g2 := rg_trips hg.1
  have g2' := g2
  rw [e2] at g2'
  unfold tpY at hP
  refine pe_trip (d := d + 11) hS g2 (fun q => ?_) (fun q1 q2 => ?_) (fun q1 q2 => ?_)
  · rw [if_pos (Or.inl q)] at hP
    exact hP _ _ (by rw [ui_ap, if_neg (by omega)]) (hrf 4).2
  · rw [e0, e2] at q2
    rw [if_pos (Or.inr q2)] at hP
    exact hP _ _ (by rw [ui_ap, if_neg (by omega)]) (hrf 6).2
  · rw [e0, e2] at q2 ⊢
    rw [if_neg (fun q => q.elim q1 q2)] at hP
    refine hP _ _ (by rw [ui_ap, if_neg (by omega), ui_ap, if_neg (by omega), ui_ap, if_neg (by omega), ui_ap, if_neg (by omega)]) ?_
    have h20 : ¬ Y 0 2 = 20 := fun w => q2 (Or.inr (Or.inr w))
    have s1 := gs_up2 hg (k := 2) (j := (Y 0 2).toNatClampNeg) (v := h) (by omega) (by omega) (sR_tHour hg.1)
    have s2 := gs_up2 s1 (k := 3) (j := (Y 0 2).toNatClampNeg) (v := v) (by omega) (by omega) (sR_tMany s1.1)
    have s3 := gs_up2 s2 (k := 4) (j := (Y 0 2).toNatClampNeg) (v := Y 0 0) (by omega) (by omega) (sR_tFound s2.1)
    exact gs_up2 s3 (k := 0) (j := 2) (v := Y 0 2 + 1) (by omega) (by omega) (sR_trips s3.1 (by clear hP hrf hm hy hl hg hF s1 s2 s3; grind))
end ZC3
end
section
/-! set -/
section ZD0
variable {d n t C c n0 n' n'' t' : Nat} {K L K0 L0 K' L' K'' L'' : Nat → Nat} {I I0 J J0 J1 J2 : Nat → Nat → Int32} {R R0 R' R'' : Nat → Nat → Nat} {P : Option Value → AH → Prop}
variable {Y Z : Nat → Nat → Int32}
theorem ce_changeScaled (hT : cT C K L I R) {v : Int32} (hA : akP C K I R Z) (hm : cmP C I Z) (hY : mkP Z) (hs : v = Z 0 11) (hP : ∀ J, cT C K L J R → frM C K R Z (a_ui I (C + 17) 5 v) J → mrP C J R Z → P (some (.int (I (C + 17) 5))) (n, t, K, L, J, R)) : a_does (d + 5) 26 [a_rf (C + 17), .int v] (n, t, K, L, I, R) P := by
  have hS := hT.s
  have hA2 : akP C K (a_ui I (C + 17) 5 v) R Z := fun i i0 i1 => by
    obtain ⟨k1, k2, k3⟩ := hA i i0 i1
    have := (hT.g_ask _ k1).1
    exact ⟨k1, k2, by rw [ui_ap, if_neg (by omega)]; exact k3⟩
  have hm2 : cmP C (a_ui I (C + 17) 5 v) Z := ⟨fun k hk => by rw [ui_ap, if_neg (by omega)]; exact hm.1 k hk, by rw [ui_ap, if_neg (by omega)]; exact hm.2⟩
  have hcl : a_does (d + 4) 27 [a_rf (C + 17)] (n, t, K, L, (a_ui I (C + 17) 5 v), R) (fun r h' => a_at (d + 4) (a_xm a_m26) 14 [some (a_rf (C + 17)), some (.int v), some (.int (I (C + 17) 5))] (r.toList ++ []) h' P) := by
    refine ce_reckonMarks (sT_Panel_scaled hT) hA2 hm2 hY (by rw [ui_ap, if_pos ⟨rfl, rfl⟩]; exact hs) (fun J g1 g2 g3 => ?_)
    have hp := hP J g1 g2 g3
    clear hP hA hm hY hA2 hm2 g2 g3
    simp only [q26_14, q26_15, as_nil, as_i, as_r, Nat.reduceAdd, Nat.reduceLeDiff, z_eq0, z_eq1, z_or, z_em, Classical.not_not, not_false_eq_true, not_true_eq_false, true_and, and_true, false_and, and_false, and_self, true_implies, false_implies, implies_true, Option.toList_some, Option.toList_none, List.cons_append, List.nil_append, Nat.add_eq_zero_iff, a_nl_i, a_nl_r, a_nl_n, true_or, or_true, eq_self, a_isRA_22, a_isRA_24, a_isRA_32, a_isA_20, ok_4, ok_5, ok_6, ok_7, ok_9, ok_20, ok_21, ok_30, ok_50, ok_180, ok_192, ok_200]
    exact hp
  clear hP hA hm hY hA2 hm2
  rw [a_enter1 (M := a_m26) rfl (a_cat_rf (a_cat_int a_cat_nil)) (show 2 ≤ 3 by decide)]
  show a_at _ (a_xm a_m26) 0 [some (a_rf (C + 17)), some (.int v), none] [] _ _
  simp only [q26_0, q26_1, q26_4, q26_5, q26_6, q26_7, q26_10, q26_11, k_17 hS, z_17, as_nil, as_i, as_r, Nat.reduceAdd, Nat.reduceLeDiff, z_eq0, z_eq1, z_or, z_em, Classical.not_not, not_false_eq_true, not_true_eq_false, true_and, and_true, false_and, and_false, and_self, true_implies, false_implies, implies_true, Option.toList_some, Option.toList_none, List.cons_append, List.nil_append, Nat.add_eq_zero_iff, a_nl_i, a_nl_r, a_nl_n, true_or, or_true, eq_self, a_isRA_22, a_isRA_24, a_isRA_32, a_isA_20, ok_4, ok_5, ok_6, ok_7, ok_9, ok_20, ok_21, ok_30, ok_50, ok_180, ok_192, ok_200, ui_ap, cc_ne, cc_n0, cc_0n, Nat.reduceEqDiff, reduceIte, if_true, if_false]
  exact hcl
theorem ky_set {v : Int32} (h511 : v = Z 0 11) (hA : akP C K I R Z) (hm : cmP C I Z) (hY : mkP Z) (hH : cH C c (n + 1) t K L I R) {w : Int32} (h0 : ¬ (0 ≤ w ∧ w ≤ 2) → ∀ J, rfQ C c (n + 1) t K L I R J → P (some (.int (-2))) (n + 1, t, K, L, J, R)) (h1 : (0 ≤ w ∧ w ≤ 2) → v < 0 → ∀ J, rfQ C c (n + 1) t K L I R J → P (some (.int (-4))) (n + 1, t, K, L, J, R)) (h2 : (0 ≤ w ∧ w ≤ 2) → ¬ v < 0 → ((w = 0 ∧ 3 < v) ∨ (w = 1 ∧ 100 < v) ∨ (w = 2 ∧ 1 < v)) → ∀ J, rfQ C c (n + 1) t K L I R J → P (some (.int (-6))) (n + 1, t, K, L, J, R)) (h3 : w = 0 → ¬ v < 0 → ¬ 3 < v → cT C K L (a_ui I (C + 14) 6 v) R → P (some (.int (I (C + 14) 6))) (n + 1, t, K, L, (a_ui I (C + 14) 6 v), R)) (h4 : w = 1 → ¬ v < 0 → ¬ 100 < v → cT C K L (a_ui I (C + 22) 8 v) R → P (some (.int (I (C + 22) 8))) (n + 1, t, K, L, (a_ui I (C + 22) 8 v), R)) (h5 : w = 2 → ¬ v < 0 → ¬ 1 < v → ∀ J, cT C K L J R → frM C K R Z (a_ui I (C + 17) 5 v) J → mrP C J R Z → P (some (.int (I (C + 17) 5))) (n + 1, t, K, L, J, R)) : a_does (d + 70) 23 [a_rf C, .int w, .int v] (n + 1, t, K, L, I, R) P := by
  have hT := hH.1
  have hS := hT.s
  have hZ := cZ_refl hH
  have hr : w = 0 → 0 ≤ v → v ≤ 3 → ∀ u, a_at (d + 69) (a_xm a_m23) 63 [some (a_rf C), some (.int w), some (.int v), u] [] (n + 1, t, K, L, I, R) P := fun hw a b u => by
    have hP := h3 hw (Int32.not_lt.mpr a) (Int32.not_lt.mpr b) (sT_Hall_rest hT ⟨a, b⟩)
    simp only [q23_63, q23_64, q23_67, q23_68, k_0 hS, z_C hS, r_0_4 hS, k_14 hS, z_14, as_nil, as_i, as_r, Nat.reduceAdd, Nat.reduceLeDiff, z_eq0, z_eq1, z_or, z_em, Classical.not_not, not_false_eq_true, not_true_eq_false, true_and, and_true, false_and, and_false, and_self, true_implies, false_implies, implies_true, Option.toList_some, Option.toList_none, List.cons_append, List.nil_append, Nat.add_eq_zero_iff, a_nl_i, a_nl_r, a_nl_n, true_or, or_true, eq_self, a_isRA_22, a_isRA_24, a_isRA_32, a_isA_20, ok_4, ok_5, ok_6, ok_7, ok_9, ok_20, ok_21, ok_30, ok_50, ok_180, ok_192, ok_200]
    rw [a_enter1 (M := a_m24) rfl (a_cat_rf (a_cat_int a_cat_nil)) (show 2 ≤ 3 by decide)]
    show a_at _ (a_xm a_m24) 0 [some (a_rf (C + 14)), some (.int v), none] [] _ _
    simp only [q24_0, q24_1, q24_4, q24_5, q24_6, q24_7, q24_10, q24_11, k_14 hS, z_14, as_nil, as_i, as_r, Nat.reduceAdd, Nat.reduceLeDiff, z_eq0, z_eq1, z_or, z_em, Classical.not_not, not_false_eq_true, not_true_eq_false, true_and, and_true, false_and, and_false, and_self, true_implies, false_implies, implies_true, Option.toList_some, Option.toList_none, List.cons_append, List.nil_append, Nat.add_eq_zero_iff, a_nl_i, a_nl_r, a_nl_n, true_or, or_true, eq_self, a_isRA_22, a_isRA_24, a_isRA_32, a_isA_20, ok_4, ok_5, ok_6, ok_7, ok_9, ok_20, ok_21, ok_30, ok_50, ok_180, ok_192, ok_200, ui_ap, cc_ne, cc_n0, cc_0n, Nat.reduceEqDiff, reduceIte, if_true, if_false, q23_71]
    exact hP
  have hs : w = 1 → 0 ≤ v → v ≤ 100 → ∀ u, a_at (d + 69) (a_xm a_m23) 77 [some (a_rf C), some (.int w), some (.int v), u] [] (n + 1, t, K, L, I, R) P := fun hw a b u => by
    have hP := h4 hw (Int32.not_lt.mpr a) (Int32.not_lt.mpr b) (sT_Planner_share hT)
    simp only [q23_77, q23_78, q23_81, q23_82, k_0 hS, z_C hS, r_0_5 hS, k_22 hS, z_22, as_nil, as_i, as_r, Nat.reduceAdd, Nat.reduceLeDiff, z_eq0, z_eq1, z_or, z_em, Classical.not_not, not_false_eq_true, not_true_eq_false, true_and, and_true, false_and, and_false, and_self, true_implies, false_implies, implies_true, Option.toList_some, Option.toList_none, List.cons_append, List.nil_append, Nat.add_eq_zero_iff, a_nl_i, a_nl_r, a_nl_n, true_or, or_true, eq_self, a_isRA_22, a_isRA_24, a_isRA_32, a_isA_20, ok_4, ok_5, ok_6, ok_7, ok_9, ok_20, ok_21, ok_30, ok_50, ok_180, ok_192, ok_200]
    rw [a_enter1 (M := a_m25) rfl (a_cat_rf (a_cat_int a_cat_nil)) (show 2 ≤ 3 by decide)]
    show a_at _ (a_xm a_m25) 0 [some (a_rf (C + 22)), some (.int v), none] [] _ _
    simp only [q25_0, q25_1, q25_4, q25_5, q25_6, q25_7, q25_10, q25_11, k_22 hS, z_22, as_nil, as_i, as_r, Nat.reduceAdd, Nat.reduceLeDiff, z_eq0, z_eq1, z_or, z_em, Classical.not_not, not_false_eq_true, not_true_eq_false, true_and, and_true, false_and, and_false, and_self, true_implies, false_implies, implies_true, Option.toList_some, Option.toList_none, List.cons_append, List.nil_append, Nat.add_eq_zero_iff, a_nl_i, a_nl_r, a_nl_n, true_or, or_true, eq_self, a_isRA_22, a_isRA_24, a_isRA_32, a_isA_20, ok_4, ok_5, ok_6, ok_7, ok_9, ok_20, ok_21, ok_30, ok_50, ok_180, ok_192, ok_200, ui_ap, cc_ne, cc_n0, cc_0n, Nat.reduceEqDiff, reduceIte, if_true, if_false, q23_85, q23_88, q23_89, q23_92, q23_93, q23_96, k_0 hS, z_C hS, r_0_3 hS, k_17 hS, z_17]
    exact hP
  have hc : 0 ≤ w → w ≤ 2 → ¬ w = 0 → ¬ w = 1 → 0 ≤ v → v ≤ 1 → ∀ u, a_at (d + 69) (a_xm a_m23) 88 [some (a_rf C), some (.int w), some (.int v), u] [] (n + 1, t, K, L, I, R) P := fun w0 w2 n0 n1 a b u => by
    have hs11 : v = Z 0 11 := h511
    have hP := h5 (by clear h0 h1 h2 h3 h4 h5 hr hs hZ hH hT hS hA hm hY hs11 h511; grind) (Int32.not_lt.mpr a) (Int32.not_lt.mpr b)
    simp only [q23_88, q23_89, q23_92, q23_93, k_0 hS, z_C hS, r_0_3 hS, k_17 hS, z_17, as_nil, as_i, as_r, Nat.reduceAdd, Nat.reduceLeDiff, z_eq0, z_eq1, z_or, z_em, Classical.not_not, not_false_eq_true, not_true_eq_false, true_and, and_true, false_and, and_false, and_self, true_implies, false_implies, implies_true, Option.toList_some, Option.toList_none, List.cons_append, List.nil_append, Nat.add_eq_zero_iff, a_nl_i, a_nl_r, a_nl_n, true_or, or_true, eq_self, a_isRA_22, a_isRA_24, a_isRA_32, a_isA_20, ok_4, ok_5, ok_6, ok_7, ok_9, ok_20, ok_21, ok_30, ok_50, ok_180, ok_192, ok_200]
    refine ce_changeScaled hT hA hm hY hs11 (fun J g g2 g3 => ?_)
    simp only [q23_96, as_nil, as_i, as_r, Nat.reduceAdd, Nat.reduceLeDiff, z_eq0, z_eq1, z_or, z_em, Classical.not_not, not_false_eq_true, not_true_eq_false, true_and, and_true, false_and, and_false, and_self, true_implies, false_implies, implies_true, Option.toList_some, Option.toList_none, List.cons_append, List.nil_append, Nat.add_eq_zero_iff, a_nl_i, a_nl_r, a_nl_n, true_or, or_true, eq_self, a_isRA_22, a_isRA_24, a_isRA_32, a_isA_20, ok_4, ok_5, ok_6, ok_7, ok_9, ok_20, ok_21, ok_30, ok_50, ok_180, ok_192, ok_200]
    exact hP J g g2 g3
  have q0 : ∀ {m : Int32}, ¬ v ≤ m → m < v := fun h => Int32.not_le.mp h
  have hr0 : w < 0 → ∀ J, rfQ C c (n + 1) t K L I R J → P (some (.int (-2))) (n + 1, t, K, L, J, R) := fun a J z => h0 (fun e => absurd a (Int32.not_lt.mpr e.1)) J z
  have hr0b : ¬ w ≤ 2 → ∀ J, rfQ C c (n + 1) t K L I R J → P (some (.int (-2))) (n + 1, t, K, L, J, R) := fun a J z => h0 (fun e => a e.2) J z
  have hr1 : ¬ w < 0 → w ≤ 2 → ¬ 0 ≤ v → ∀ J, rfQ C c (n + 1) t K L I R J → P (some (.int (-4))) (n + 1, t, K, L, J, R) := fun a b c1 J z => h1 ⟨Int32.not_lt.mp a, b⟩ (Int32.not_le.mp c1) J z
  have hr2 : ¬ w < 0 → w ≤ 2 → 0 ≤ v → ∀ m : Int32, ¬ v ≤ m → ((w = 0 ∧ m = 3) ∨ (w = 1 ∧ m = 100) ∨ (¬ w = 0 ∧ ¬ w = 1 ∧ m = 1)) → ∀ J, rfQ C c (n + 1) t K L I R J → P (some (.int (-6))) (n + 1, t, K, L, J, R) := fun a b c1 m e1 e2 J z => h2 ⟨Int32.not_lt.mp a, b⟩ (Int32.not_lt.mpr c1) (by clear h0 h1 h2 h3 h4 h5 hr hs hc hr0 hr0b hr1 hZ hH hT hS; grind) J z
  rw [a_enter1 (M := a_m23) rfl (a_cat_rf (a_cat_int (a_cat_int a_cat_nil))) (show 3 ≤ 4 by decide)]
  show a_at _ (a_xm a_m23) 0 [some (a_rf C), some (.int w), some (.int v), none] [] _ _
  repeat' first
    | with_reducible apply And.intro
    | with_reducible assumption
    | with_reducible intro _
    | contradiction
    | refine cr_refuse hH (fun _ _ => ?_)
    | exact hr0 (by assumption) _ (by assumption)
    | exact hr0b (by assumption) _ (by assumption)
    | exact hr1 (by assumption) (by assumption) (by assumption) _ (by assumption)
    | exact hr2 (by assumption) (by assumption) (by assumption) 3 (by assumption) (Or.inl ⟨by assumption, rfl⟩) _ (by assumption)
    | exact hr2 (by assumption) (by assumption) (by assumption) 100 (by assumption) (Or.inr (Or.inl ⟨by assumption, rfl⟩)) _ (by assumption)
    | exact hr2 (by assumption) (by assumption) (by assumption) 1 (by assumption) (Or.inr (Or.inr ⟨by assumption, by assumption, rfl⟩)) _ (by assumption)
    | exact hr (by assumption) (by assumption) (by assumption) _
    | exact hs (by assumption) (by assumption) (by assumption) _
    | exact hc (Int32.not_lt.mp (by assumption)) (by assumption) (by assumption) (by assumption) (by assumption) (by assumption) _
    | simp only [q23_0, q23_1, q23_4, q23_5, q23_6, q23_9, q23_10, q23_12, q23_15, q23_16, q23_17, q23_20, q23_21, q23_23, q23_26, q23_27, q23_28, q23_31, q23_32, q23_35, q23_36, q23_37, q23_40, q23_42, q23_45, q23_46, q23_47, q23_48, q23_49, q23_52, q23_53, q23_55, q23_58, q23_59, q23_60, q23_72, q23_73, q23_74, k_0 hS, z_C hS, as_nil, as_i, as_r, Nat.reduceAdd, Nat.reduceLeDiff, z_eq0, z_eq1, z_or, z_em, Classical.not_not, not_false_eq_true, not_true_eq_false, true_and, and_true, false_and, and_false, and_self, true_implies, false_implies, implies_true, Option.toList_some, Option.toList_none, List.cons_append, List.nil_append, Nat.add_eq_zero_iff, a_nl_i, a_nl_r, a_nl_n, true_or, or_true, eq_self, a_isRA_22, a_isRA_24, a_isRA_32, a_isA_20, ok_4, ok_5, ok_6, ok_7, ok_9, ok_20, ok_21, ok_30, ok_50, ok_180, ok_192, ok_200]
  all_goals ((try clear hr); (try clear hs); (try clear hc); (try clear hr0); (try clear hr0b); (try clear hr1); (try clear hr2); (try clear hgo); (try clear hr); (try clear hs); (try clear hc); (try clear h0); (try clear h1); (try clear h2); (try clear h3); (try clear h4); (try clear h5); (try clear hP); (try clear hZ); (try clear hH); (try clear hT); (try clear hS); grind [ui_ap])
end ZD0
section ZD1
variable {d n t C c : Nat} {K L : Nat → Nat} {I I0 J J0 J1 J2 : Nat → Nat → Int32} {R : Nat → Nat → Nat} {P : Option Value → AH → Prop}
variable {Y Z W : Nat → Nat → Int32} {R' R1 : Nat → Nat → Nat} {K' L' : Nat → Nat}
def seY (Y : Nat → Nat → Int32) (w v : Int32) : Nat → Nat → Int32 := if ¬ (0 ≤ w ∧ w ≤ 2) ∨ v < 0 ∨ ((w = 0 ∧ 3 < v) ∨ (w = 1 ∧ 100 < v) ∨ (w = 2 ∧ 1 < v)) then Y else if w = 0 then upY Y 0 9 v else if w = 1 then upY Y 0 10 v else upY Y 0 11 v
/-- marks reckoned anew: the rest stays -/
theorem cu_mks {m : Nat} (hH : cH C c m t K L I R) (hu : cuP C K L I R Y) (hTJ : cT C K L J R) {I1 : Nat → Nat → Int32} (hF : frM C K R Y I1 J) (hJ1 : ∀ x j, C + 43 < x → I1 x j = I x j) : (∀ x j, K x = 1 → ¬ j = 12 → J x j = I x j) ∧ (∀ x j, (K x = 3 ∨ K x = 11 ∨ (C + 96 < x ∧ K x = 20)) → J x j = I x j) ∧ (∀ k j, k ≤ 43 → ¬ k = 21 → J (C + k) j = I1 (C + k) j) ∧ (¬ R C 11 = 0 → J (R C 11) 12 = I (R C 11) 12) := by
  have hT := hH.1
  have hn : ∀ k, k ≤ 43 → ¬ K (C + k) = 1 := fun k hk e => by
    have := (hT.g_ask _ e).1
    omega
  refine ⟨fun x j kx hj => ?_, fun x j kx => ?_, fun k j hk h21 => hF _ _ (by omega) (fun q => hn k hk q.1.1), fun hd => ?_⟩
  · have := (hT.g_ask x kx).1
    rw [hF _ _ (by omega) (fun q => hj q.1.2), hJ1 _ _ (by omega)]
  · have h43 : C + 43 < x := by
      rcases kx with kx | kx | kx
      · have := (hT.g_bnc x kx).1
        omega
      · have := (hT.g_txt x kx).1
        omega
      · omega
    rw [hF _ _ (by omega) (fun q => ?_), hJ1 _ _ h43]
    have := q.1.1
    rcases kx with kx | kx | kx
    · rw [kx] at this; cases this
    · rw [kx] at this; cases this
    · rw [kx.2] at this; cases this
  · obtain ⟨e1, -, -, e4⟩ := hu.2.2.1.2.2.1.2 hd
    have := (hT.g_ask _ e1).1
    rw [hF _ _ (by omega) (fun q => ?_), hJ1 _ _ (by omega)]
    obtain ⟨i, i0, i1, e⟩ := q.2
    exact e4 i i0 i1 e
theorem ge_set (hH : cH C c (n + 1) t K L I R) (hu : cuP C K L I R Y) {w v : Int32} (hP : ∀ u n' t' K' L' J R', cH C c (n' + 1) t' K' L' J R' → cuP C K' L' J R' (seY Y w v) → P (some (.int u)) (n' + 1, t', K', L', J, R')) : a_does (d + 70) 23 [a_rf C, .int w, .int v] (n + 1, t, K, L, I, R) P := by
  have hT := hH.1
  have hS := hT.s
  have hc := hu.1
  have hz : ∀ q : Nat, (q = 9 ∨ q = 10 ∨ q = 11) → ∀ k j, ¬ (k = 0 ∧ j = q) → upY Y 0 q v k j = Y k j := fun q _ k j hk => up_no hk
  have hA : akP C K I R (upY Y 0 11 v) := fun i i0 i1 => hc.2.2.1.2.1 i i0 (by rw [hz 11 (by omega) 0 17 (by omega)] at i1; exact i1)
  have hm : cmP C I (upY Y 0 11 v) := ⟨fun k hk => by rw [hz 11 (by omega) 38 _ (by omega), hz 11 (by omega) 36 _ (by omega)]; exact hu.2.2.1.1.2.1 k hk, by rw [hz 11 (by omega) 0 17 (by omega)]; exact hc.2.2.1.1⟩
  have hY : mkP (upY Y 0 11 v) := fun k q => by
    rw [hz 11 (by omega) 38 _ (by omega)] at q
    rw [hz 11 (by omega) 36 _ (by omega)]
    exact hc.2.2.2.2.2.2.2.2.2.2.2.1 k q
  unfold seY at hP
  refine ky_set (Z := upY Y 0 11 v) up_at.symm hA hm hY hH (fun q J z => ?_) (fun q q2 J z => ?_) (fun q q2 q3 J z => ?_) (fun q q2 q3 g => ?_) (fun q q2 q3 g => ?_) (fun q q2 q3 J g g2 g3 => ?_)
  · rw [if_pos (Or.inl q)] at hP
    exact hP _ n t K L J R z.1 (cu_re hH hu z)
  · rw [if_pos (Or.inr (Or.inl q2))] at hP
    exact hP _ n t K L J R z.1 (cu_re hH hu z)
  · rw [if_pos (Or.inr (Or.inr q3))] at hP
    exact hP _ n t K L J R z.1 (cu_re hH hu z)
  · rw [if_neg (by rw [q]; intro e; rcases e with e | e | e | e | e; exact e (by decide); exact q2 e; exact q3 e.2; exact absurd e.1 (by decide); exact absurd e.1 (by decide)), if_pos q] at hP
    refine hP _ n t K L _ R (cH_J hH g) ?_
    have hJ : ∀ k j, ¬ (k = 14 ∧ j = 6) → a_ui I (C + 14) 6 v (C + k) j = I (C + k) j := fun k j hk => by rw [ui_ap, if_neg (by omega)]
    have hX : ∀ x j, C + 43 < x → a_ui I (C + 14) 6 v x j = I x j := fun x j hx => by rw [ui_ap, if_neg (by omega)]
    have hz := hz 9 (by omega)
    exact cu_gen hT hu ⟨fun k hk => funext (fun j => hz k j (by omega)), fun j hj => hz 0 j (by omega)⟩ (fE_of hH hX ⟨hJ 14 4 (by omega), hJ 14 5 (by omega)⟩ (hJ 7 3 (by omega))) (by rw [hJ 1 6 (by omega), hz 0 0 (by omega)]; exact hu.1.1.1) (fun j => by rw [hJ 2 j (by omega), hz 1 j (by omega)]; exact hu.1.1.2.1 j) (lsP_e hu.1.1.2.2 (fun j => hJ 3 j (by omega)) (fun k j hk => hz k j (by unfold kL at hk; omega))) ⟨by rw [ui_ap, if_pos ⟨rfl, rfl⟩, up_at], by rw [up_at]; exact ⟨Int32.not_lt.mp q2, Int32.not_lt.mp q3⟩⟩ (mr_e hu.1.2.2.1.2.1 hu.1.2.2.1.2.2.1 (fun x kx => hX _ _ (by have := (hT.g_ask x kx).1; omega)) (fun k j hk => hz k j (by unfold kK at hk; omega))) (mk_e hu.1.2.2.2.2.2.2.2.2.2.2.2.1 (fun k j hk => hz k j (by unfold kK at hk; omega))) (siM_e hu.2.2.1.1 (fun k j hk => hJ k j (by omega)) (fun k j hk => hz k j (by unfold kM at hk; omega))) (siT_e hu.2.2.1.2.1 (fun k j hk => hJ k j (by omega)) (fun k j hk => hz k j (by unfold kT at hk; omega))) (siY_e hu.2.2.1.2.2.2 (fun k j hk => hz k j (by unfold kY at hk; omega))) (fun e => hX _ _ (by have := (hT.g_ask _ (hu.2.2.1.2.2.1.2 e).1).1; omega))
  · rw [if_neg (by rw [q]; intro e; rcases e with e | e | e | e | e; exact e (by decide); exact q2 e; exact absurd e.1 (by decide); exact q3 e.2; exact absurd e.1 (by decide)), if_neg (by rw [q]; decide), if_pos q] at hP
    refine hP _ n t K L _ R (cH_J hH g) ?_
    have hJ : ∀ k j, ¬ (k = 22 ∧ j = 8) → a_ui I (C + 22) 8 v (C + k) j = I (C + k) j := fun k j hk => by rw [ui_ap, if_neg (by omega)]
    have hX : ∀ x j, C + 43 < x → a_ui I (C + 22) 8 v x j = I x j := fun x j hx => by rw [ui_ap, if_neg (by omega)]
    have hz := hz 10 (by omega)
    refine cu_gen hT hu ⟨fun k hk => funext (fun j => hz k j (by omega)), fun j hj => hz 0 j (by omega)⟩ (fE_of hH hX ⟨hJ 14 4 (by omega), hJ 14 5 (by omega)⟩ (hJ 7 3 (by omega))) (by rw [hJ 1 6 (by omega), hz 0 0 (by omega)]; exact hu.1.1.1) (fun j => by rw [hJ 2 j (by omega), hz 1 j (by omega)]; exact hu.1.1.2.1 j) (lsP_e hu.1.1.2.2 (fun j => hJ 3 j (by omega)) (fun k j hk => hz k j (by unfold kL at hk; omega))) ⟨by rw [hJ 14 6 (by omega), hz 0 9 (by omega)]; exact hu.1.2.1.2.1, by rw [hz 0 9 (by omega)]; exact hu.1.2.2.2.2.2.2.2.1⟩ (mr_e hu.1.2.2.1.2.1 hu.1.2.2.1.2.2.1 (fun x kx => hX _ _ (by have := (hT.g_ask x kx).1; omega)) (fun k j hk => hz k j (by unfold kK at hk; omega))) (mk_e hu.1.2.2.2.2.2.2.2.2.2.2.2.1 (fun k j hk => hz k j (by unfold kK at hk; omega))) ?_ (siT_e hu.2.2.1.2.1 (fun k j hk => hJ k j (by omega)) (fun k j hk => hz k j (by unfold kT at hk; omega))) (siY_e hu.2.2.1.2.2.2 (fun k j hk => hz k j (by unfold kY at hk; omega))) (fun e => hX _ _ (by have := (hT.g_ask _ (hu.2.2.1.2.2.1.2 e).1).1; omega))
    obtain ⟨⟨m1, m2⟩, m3, m4, m5, m6⟩ := hu.2.2.1.1
    exact ⟨⟨by rw [ui_ap, if_pos ⟨rfl, rfl⟩, up_at], by rw [hJ _ _ (by omega), hz _ _ (by omega)]; exact m2⟩, fun k hk => by rw [hJ _ _ (by omega), hz 38 _ (by omega), hz 36 _ (by omega)]; exact m3 k hk, fun x y hx hy => by rw [hJ _ _ (by omega), hz 35 _ (by omega)]; exact m4 x y hx hy, fun x y hx hy => by rw [hJ _ _ (by omega), hz 37 _ (by omega)]; exact m5 x y hx hy, fun x y hx hy => by rw [hJ _ _ (by omega), hz 47 _ (by omega)]; exact m6 x y hx hy⟩
  · rw [if_neg (by rw [q]; intro e; rcases e with e | e | e | e | e; exact e (by decide); exact q2 e; exact absurd e.1 (by decide); exact absurd e.1 (by decide); exact q3 e.2), if_neg (by rw [q]; decide), if_neg (by rw [q]; decide)] at hP
    refine hP _ n t K L J R (cH_J hH g) ?_
    have hz := hz 11 (by omega)
    obtain ⟨f1, f2, f3, f4⟩ := cu_mks (Y := Y) hH hu g (I1 := a_ui I (C + 17) 5 v) (fun x j p1 p2 => g2 x j p1 (fun w => p2 ⟨w.1, by obtain ⟨i, i0, i1, e⟩ := w.2; exact ⟨i, i0, by rw [hz 0 17 (by omega)] at i1; exact i1, e⟩⟩)) (fun x j hx => by rw [ui_ap, if_neg (by omega)])
    have hJ : ∀ k j, k ≤ 43 ∧ ¬ k = 21 ∧ ¬ (k = 17 ∧ j = 5) → J (C + k) j = I (C + k) j := fun k j hk => by
      rw [f3 k j hk.1 hk.2.1, ui_ap, if_neg (by omega)]
    refine cu_gen hT hu ⟨fun k hk => funext (fun j => hz k j (by omega)), fun j hj => hz 0 j (by omega)⟩ ⟨f1, f2, hJ 14 4 (by omega), hJ 14 5 (by omega), hJ 7 3 (by omega)⟩ (by rw [hJ 1 6 (by omega), hz 0 0 (by omega)]; exact hu.1.1.1) (fun j => by rw [hJ 2 j (by omega), hz 1 j (by omega)]; exact hu.1.1.2.1 j) (lsP_e hu.1.1.2.2 (fun j => hJ 3 j (by omega)) (fun k j hk => hz k j (by unfold kL at hk; omega))) ⟨by rw [hJ 14 6 (by omega), hz 0 9 (by omega)]; exact hu.1.2.1.2.1, by rw [hz 0 9 (by omega)]; exact hu.1.2.2.2.2.2.2.2.1⟩ g3 hY ?_ (siT_e hu.2.2.1.2.1 (fun k j hk => hJ k j (by omega)) (fun k j hk => hz k j (by unfold kT at hk; omega))) (siY_e hu.2.2.1.2.2.2 (fun k j hk => hz k j (by unfold kY at hk; omega))) f4
    obtain ⟨⟨m1, m2⟩, m3, m4, m5, m6⟩ := hu.2.2.1.1
    exact ⟨⟨by rw [hJ _ _ (by omega), hz _ _ (by omega)]; exact m1, by rw [f3 _ _ (by omega) (by omega), ui_ap, if_pos ⟨rfl, rfl⟩, up_at]⟩, fun k hk => by rw [hJ _ _ (by omega), hz 38 _ (by omega), hz 36 _ (by omega)]; exact m3 k hk, fun x y hx hy => by rw [hJ _ _ (by omega), hz 35 _ (by omega)]; exact m4 x y hx hy, fun x y hx hy => by rw [hJ _ _ (by omega), hz 37 _ (by omega)]; exact m5 x y hx hy, fun x y hx hy => by rw [hJ _ _ (by omega), hz 47 _ (by omega)]; exact m6 x y hx hy⟩
end ZD1
section ZD2
variable {d n t M : Nat} {K L : Nat → Nat} {I I0 J J0 J1 J2 : Nat → Nat → Int32} {R : Nat → Nat → Nat} {P : Option Value → AH → Prop} {f : Nat → Int32} {e : Int32}
variable {Y Z W : Nat → Nat → Int32}
theorem xp_set (hS : m_S M K L R) {I1 : Nat → Nat → Int32} (hm : okY Y) {c : Nat} (hc : c + 130 ≤ 84000) (hF : mF M c I1 I) (hg : gs M I0 I Y) {w v : Int32} (hP : ∀ u J, J M 35 = I M 35 → gs M I0 J (seY Y w v) → P (some (.int u)) (n, t, K, L, J, R)) : a_does (d + 13) 179 [a_rf M, .int w, .int v] (n, t, K, L, I, R) P := by
  have hy := hm.1
  have h17 := hy.2.2.2.2.1
  have h10 := hy.2.1
  have h6 := hy.2.2.2.2.2.1
  have hl := hy.2.2.1
  have hrf : ∀ k : Nat, mF M (c + 120) I1 (a_ui I (M + 23) k (I (M + 23) k + 1)) ∧ gs M I0 (a_ui I (M + 23) k (I (M + 23) k + 1)) Y := fun k => ⟨mF_le (sF_refused hF) (by omega), gs_ui hg (sR_refused hg.1) (by omega) ⟨by unfold ps1; omega, by omega⟩⟩
  have e17 : I M 17 = Y 0 17 := hg.2.2.1 0 17 (by unfold ps1; omega)
  have e6 : I M 6 = Y 0 6 := hg.2.2.1 0 6 (by unfold ps1; omega)
  have e0 : I M 0 = Y 0 0 := hg.2.2.1 0 0 (by unfold ps1; omega)
  have m17 : ∀ x : Int32, (x ≤ Y 0 17 - 1) = (x < Y 0 17) := fun x => le_m1 h17
  have m6 : ∀ x : Int32, (x ≤ Y 0 6 - 1) = (x < Y 0 6) := fun x => le_m1 ⟨h6.1, Int32.le_trans h6.2 (by decide)⟩
  have m199 : ∀ x : Int32, (x ≤ 199) = (x < 200) := fun x => propext ⟨fun q => Int32.lt_of_le_of_lt q (by decide), fun q => by clear hP hrf hm hg hF; grind⟩
  have g9 := rg_rest hg.1
  have e9 : I M 9 = Y 0 9 := hg.2.2.1 0 9 (by unfold ps1; omega)
  have e10 : I M 10 = Y 0 10 := hg.2.2.1 0 10 (by unfold ps1; omega)
  have e11 : I M 11 = Y 0 11 := hg.2.2.1 0 11 (by unfold ps1; omega)
  have hup : ∀ x y z : Int32, (0 ≤ x ∧ x ≤ 3) → ∀ Z, Z = upY (upY (upY Y 0 9 x) 0 10 y) 0 11 z → gs M I0 (a_ui (a_ui (a_ui I M 9 x) M 10 y) M 11 z) Z := fun x y z hx Z hZ => by
    rw [hZ]
    have s1 := gs_up2 hg (k := 0) (j := 9) (v := x) (by omega) (by omega) (sR_rest hg.1 hx)
    have s2 := gs_up2 s1 (k := 0) (j := 10) (v := y) (by omega) (by omega) (sR_share s1.1)
    exact gs_up2 s2 (k := 0) (j := 11) (v := z) (by omega) (by omega) (sR_scaled s2.1)
  have hev : ∀ x y z : Int32, a_ui (a_ui (a_ui I M 9 x) M 10 y) M 11 z M 35 = I M 35 := fun x y z => by rw [ui_ap, if_neg (by omega), ui_ap, if_neg (by omega), ui_ap, if_neg (by omega)]
  unfold seY at hP
  refine pe_set (d := d + 11) hS (fun q => ?_) (fun q q2 => ?_) (fun q q2 q3 => ?_) (fun q q2 q3 => ?_) (fun q q2 q3 => ?_) (fun q q2 q3 => ?_)
  · rw [if_pos (Or.inl q)] at hP
    exact hP _ _ (by rw [ui_ap, if_neg (by omega)]) (hrf 2).2
  · rw [if_pos (Or.inr (Or.inl q2))] at hP
    exact hP _ _ (by rw [ui_ap, if_neg (by omega)]) (hrf 4).2
  · rw [if_pos (Or.inr (Or.inr q3))] at hP
    exact hP _ _ (by rw [ui_ap, if_neg (by omega)]) (hrf 6).2
  · rw [if_neg (by rw [q]; intro e; rcases e with e | e | e | e | e; exact e (by decide); exact q2 e; exact q3 e.2; exact absurd e.1 (by decide); exact absurd e.1 (by decide)), if_pos q] at hP
    refine hP _ _ (hev _ _ _) (hup _ _ _ ⟨Int32.not_lt.mp q2, Int32.not_lt.mp q3⟩ _ ?_)
    rw [up_same (Y := upY (upY Y 0 9 v) 0 10 (I M 10)) (by rw [up_no (by omega), up_no (by omega)]; exact e11.symm), up_same (Y := upY Y 0 9 v) (by rw [up_no (by omega)]; exact e10.symm)]
  · rw [if_neg (by rw [q]; intro e; rcases e with e | e | e | e | e; exact e (by decide); exact q2 e; exact absurd e.1 (by decide); exact q3 e.2; exact absurd e.1 (by decide)), if_neg (by rw [q]; decide), if_pos q] at hP
    refine hP _ _ (hev _ _ _) (hup _ _ _ g9 _ ?_)
    rw [up_same (Y := Y) e9.symm, up_same (Y := upY Y 0 10 v) (by rw [up_no (by omega)]; exact e11.symm)]
  · rw [if_neg (by rw [q]; intro e; rcases e with e | e | e | e | e; exact e (by decide); exact q2 e; exact absurd e.1 (by decide); exact absurd e.1 (by decide); exact q3 e.2), if_neg (by rw [q]; decide), if_neg (by rw [q]; decide)] at hP
    refine hP _ _ (hev _ _ _) (hup _ _ _ g9 _ ?_)
    rw [up_same (Y := Y) e9.symm, up_same (Y := Y) e10.symm]
end ZD2
end
section
/-! mark -/
section ZE0
variable {d n t C c n0 n' n'' t' : Nat} {K L K0 L0 K' L' K'' L'' : Nat → Nat} {I I0 J J0 J1 J2 : Nat → Nat → Int32} {R R0 R' R'' : Nat → Nat → Nat} {P : Option Value → AH → Prop}
variable {Y Z : Nat → Nat → Int32}
theorem bq_v {k : Nat} (hk : k < 32) (x : Int32) : ((x >>> (Int32.ofNat k &&& 31)) &&& 1) = if bq x k = true then 1 else 0 := by
  cases h : bq x k with
  | false =>
    rw [if_neg Bool.false_ne_true]
    exact (bq_at hk x).mpr h
  | true =>
    rw [if_pos rfl]
    refine bq_ext (fun i hi => ?_)
    rw [bq_and, bq_1 i hi]
    by_cases e : i = 0
    · subst e
      rw [bq_shr hk x (by decide), Nat.add_zero, if_pos hk, h]
      rfl
    · rw [decide_eq_false e, Bool.and_false]
theorem bq_vi {a : Int32} (h0 : 0 ≤ a) (h1 : a.toNatClampNeg < 32) (x : Int32) : ((x >>> (a &&& 31)) &&& 1) = if bq x a.toNatClampNeg = true then 1 else 0 := by
  have q := bq_v h1 x
  rw [← on_cl h0] at q
  exact q
theorem le_toldOf_4 (hS : cS C K L R) {a : Int32} (ha : 0 ≤ a ∧ a < 30) (hP : P (some (.int (Int32.ofNat (sm (fun x => if bq (I (C + 19) x) a.toNatClampNeg = true then 1 else 0) 6)))) (n, t, K, L, I, R)) : ∀ i : Int32, i ≤ 6 → ∀ o, 0 ≤ i → o = Int32.ofNat (sm (fun x => if bq (I (C + 19) x) a.toNatClampNeg = true then 1 else 0) i.toNatClampNeg) → a_at d (a_xm a_m94) 4 [some (a_rf (C + 17)), some (.int a), some (.int o), some (.int i)] [] (n, t, K, L, I, R) P := by
  have a30 : a.toNatClampNeg < 30 := a_lt30 ha
  refine up_ind 6 (fun i hk ih => ?_)
  intro o q0 eo
  have hend : ¬ i < 6 → P (some (.int o)) (n, t, K, L, I, R) := fun e => by
    have : i = 6 := by clear ih hP eo; grind
    subst this
    rw [eo]
    exact hP
  have hgo : i < 6 → a_at d (a_xm a_m94) 4 [some (a_rf (C + 17)), some (.int a), some (.int (o + ((I (C + 19) i.toNatClampNeg >>> (a &&& 31)) &&& 1))), some (.int (i + 1))] [] (n, t, K, L, I, R) P := fun e => by
    obtain ⟨-, s2, -, s4⟩ := lp_st q0 e
    refine ih e _ s2 ?_
    rw [s4]
    show _ = Int32.ofNat (sm (fun x => if bq (I (C + 19) x) a.toNatClampNeg = true then 1 else 0) i.toNatClampNeg + if bq (I (C + 19) i.toNatClampNeg) a.toNatClampNeg = true then 1 else 0)
    rw [Int32.ofNat_add, ← eo, bq_vi ha.1 (by omega)]
    congr 1
    split
    · rfl
    · rfl
  clear ih hP eo
  rw [q94_4]
  repeat' first
    | with_reducible apply And.intro
    | with_reducible assumption
    | with_reducible intro _
    | refine hend ?_
    | refine hgo ?_
    | simp only [q94_5, q94_7, q94_10, q94_11, q94_12, q94_15, q94_16, q94_17, q94_18, q94_19, q94_20, q94_21, q94_22, q94_23, q94_26, q94_29, q94_30, k_17 hS, z_17, r_17_2 hS, k_19 hS, l_19 hS, z_19, as_nil, as_i, as_r, Nat.reduceAdd, Nat.reduceLeDiff, z_eq0, z_eq1, z_or, z_em, Classical.not_not, not_false_eq_true, not_true_eq_false, true_and, and_true, false_and, and_false, and_self, true_implies, false_implies, implies_true, Option.toList_some, Option.toList_none, List.cons_append, List.nil_append, Nat.add_eq_zero_iff, a_nl_i, a_nl_r, a_nl_n, true_or, or_true, eq_self, a_isRA_22, a_isRA_24, a_isRA_32, a_isA_20, ok_4, ok_5, ok_6, ok_7, ok_9, ok_20, ok_21, ok_30, ok_50, ok_180, ok_192, ok_200]
  all_goals ((try clear hend); (try clear hgo); grind [ui_ap])
theorem ce_toldOf (hS : cS C K L R) {a : Int32} (ha : 0 ≤ a ∧ a < 30) (hP : P (some (.int (Int32.ofNat (sm (fun x => if bq (I (C + 19) x) a.toNatClampNeg = true then 1 else 0) 6)))) (n, t, K, L, I, R)) : a_does (d + 1) 94 [a_rf (C + 17), .int a] (n, t, K, L, I, R) P := by
  have hl := le_toldOf_4 (d := d) hS ha hP 0 (by decide) 0 (by decide) rfl
  rw [a_enter1 (M := a_m94) rfl (a_cat_rf (a_cat_int a_cat_nil)) (show 2 ≤ 4 by decide)]
  show a_at _ (a_xm a_m94) 0 [some (a_rf (C + 17)), some (.int a), none, none] [] _ _
  repeat' first
    | with_reducible apply And.intro
    | with_reducible assumption
    | with_reducible intro _
    | with_reducible apply hl
    | simp only [q94_0, q94_1, q94_2, q94_3, as_nil, as_i, as_r, Nat.reduceAdd, Nat.reduceLeDiff, z_eq0, z_eq1, z_or, z_em, Classical.not_not, not_false_eq_true, not_true_eq_false, true_and, and_true, false_and, and_false, and_self, true_implies, false_implies, implies_true, Option.toList_some, Option.toList_none, List.cons_append, List.nil_append, Nat.add_eq_zero_iff, a_nl_i, a_nl_r, a_nl_n, true_or, or_true, eq_self, a_isRA_22, a_isRA_24, a_isRA_32, a_isA_20, ok_4, ok_5, ok_6, ok_7, ok_9, ok_20, ok_21, ok_30, ok_50, ok_180, ok_192, ok_200]
  all_goals grind [ui_ap]
theorem ce_isTold (hS : cS C K L R) {r a : Int32} (hr : 0 ≤ r ∧ r < 6) (ha : 0 ≤ a ∧ a < 30) (hP : P (some (.int (if bq (I (C + 19) r.toNatClampNeg) a.toNatClampNeg = true then 1 else 0))) (n, t, K, L, I, R)) : a_does (d + 1) 93 [a_rf (C + 17), .int r, .int a] (n, t, K, L, I, R) P := by
  have a30 : a.toNatClampNeg < 30 := a_lt30 ha
  have e := bq_vi ha.1 (by omega) (I (C + 19) r.toNatClampNeg)
  have n10 : ¬ (1 : Int32) = 0 := by decide
  rw [a_enter1 (M := a_m93) rfl (a_cat_rf (a_cat_int (a_cat_int a_cat_nil))) (show 3 ≤ 3 by decide)]
  show a_at _ (a_xm a_m93) 0 [some (a_rf (C + 17)), some (.int r), some (.int a)] [] _ _
  by_cases c : bq (I (C + 19) r.toNatClampNeg) a.toNatClampNeg = true
  · rw [if_pos c] at hP e
    simp only [q93_0, q93_1, q93_4, q93_5, q93_6, q93_7, q93_8, q93_9, q93_10, q93_13, q93_14, q93_17, q93_18, k_17 hS, z_17, r_17_2 hS, k_19 hS, l_19 hS, z_19, as_nil, as_i, as_r, Nat.reduceAdd, Nat.reduceLeDiff, z_eq0, z_eq1, z_or, z_em, Classical.not_not, not_false_eq_true, not_true_eq_false, true_and, and_true, false_and, and_false, and_self, true_implies, false_implies, implies_true, Option.toList_some, Option.toList_none, List.cons_append, List.nil_append, Nat.add_eq_zero_iff, a_nl_i, a_nl_r, a_nl_n, true_or, or_true, eq_self, a_isRA_22, a_isRA_24, a_isRA_32, a_isA_20, ok_4, ok_5, ok_6, ok_7, ok_9, ok_20, ok_21, ok_30, ok_50, ok_180, ok_192, ok_200, hr, e, n10]
    try simp only [true_and, and_true, true_implies, false_implies, implies_true, not_true_eq_false, not_false_eq_true]
    first
      | exact hP
      | grind
  · rw [if_neg c] at hP e
    simp only [q93_0, q93_1, q93_4, q93_5, q93_6, q93_7, q93_8, q93_9, q93_10, q93_13, q93_14, q93_17, q93_18, k_17 hS, z_17, r_17_2 hS, k_19 hS, l_19 hS, z_19, as_nil, as_i, as_r, Nat.reduceAdd, Nat.reduceLeDiff, z_eq0, z_eq1, z_or, z_em, Classical.not_not, not_false_eq_true, not_true_eq_false, true_and, and_true, false_and, and_false, and_self, true_implies, false_implies, implies_true, Option.toList_some, Option.toList_none, List.cons_append, List.nil_append, Nat.add_eq_zero_iff, a_nl_i, a_nl_r, a_nl_n, true_or, or_true, eq_self, a_isRA_22, a_isRA_24, a_isRA_32, a_isA_20, ok_4, ok_5, ok_6, ok_7, ok_9, ok_20, ok_21, ok_30, ok_50, ok_180, ok_192, ok_200, hr, e]
    try simp only [true_and, and_true, true_implies, false_implies, implies_true, not_true_eq_false, not_false_eq_true]
    first
      | exact hP
      | grind
theorem ce_tell0 (hT : cT C K L I R) {a : Nat} (ha : K a = 1) (an0 : ¬ a = 0) {r v i g : Int32} (hr : 0 ≤ r ∧ r < 6) (hi : 0 ≤ i ∧ i < 30) (e4 : I a 4 = i) (e0 : I a 0 = g) (hk : ¬ (I (C + 18) r.toNatClampNeg >>> (g &&& 31)) &&& 1 = 0) (hP : cT C K L (a_ui I (C + 19) r.toNatClampNeg (I (C + 19) r.toNatClampNeg ||| ((1 : Int32) <<< (i &&& 31)))) R → P (some (.int 0)) (n, t, K, L, (a_ui I (C + 19) r.toNatClampNeg (I (C + 19) r.toNatClampNeg ||| ((1 : Int32) <<< (i &&& 31)))), R)) : a_does (d + 5) 95 [a_rf (C + 17), .int r, a_rf a, .int v] (n, t, K, L, I, R) P := by
  have hS := hT.s
  have a1 := (hT.g_ask _ ha).1
  have a0 : (a = 0) = False := eq_false an0
  have a19 : (a = C + 19) = False := eq_false (by omega)
  have hp := hP (sT_Panel_told hT)
  clear hP
  rw [a_enter1 (M := a_m95) rfl (a_cat_rf (a_cat_int (a_cat_rf (a_cat_int a_cat_nil)))) (show 4 ≤ 5 by decide)]
  show a_at _ (a_xm a_m95) 0 [some (a_rf (C + 17)), some (.int r), some (a_rf a), some (.int v), none] [] _ _
  simp only [q95_0, q95_1, q95_4, q95_5, q95_6, q95_7, q95_8, q95_9, q95_12, q95_13, q95_14, q95_15, q95_16, q95_19, q95_20, q95_21, q95_22, q95_25, q95_26, q95_27, q95_28, q95_31, q95_32, k_17 hS, z_17, r_17_2 hS, k_19 hS, l_19 hS, z_19, r_17_1 hS, k_18 hS, l_18 hS, z_18, as_nil, as_i, as_r, Nat.reduceAdd, Nat.reduceLeDiff, z_eq0, z_eq1, z_or, z_em, Classical.not_not, not_false_eq_true, not_true_eq_false, true_and, and_true, false_and, and_false, and_self, true_implies, false_implies, implies_true, Option.toList_some, Option.toList_none, List.cons_append, List.nil_append, Nat.add_eq_zero_iff, a_nl_i, a_nl_r, a_nl_n, true_or, or_true, eq_self, a_isRA_22, a_isRA_24, a_isRA_32, a_isA_20, ok_4, ok_5, ok_6, ok_7, ok_9, ok_20, ok_21, ok_30, ok_50, ok_180, ok_192, ok_200, ha, a0, a19, ui_ap, cc_ne, cc_n0, cc_0n, Nat.reduceEqDiff, reduceIte, if_true, if_false, hr, e4, e0, hk]
  try simp only [true_and, and_true, true_implies, false_implies, implies_true, not_true_eq_false, not_false_eq_true]
  first
    | exact hp
    | grind
theorem ce_tell1 (hT : cT C K L I R) {a : Nat} (ha : K a = 1) (an0 : ¬ a = 0) {r v i g : Int32} (hr : 0 ≤ r ∧ r < 6) (hi : 0 ≤ i ∧ i < 30) (e4 : I a 4 = i) (e0 : I a 0 = g) (hk : (I (C + 18) r.toNatClampNeg >>> (g &&& 31)) &&& 1 = 0) (hA : akP C K I R Z) (hm : cmP C (a_ui (a_ui I (C + 19) r.toNatClampNeg (I (C + 19) r.toNatClampNeg ||| ((1 : Int32) <<< (i &&& 31)))) (C + 20) (30 * r.toNatClampNeg + i.toNatClampNeg) v) Z) (hY : mkP Z) (hs : I (C + 17) 5 = Z 0 11) (hP : ∀ J, cT C K L J R → frM C K R Z (a_ui (a_ui I (C + 19) r.toNatClampNeg (I (C + 19) r.toNatClampNeg ||| ((1 : Int32) <<< (i &&& 31)))) (C + 20) (30 * r.toNatClampNeg + i.toNatClampNeg) v) J → mrP C J R Z → P (some (.int 1)) (n, t, K, L, J, R)) : a_does (d + 5) 95 [a_rf (C + 17), .int r, a_rf a, .int v] (n, t, K, L, I, R) P := by
  have hS := hT.s
  have a1 := (hT.g_ask _ ha).1
  have a0 : (a = 0) = False := eq_false an0
  have a19 : (a = C + 19) = False := eq_false (by omega)
  have a20 : (a = C + 20) = False := eq_false (by omega)
  obtain ⟨ex, hx, -⟩ := ix_180 (r := r) (a := i) hr hi
  rw [Int32.mul_comm] at ex hx
  have hA2 : akP C K (a_ui (a_ui I (C + 19) r.toNatClampNeg (I (C + 19) r.toNatClampNeg ||| ((1 : Int32) <<< (i &&& 31)))) (C + 20) (30 * r.toNatClampNeg + i.toNatClampNeg) v) R Z := fun o o0 o1 => by
    obtain ⟨k1, k2, k3⟩ := hA o o0 o1
    have := (hT.g_ask _ k1).1
    exact ⟨k1, k2, by rw [ui_ap, if_neg (by omega), ui_ap, if_neg (by omega)]; exact k3⟩
  have hcl : a_does (d + 4) 27 [a_rf (C + 17)] (n, t, K, L, (a_ui (a_ui I (C + 19) r.toNatClampNeg (I (C + 19) r.toNatClampNeg ||| ((1 : Int32) <<< (i &&& 31)))) (C + 20) (30 * r.toNatClampNeg + i.toNatClampNeg) v), R) (fun q h' => a_at (d + 4) (a_xm a_m95) 71 [some (a_rf (C + 17)), some (.int r), some (a_rf a), some (.int v), some (.int (r * 30 + i))] (q.toList ++ []) h' P) := by
    refine ce_reckonMarks (sT_Panel_marks (sT_Panel_told hT)) hA2 hm hY (by rw [ui_ap, if_neg (by omega), ui_ap, if_neg (by omega)]; exact hs) (fun J g1 g2 g3 => ?_)
    have hp := hP J g1 g2 g3
    clear hP hA hm hY hA2 g2 g3
    simp only [q95_71, q95_72, as_nil, as_i, as_r, Nat.reduceAdd, Nat.reduceLeDiff, z_eq0, z_eq1, z_or, z_em, Classical.not_not, not_false_eq_true, not_true_eq_false, true_and, and_true, false_and, and_false, and_self, true_implies, false_implies, implies_true, Option.toList_some, Option.toList_none, List.cons_append, List.nil_append, Nat.add_eq_zero_iff, a_nl_i, a_nl_r, a_nl_n, true_or, or_true, eq_self, a_isRA_22, a_isRA_24, a_isRA_32, a_isA_20, ok_4, ok_5, ok_6, ok_7, ok_9, ok_20, ok_21, ok_30, ok_50, ok_180, ok_192, ok_200]
    exact hp
  have h180 : ¬ 180 ≤ r * 30 + i := Int32.not_le.mpr hx.2
  have h0 : ¬ r * 30 + i < 0 := Int32.not_lt.mpr hx.1
  clear hP hA hm hY hA2
  rw [a_enter1 (M := a_m95) rfl (a_cat_rf (a_cat_int (a_cat_rf (a_cat_int a_cat_nil)))) (show 4 ≤ 5 by decide)]
  show a_at _ (a_xm a_m95) 0 [some (a_rf (C + 17)), some (.int r), some (a_rf a), some (.int v), none] [] _ _
  simp only [q95_0, q95_1, q95_4, q95_5, q95_6, q95_7, q95_8, q95_9, q95_12, q95_13, q95_14, q95_15, q95_16, q95_19, q95_20, q95_21, q95_22, q95_25, q95_26, q95_27, q95_28, q95_33, q95_34, q95_36, q95_37, q95_38, q95_41, q95_42, q95_44, q95_46, q95_49, q95_51, q95_52, q95_55, q95_56, q95_59, q95_60, q95_63, q95_65, q95_66, q95_67, q95_68, k_17 hS, z_17, r_17_2 hS, k_19 hS, l_19 hS, z_19, r_17_1 hS, k_18 hS, l_18 hS, z_18, r_17_3 hS, k_20 hS, l_20 hS, z_20, as_nil, as_i, as_r, Nat.reduceAdd, Nat.reduceLeDiff, z_eq0, z_eq1, z_or, z_em, Classical.not_not, not_false_eq_true, not_true_eq_false, true_and, and_true, false_and, and_false, and_self, true_implies, false_implies, implies_true, Option.toList_some, Option.toList_none, List.cons_append, List.nil_append, Nat.add_eq_zero_iff, a_nl_i, a_nl_r, a_nl_n, true_or, or_true, eq_self, a_isRA_22, a_isRA_24, a_isRA_32, a_isA_20, ok_4, ok_5, ok_6, ok_7, ok_9, ok_20, ok_21, ok_30, ok_50, ok_180, ok_192, ok_200, ha, a0, a19, a20, of_180, ui_ap, cc_ne, cc_n0, cc_0n, Nat.reduceEqDiff, reduceIte, if_true, if_false, hr, e4, e0, hk, h180, h0, ex, hx]
  try simp only [true_and, and_true, true_implies, false_implies, implies_true, not_true_eq_false, not_false_eq_true]
  first
    | exact hcl
    | grind
end ZE0
section ZE1
variable {d n t C c : Nat} {K L : Nat → Nat} {I I0 J J0 J1 J2 : Nat → Nat → Int32} {R : Nat → Nat → Nat} {P : Option Value → AH → Prop}
variable {Y Z W : Nat → Nat → Int32} {R' R1 : Nat → Nat → Nat} {K' L' : Nat → Nat}
/-- the words behind a mark -/
def mrW (Y : Nat → Nat → Int32) (r a v : Int32) : Nat → Nat → Int32 := upY (upY (upY Y 37 (30 * r.toNatClampNeg + a.toNatClampNeg) 1) 36 (30 * r.toNatClampNeg + a.toNatClampNeg) v) 38 (30 * r.toNatClampNeg + a.toNatClampNeg) (if Y 35 (10 * r.toNatClampNeg + (Y 8 a.toNatClampNeg).toNatClampNeg) = 0 then 1 else 0)
def mrY (Y : Nat → Nat → Int32) (r a v : Int32) : Int32 × (Nat → Nat → Int32) := if ¬ ((0 ≤ r ∧ r < 6) ∧ (0 ≤ a ∧ a < Y 0 17)) then (-1, Y) else if ¬ Y 37 (30 * r.toNatClampNeg + a.toNatClampNeg) = 0 ∨ sm (fun x => if Y 37 (30 * x + a.toNatClampNeg) = 0 then 0 else 1) 6 = 3 then (-3, Y) else if v < 0 then (-4, Y) else if 100 < v then (-6, Y) else (if Y 35 (10 * r.toNatClampNeg + (Y 8 a.toNatClampNeg).toNatClampNeg) = 0 then 1 else 0, mrW Y r a v)
theorem mw_no {r a v : Int32} {k j : Nat} (h : ¬ ((36 ≤ k ∧ k ≤ 38) ∧ j = (30 * r.toNatClampNeg + a.toNatClampNeg))) : mrW Y r a v k j = Y k j := by
  unfold mrW
  rw [up_no (by omega), up_no (by omega), up_no (by omega)]
theorem mw_at {r a v : Int32} : mrW Y r a v 37 (30 * r.toNatClampNeg + a.toNatClampNeg) = 1 ∧ mrW Y r a v 36 (30 * r.toNatClampNeg + a.toNatClampNeg) = v ∧ mrW Y r a v 38 (30 * r.toNatClampNeg + a.toNatClampNeg) = if Y 35 (10 * r.toNatClampNeg + (Y 8 a.toNatClampNeg).toNatClampNeg) = 0 then 1 else 0 := by
  unfold mrW
  refine ⟨?_, ?_, up_at⟩
  · rw [up_no (by omega), up_no (by omega), up_at]
  · rw [up_no (by omega), up_at]
/-- what is told stays sound -/
theorem sy_mw (hs : siY Y) {r a v : Int32} (hr : 0 ≤ r ∧ r < 6) (ha : 0 ≤ a ∧ a < Y 0 17) (h17 : 0 ≤ Y 0 17 ∧ Y 0 17 ≤ 30) (h3 : ¬ sm (fun x => if Y 37 (30 * x + a.toNatClampNeg) = 0 then 0 else 1) 6 = 3) (h37 : Y 37 (30 * r.toNatClampNeg + a.toNatClampNeg) = 0) : siY (mrW Y r a v) := by
  obtain ⟨y1, y2, y3, y4, y5, y6, y7, y8⟩ := hs
  obtain ⟨b1, b2, b3⟩ := mw_at (Y := Y) (r := r) (a := a) (v := v)
  obtain ⟨-, -, r6, a30⟩ := ix_180 (r := r) (a := a) hr ⟨ha.1, Int32.lt_of_lt_of_le ha.2 h17.2⟩
  have aN : a.toNatClampNeg < (Y 0 17).toNatClampNeg := cl_lt ha.1 ha.2
  have zr : ∀ k, ¬ (36 ≤ k ∧ k ≤ 38) → mrW Y r a v k = Y k := fun k hk => funext (fun j => mw_no (by omega))
  have wt : ∀ x, wtY (mrW Y r a v) x = wtY Y x := fun x => by
    unfold wtY
    rw [zr 28 (by omega)]
  unfold siY
  rw [zr 0 (by omega), zr 2 (by omega), zr 3 (by omega), zr 4 (by omega), zr 47 (by omega)]
  refine ⟨fun k q => ?_, fun x p hx hp hle => ?_, fun p hp => ?_, y4, fun x hx => by rw [wt, zr 29 (by omega)]; exact y5 x hx, y6, y7, y8⟩
  · by_cases e : k = (30 * r.toNatClampNeg + a.toNatClampNeg)
    · rw [e, b1]
      decide
    · rw [mw_no (by omega)] at q ⊢
      exact y1 k q
  · rw [mw_no (by omega)]
    exact y2 x p hx hp hle
  · by_cases e : p = a.toNatClampNeg
    · rw [e]
      have hsum := y3 a.toNatClampNeg a30
      have heq : sm (fun x => if mrW Y r a v 37 (30 * x + a.toNatClampNeg) = 0 then 0 else 1) 6 = sm (fun x => if x = r.toNatClampNeg then 1 else (fun x => if Y 37 (30 * x + a.toNatClampNeg) = 0 then 0 else 1) x) 6 := sm_eq (fun x hx => by
        show (if mrW Y r a v 37 (30 * x + a.toNatClampNeg) = 0 then 0 else 1) = if x = r.toNatClampNeg then 1 else if Y 37 (30 * x + a.toNatClampNeg) = 0 then 0 else 1
        by_cases e2 : x = r.toNatClampNeg
        · rw [if_pos e2, e2, b1, if_neg (by decide)]
        · rw [if_neg e2, mw_no (by omega)])
      have hup := sm_up (g := (fun x => if Y 37 (30 * x + a.toNatClampNeg) = 0 then 0 else 1)) (k := r.toNatClampNeg) (v := 1) (m := 6) r6
      rw [if_pos h37] at hup
      dsimp only at heq
      rw [heq]
      omega
    · have heq : sm (fun x => if mrW Y r a v 37 (30 * x + p) = 0 then 0 else 1) 6 = sm (fun x => if Y 37 (30 * x + p) = 0 then 0 else 1) 6 := sm_eq (fun x hx => by
        show (if mrW Y r a v 37 (30 * x + p) = 0 then 0 else 1) = if Y 37 (30 * x + p) = 0 then 0 else 1
        rw [mw_no (by omega)])
      rw [heq]
      exact y3 p hp
theorem mk_mw (hs : mkP Y) {r a v : Int32} (hv : 0 ≤ v ∧ v ≤ 100) : mkP (mrW Y r a v) := fun k q => by
  obtain ⟨b1, b2, b3⟩ := mw_at (Y := Y) (r := r) (a := a) (v := v)
  by_cases e : k = (30 * r.toNatClampNeg + a.toNatClampNeg)
  · rw [e, b2]
    exact hv
  · rw [mw_no (by omega)] at q ⊢
    exact hs k q
theorem told_eq (hs : siM C I Y) {a : Int32} (a30 : a.toNatClampNeg < 30) : sm (fun x => if bq (I (C + 19) x) a.toNatClampNeg = true then 1 else 0) 6 = sm (fun x => if Y 37 (30 * x + a.toNatClampNeg) = 0 then 0 else 1) 6 := sm_eq (fun x hx => by
  have q := hs.2.2.2.1 x a.toNatClampNeg hx a30
  show (if bq (I (C + 19) x) a.toNatClampNeg = true then 1 else 0) = if Y 37 (30 * x + a.toNatClampNeg) = 0 then 0 else 1
  by_cases c : Y 37 (30 * x + a.toNatClampNeg) = 0
  · rw [if_pos c, if_neg (fun w => q.mp w c)]
  · rw [if_neg c, if_pos (q.mpr c)])
end ZE1
end

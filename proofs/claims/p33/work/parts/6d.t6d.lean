/-! one cell of an ASK changes -/
section YN0
variable {d n t C c : Nat} {K L : Nat → Nat} {I I0 J J0 J1 J2 : Nat → Nat → Int32} {R : Nat → Nat → Nat} {P : Option Value → AH → Prop}
variable {Y Z W : Nat → Nat → Int32} {R' R1 : Nat → Nat → Nat} {K' L' : Nat → Nat}
def upY (Y : Nat → Nat → Int32) (k j : Nat) (v : Int32) : Nat → Nat → Int32 := fun x i => if x = k ∧ i = j then v else Y x i
/-- all rows but danger, withdrawn, repaid -/
def rwE (Y Z : Nat → Nat → Int32) : Prop := ∀ k, ¬ k = 15 → ¬ k = 18 → ¬ k = 19 → ¬ k = 31 → Z k = Y k
theorem rw_up9 {k j : Nat} {v : Int32} (hk : k = 15 ∨ k = 18 ∨ k = 19 ∨ k = 31) : rwE Y (upY Y k j v) := fun x h1 h2 h3 h4 => funext (fun i => by unfold upY; rw [if_neg (by omega)])
theorem up_at {k j : Nat} {v : Int32} : upY Y k j v k j = v := by unfold upY; rw [if_pos ⟨rfl, rfl⟩]
theorem up_no {k j x i : Nat} {v : Int32} (h : ¬ (x = k ∧ i = j)) : upY Y k j v x i = Y x i := by unfold upY; rw [if_neg h]
theorem psE_up (h : psE Y W) {k j : Nat} {v : Int32} (hk : k = 15 ∨ k = 18 ∨ k = 19) : psE (upY Y k j v) (upY W k j v) := by
  refine ⟨fun x i p => ?_, fun o o0 o1 o2 i i0 i1 => ?_⟩
  · by_cases e : x = k ∧ i = j
    · rw [e.1, e.2, up_at, up_at]
    · rw [up_no e, up_no e]
      exact h.1 x i p
  · rw [up_no (by omega)] at o2 i1
    rw [up_no (by omega), up_no (by omega)]
    exact h.2 o o0 o1 o2 i i0 i1
theorem gs_up {M : Nat} (hg : gs M I0 I Y) {k j : Nat} {v : Int32} (hk : k = 15 ∨ k = 18 ∨ k = 19) (hR : mR M (a_ui I (M + k) j v)) : gs M I0 (a_ui I (M + k) j v) (upY Y k j v) := by
  refine ⟨hR, fun x i p => by rw [ui_ap, if_neg (by omega)]; exact hg.2.1 x i p, ?_⟩
  have e : yv M (a_ui I (M + k) j v) = upY (yv M I) k j v := by
    funext x i
    unfold upY
    show a_ui I (M + k) j v (M + x) i = if x = k ∧ i = j then v else I (M + x) i
    rw [ui_ap]
    by_cases e : x = k ∧ i = j
    · rw [if_pos ⟨by omega, e.2⟩, if_pos e]
    · rw [if_neg (fun q => e ⟨by omega, q.2⟩), if_neg e]
  rw [e]
  exact psE_up hg.2.2 hk
theorem yo_rw (hr : rwE Y Z) (h : yoP Y) : yoP Z := by
  unfold yoP inP mkP hbP at h ⊢
  rw [hr 0 (by omega) (by omega) (by omega) (by omega), hr 10 (by omega) (by omega) (by omega) (by omega), hr 20 (by omega) (by omega) (by omega) (by omega), hr 21 (by omega) (by omega) (by omega) (by omega), hr 38 (by omega) (by omega) (by omega) (by omega), hr 36 (by omega) (by omega) (by omega) (by omega), hr 6 (by omega) (by omega) (by omega) (by omega), hr 7 (by omega) (by omega) (by omega) (by omega), hr 16 (by omega) (by omega) (by omega) (by omega)]
  exact h
theorem wt_rw (hr : rwE Y Z) {t : Nat} : wtY Z t = wtY Y t := by
  unfold wtY
  rw [hr 28 (by omega) (by omega) (by omega) (by omega)]
theorem wv_rw (hr : rwE Y Z) {t : Nat} : wvY Z t = wvY Y t := by
  funext fc
  unfold wvY
  rw [wt_rw hr, hr 29 (by omega) (by omega) (by omega) (by omega)]
theorem mk_rw (hr : rwE Y Z) : cmY Z = cmY Y ∧ hsY Z = hsY Y := by
  have e : cmY Z = cmY Y := by
    funext r a
    unfold cmY
    rw [hr 38 (by omega) (by omega) (by omega) (by omega), hr 36 (by omega) (by omega) (by omega) (by omega)]
  refine ⟨e, ?_⟩
  funext r
  unfold hsY
  rw [e, hr 0 (by omega) (by omega) (by omega) (by omega)]
theorem li_rw (hr : rwE Y Z) {s : Int32} : liY Z s = liY Y s := by
  have e : lkY Z = lkY Y := by
    funext h
    unfold lkY
    rw [hr 0 (by omega) (by omega) (by omega) (by omega), hr 2 (by omega) (by omega) (by omega) (by omega), hr 3 (by omega) (by omega) (by omega) (by omega), hr 4 (by omega) (by omega) (by omega) (by omega)]
  unfold liY
  rw [e]
theorem sy_rw (hr : rwE Y Z) (h : siY Y) : siY Z := by
  obtain ⟨h1, h2, h3, h4, h5, h6⟩ := h
  unfold siY
  rw [hr 38 (by omega) (by omega) (by omega) (by omega), hr 37 (by omega) (by omega) (by omega) (by omega), hr 47 (by omega) (by omega) (by omega) (by omega), hr 0 (by omega) (by omega) (by omega) (by omega), hr 2 (by omega) (by omega) (by omega) (by omega), hr 3 (by omega) (by omega) (by omega) (by omega), hr 4 (by omega) (by omega) (by omega) (by omega)]
  refine ⟨h1, h2, h3, h4, fun x hx => ?_, h6⟩
  rw [hr 0 (by omega) (by omega) (by omega) (by omega)] at hx
  rw [wt_rw hr, hr 29 (by omega) (by omega) (by omega) (by omega)]
  exact h5 x hx
theorem ok_rw (hr : rwE Y Z) (h : okY Y) : okY Z := by
  obtain ⟨h1, ⟨m1, m2, m3, m4, m5⟩, h3⟩ := h
  have hy := yo_rw hr h1
  refine ⟨hy, ⟨hy.2.2.2.2.2.2.2.1, fun x hx => ?_, ?_, hy.2.2.2.2.2.2.1, hy.2.2.2.2.2.2.2.2.1⟩, by rw [hr 0 (by omega) (by omega) (by omega) (by omega)]; exact h3⟩
  · rw [hr 0 (by omega) (by omega) (by omega) (by omega)] at hx
    rw [wt_rw hr, hr 29 (by omega) (by omega) (by omega) (by omega)]
    exact m2 x hx
  · rw [hr 0 (by omega) (by omega) (by omega) (by omega), hr 2 (by omega) (by omega) (by omega) (by omega), hr 3 (by omega) (by omega) (by omega) (by omega)]
    exact m3
theorem no_rw (hr : rwE Y Z) (h : noP Y) : noP Z := by
  unfold noP
  rw [hr 20 (by omega) (by omega) (by omega) (by omega), hr 21 (by omega) (by omega) (by omega) (by omega)]
  exact h
/-- the class's cell of one ASK changes with the model's -/
theorem cp_af (hT : cT C K L I R) (hc : cpP C K L I R Y) {i : Int32} (ai : 0 ≤ i ∧ i < Y 0 17) (hr : rwE Y Z) {j : Nat} {v : Int32} (h31 : Z 31 = Y 31) (hj : j = 9 ∨ j = 15 ∨ j = 16) (hal : alP (a_ui I (R (C + 15) i.toNatClampNeg) j v) Z i (R (C + 15) i.toNatClampNeg)) (ho : ∀ x, ¬ x = i.toNatClampNeg → Z 15 x = Y 15 x ∧ Z 18 x = Y 18 x ∧ Z 19 x = Y 19 x) : cpP C K L (a_ui I (R (C + 15) i.toNatClampNeg) j v) R Z := by
  obtain ⟨⟨p1, p2, p3⟩, ⟨q1, q2, q3, q4⟩, ⟨r1, r2, r3, r4⟩, ⟨x1, x2⟩, hy⟩ := hc
  have ha := (r2 i ai.1 ai.2).1
  have a1 := (hT.g_ask _ ha).1
  have z0 : Z 0 = Y 0 := hr 0 (by omega) (by omega) (by omega) (by omega)
  have hJ : ∀ x k, ¬ x = (R (C + 15) i.toNatClampNeg) → a_ui I (R (C + 15) i.toNatClampNeg) j v x k = I x k := fun x k e => by rw [ui_ap, if_neg (fun q => e q.1)]
  have cin : ∀ k, k ≤ 43 → ∀ m, a_ui I (R (C + 15) i.toNatClampNeg) j v (C + k) m = I (C + k) m := fun k hk m => hJ _ _ (by omega)
  have h20 : ∀ x m, K x = 20 → a_ui I (R (C + 15) i.toNatClampNeg) j v x m = I x m := fun x m kx => hJ _ _ (fun e => by rw [e, ha] at kx; cases kx)
  refine ⟨⟨by rw [cin _ (by omega), z0]; exact p1, fun m => by rw [cin _ (by omega), hr 1 (by omega) (by omega) (by omega) (by omega)]; exact p2 m, fun s s0 s1 => by rw [cin _ (by omega), li_rw hr]; exact p3 s s0 s1⟩, ⟨by rw [cin _ (by omega), z0]; exact q1, by rw [cin _ (by omega), z0]; exact q2, fun b b0 b1 => ?_, ?_⟩, ⟨by rw [cin _ (by omega), z0]; exact r1, fun o o0 o1 => ?_, fun o o0 o1 => ?_, fun o o0 o1 => ?_⟩, ⟨by rw [cin _ (by omega), z0]; exact x1, fun k k0 k1 => ?_⟩, yo_rw hr hy⟩
  · rw [z0] at b1
    obtain ⟨k1, k2, k3, k4⟩ := q3 b b0 b1
    have hne : ¬ R (C + 16) b.toNatClampNeg = (R (C + 15) i.toNatClampNeg) := fun e => by rw [e, ha] at k1; cases k1
    rw [hJ _ _ hne, hJ _ _ hne, hr 5 (by omega) (by omega) (by omega) (by omega), hr 6 (by omega) (by omega) (by omega) (by omega)]
    exact ⟨k1, k2, k3, k4⟩
  · have hq : plP (whC C (a_ui I (R (C + 15) i.toNatClampNeg) j v) R) (snC C (a_ui I (R (C + 15) i.toNatClampNeg) j v) R) Y := plP_eq q4 (fun b b0 b1 => by
      have g := (hT.g_bnc _ (q3 b b0 b1).1).2.1.2.1
      unfold whC
      funext m
      exact h20 _ _ g) (fun b b0 b1 => by
      have g := (hT.g_bnc _ (q3 b b0 b1).1).2.2.1.2.1
      unfold snC
      funext m
      exact h20 _ _ g)
    unfold plP at hq ⊢
    rw [z0, hr 20 (by omega) (by omega) (by omega) (by omega), hr 21 (by omega) (by omega) (by omega) (by omega), hr 10 (by omega) (by omega) (by omega) (by omega), hr 22 (by omega) (by omega) (by omega) (by omega)]
    exact hq
  · rw [z0] at o1
    obtain ⟨k1, k2, k3⟩ := r2 o o0 o1
    refine ⟨k1, k2, ?_⟩
    rw [ui_ap, if_neg (by omega)]
    exact k3
  · rw [z0] at o1
    rw [ui_ap, if_neg (by omega), (mk_rw hr).1, (mk_rw hr).2]
    exact r3 o o0 o1
  · rw [z0] at o1
    by_cases e : o = i
    · rw [e]
      exact hal
    · have hne : ¬ R (C + 15) o.toNatClampNeg = (R (C + 15) i.toNatClampNeg) := fun q => e (by rw [← (r2 o o0 o1).2.2, q, (r2 i ai.1 ai.2).2.2])
      have hno : ¬ o.toNatClampNeg = i.toNatClampNeg := fun q => e (cl_inj o0 ai.1 q)
      obtain ⟨w1, w2, w3⟩ := ho o.toNatClampNeg hno
      have hl := r4 o o0 o1
      unfold alP at hl ⊢
      simp only [hJ _ _ hne, hr 8 (by omega) (by omega) (by omega) (by omega), hr 9 (by omega) (by omega) (by omega) (by omega), hr 10 (by omega) (by omega) (by omega) (by omega), hr 11 (by omega) (by omega) (by omega) (by omega), hr 7 (by omega) (by omega) (by omega) (by omega), hr 12 (by omega) (by omega) (by omega) (by omega), hr 13 (by omega) (by omega) (by omega) (by omega), hr 14 (by omega) (by omega) (by omega) (by omega), hr 16 (by omega) (by omega) (by omega) (by omega), hr 17 (by omega) (by omega) (by omega) (by omega), hr 20 (by omega) (by omega) (by omega) (by omega), hr 21 (by omega) (by omega) (by omega) (by omega), w1, w2, w3]
      exact hl
  · rw [z0] at k1
    obtain ⟨k11, k12, k13, k14, k15, k16⟩ := x2 k k0 k1
    have hne : ¬ R (C + 8) k.toNatClampNeg = (R (C + 15) i.toNatClampNeg) := fun e => by rw [e, ha] at k11; cases k11
    have hcd : a_ui I (R (C + 15) i.toNatClampNeg) j v (R (R (C + 8) k.toNatClampNeg) 2) = I (R (R (C + 8) k.toNatClampNeg) 2) := funext (fun m => h20 _ _ (hT.g_txt _ k11).2.2.1)
    rw [hJ _ _ hne, hJ _ _ hne, hJ _ _ hne, hcd, wt_rw hr, wv_rw hr, hr 30 (by omega) (by omega) (by omega) (by omega), h31]
    exact ⟨k11, k12, k13, k14, k15, k16⟩
theorem cu_af {m : Nat} (hH : cH C c m t K L I R) (hu : cuP C K L I R Y) {i : Int32} (ai : 0 ≤ i ∧ i < Y 0 17) (hr : rwE Y Z) {j : Nat} {v : Int32} (h31 : Z 31 = Y 31) (hj : j = 9 ∨ j = 15 ∨ j = 16) (hal : alP (a_ui I (R (C + 15) i.toNatClampNeg) j v) Z i (R (C + 15) i.toNatClampNeg)) (ho : ∀ x, ¬ x = i.toNatClampNeg → Z 15 x = Y 15 x ∧ Z 18 x = Y 18 x ∧ Z 19 x = Y 19 x) : cuP C K L (a_ui I (R (C + 15) i.toNatClampNeg) j v) R Z := by
  have hT := hH.1
  have ha := (hu.1.2.2.1.2.1 i ai.1 ai.2).1
  have a1 := (hT.g_ask _ ha).1
  have z0 : Z 0 = Y 0 := hr 0 (by omega) (by omega) (by omega) (by omega)
  have hJ : ∀ x k, ¬ x = (R (C + 15) i.toNatClampNeg) → a_ui I (R (C + 15) i.toNatClampNeg) j v x k = I x k := fun x k e => by rw [ui_ap, if_neg (fun q => e q.1)]
  have cin : ∀ k, k ≤ 43 → ∀ m, a_ui I (R (C + 15) i.toNatClampNeg) j v (C + k) m = I (C + k) m := fun k hk m => hJ _ _ (by omega)
  have c0 : a_ui I (R (C + 15) i.toNatClampNeg) j v C 10 = I C 10 := cin 0 (by omega) 10
  have hc := cp_af hT hu.1 ai hr h31 hj hal ho
  have hu1 := hu.1
  obtain ⟨-, hse, ⟨⟨⟨h1, h2⟩, h3, h4, h5, h6⟩, ⟨⟨t1, t2⟩, ⟨t3, t4⟩, t5, t6⟩, ⟨d1, d2⟩, hy⟩, hno, hst⟩ := hu
  refine ⟨hc, by unfold seP; rw [z0]; exact hse, ⟨⟨⟨by rw [cin _ (by omega), z0]; exact h1, by rw [cin _ (by omega), z0]; exact h2⟩, fun k hk => by rw [cin _ (by omega), hr 38 (by omega) (by omega) (by omega) (by omega), hr 36 (by omega) (by omega) (by omega) (by omega)]; exact h3 k hk, fun r g hr' hg => by rw [cin _ (by omega), hr 35 (by omega) (by omega) (by omega) (by omega)]; exact h4 r g hr' hg, fun r a hr' ha => by rw [cin _ (by omega), hr 37 (by omega) (by omega) (by omega) (by omega)]; exact h5 r a hr' ha, fun a o ha ho => by rw [cin _ (by omega), hr 47 (by omega) (by omega) (by omega) (by omega)]; exact h6 a o ha ho⟩, ⟨⟨by rw [cin _ (by omega), z0]; exact t1, fun j hj => by rw [z0] at hj; rw [cin _ (by omega), cin _ (by omega), cin _ (by omega), hr 2 (by omega) (by omega) (by omega) (by omega), hr 3 (by omega) (by omega) (by omega) (by omega), hr 4 (by omega) (by omega) (by omega) (by omega)]; exact t2 j hj⟩, ⟨by rw [cin _ (by omega), z0]; exact t3, fun j => by rw [cin _ (by omega), hr 27 (by omega) (by omega) (by omega) (by omega)]; exact t4 j⟩, by rw [c0, z0]; exact t5, fun j hj => by rw [z0] at hj; rw [cin _ (by omega), hr 52 (by omega) (by omega) (by omega) (by omega)]; exact t6 j hj⟩, ⟨by rw [z0]; exact d1, fun hd => ?_⟩, sy_rw hr hy⟩, no_rw hr hno, ?_⟩
  rotate_left
  · have q := stP_f hu1 hst (J := a_ui I (R (C + 15) i.toNatClampNeg) j v) (R' := R) (fun x hx => hJ _ _ (fun e => by rw [e, ha] at hx; cases hx)) (fun _ => rfl)
    unfold stP at q ⊢
    rw [z0, h31]
    exact q
  obtain ⟨e1, e2, e3, e4⟩ := d2 hd
  have hne : ¬ R C 11 = (R (C + 15) i.toNatClampNeg) := fun e => e4 i ai.1 ai.2 e.symm
  simp only [hJ _ _ hne, z0]
  exact ⟨e1, e2, e3, e4⟩
end YN0
/-! what was had: the class, phase by phase -/
def gvC (C : Nat) (IB : Nat → Nat → Int32) (RB : Nat → Nat → Nat) (WB : Nat → Nat → Int32) (m : Nat) (J : Nat → Nat → Int32) (R : Nat → Nat → Nat) (W : Nat → Nat → Int32) : Prop := ciP C J R W m ∧ J (C + 1) 6 = IB (C + 1) 6 ∧ W 0 6 = WB 0 6 ∧ gvH (WB 0 6) (IB (C + 1) 6) WB W (hdC C IB RB) (ldC C IB RB) (hdC C J R) (ldC C J R)
def tkC (C : Nat) (IB : Nat → Nat → Int32) (RB : Nat → Nat → Nat) (WB : Nat → Nat → Int32) (m : Nat) (J : Nat → Nat → Int32) (R : Nat → Nat → Nat) (W : Nat → Nat → Int32) : Prop := ciP C J R W m ∧ J (C + 1) 6 = IB (C + 1) 6 ∧ W 0 6 = WB 0 6 ∧ tkH (WB 0 6) (IB (C + 1) 6) WB W (hdC C IB RB) (ldC C IB RB) (hdC C J R) (ldC C J R)
/-- the cells that the class's history hangs on stay -/
def hfE (C : Nat) (K : Nat → Nat) (I : Nat → Nat → Int32) (R : Nat → Nat → Nat) (J : Nat → Nat → Int32) (R' : Nat → Nat → Nat) : Prop := (∀ x j, C + 96 < x → (K x = 20 ∨ K x = 3) → J x j = I x j) ∧ J (C + 1) 6 = I (C + 1) 6 ∧ (∀ x j, (x = C + 16 ∨ K x = 3) → R' x j = R x j) ∧ ∀ x j, C + 44 ≤ x → x ≤ C + 96 → J x j = I x j
section HG0
variable {d n t C c : Nat} {K L : Nat → Nat} {I I0 J J0 J1 J2 : Nat → Nat → Int32} {R : Nat → Nat → Nat} {P : Option Value → AH → Prop}
variable {Q : Nat → Prop} {Y Z W WB : Nat → Nat → Int32} {IB JB : Nat → Nat → Int32} {RB R' R1 R2 : Nat → Nat → Nat} {K' L' : Nat → Nat} {nb n0 : Int32} {hd hd1 hd2 : Int32 → Int32 → Int32 → Int32} {ld ld1 ld2 : Int32 → Int32 → Int32} {m m' : Nat}
theorem gvH_x (h : gvH nb n0 Y W hd ld hd1 ld1) (e : ∀ c t : Int32, (0 ≤ c ∧ c < nb) → (0 ≤ t ∧ t < 200) → (∀ k, hd2 c t k = hd1 c t k) ∧ ld2 c t = ld1 c t) : gvH nb n0 Y W hd ld hd2 ld2 := by
  obtain ⟨h1, h2, h3, h4⟩ := h
  refine ⟨fun c t hc ht => ?_, fun c t hc ht => ?_, h3, h4⟩
  · obtain ⟨e1, e2⟩ := e c t hc ht
    simp only [e1]
    exact h1 c t hc ht
  · obtain ⟨e1, e2⟩ := e c t hc ht
    simp only [e1, e2]
    exact h2 c t hc ht
theorem tkH_x (h : tkH nb n0 Y W hd ld hd1 ld1) (e : ∀ c t : Int32, (0 ≤ c ∧ c < nb) → (0 ≤ t ∧ t < 200) → (∀ k, hd2 c t k = hd1 c t k) ∧ ld2 c t = ld1 c t) : tkH nb n0 Y W hd ld hd2 ld2 := by
  obtain ⟨h1, h2, h3, h4⟩ := h
  refine ⟨fun c t hc ht => ?_, fun c t hc ht => ?_, h3, h4⟩
  · obtain ⟨e1, e2⟩ := e c t hc ht
    simp only [e1]
    exact h1 c t hc ht
  · obtain ⟨e1, e2⟩ := e c t hc ht
    simp only [e1, e2]
    exact h2 c t hc ht
theorem hf_refl : hfE C K I R I R := ⟨fun _ _ _ _ => rfl, rfl, fun _ _ _ => rfl, fun _ _ _ _ => rfl⟩
theorem hf_tr (h : hfE C K I R J R1) (h2 : hfE C K J R1 J2 R2) : hfE C K I R J2 R2 := ⟨fun x j q r => (h2.1 x j q r).trans (h.1 x j q r), h2.2.1.trans h.2.1, fun x j q => (h2.2.2.1 x j q).trans (h.2.2.1 x j q), fun x j p q => (h2.2.2.2 x j p q).trans (h.2.2.2 x j p q)⟩
theorem hf_C (h : dC C K L R J J2) : hfE C K J R J2 R := ⟨fun x j q _ => h.2 x j (by omega) (by omega), h.2 _ _ (by omega) (by omega), fun _ _ _ => rfl, fun x j p q => h.2 x j (by omega) (by omega)⟩
theorem hf_ui {k j : Nat} {v : Int32} (hk : k ≤ 43) (hn : ¬ k = 1) : hfE C K J R (a_ui J (C + k) j v) R := ⟨fun x i q _ => by rw [ui_ap, if_neg (by omega)], by rw [ui_ap, if_neg (by omega)], fun _ _ _ => rfl, fun x i p q => by rw [ui_ap, if_neg (by omega)]⟩
theorem hf_rf (hT : cT C K L J R) (h : rfP C R R') : hfE C K J R J R' := ⟨fun _ _ _ _ => rfl, rfl, fun x j q => by
  have : K x = 3 → C + 96 < x := fun e => (hT.g_bnc x e).1
  exact h x j (by omega) (by omega) (by omega), fun _ _ _ _ => rfl⟩
theorem hf_vw (hT : cT C K L I R) (hc : cpP C K L I R W) (e : hfE C K I R J R') {c : Int32} (c0 : 0 ≤ c) (c1 : c < W 0 6) : chC C J R' c = chC C I R c ∧ whC C J R' c = whC C I R c ∧ paC C J R' c = paC C I R c ∧ pcC C J R' c = pcC C I R c ∧ R' (R' (C + 16) c.toNatClampNeg) 5 = R (R (C + 16) c.toNatClampNeg) 5 := by
  have k := (hc.2.1.2.2.1 c c0 c1).1
  obtain ⟨b1, ⟨w1, w2, -⟩, -, ⟨h1, h2, -⟩, ⟨p1, p2, -⟩, -⟩ := hT.g_bnc _ k
  have e16 : R' (C + 16) c.toNatClampNeg = R (C + 16) c.toNatClampNeg := e.2.2.1 _ _ (Or.inl rfl)
  have eB : ∀ j, R' (R (C + 16) c.toNatClampNeg) j = R (R (C + 16) c.toNatClampNeg) j := fun j => e.2.2.1 _ _ (Or.inr k)
  unfold chC whC paC pcC
  rw [e16, eB, eB, eB]
  refine ⟨funext (fun j => e.1 _ _ h1 (Or.inl h2)), funext (fun j => e.1 _ _ w1 (Or.inl w2)), funext (fun j => e.1 _ _ p1 (Or.inl p2)), by rw [e.1 _ _ b1 (Or.inr k)], rfl⟩
theorem ci_fr (hT : cT C K L I R) (hc : cpP C K L I R W) (e : hfE C K I R J R') (h : ciP C I R W m) : ciP C J R' W m := by
  obtain ⟨h1, h2, h3⟩ := h
  refine ⟨fun c c0 c1 => ?_, fun x x0 x1 t ht q => ?_, fun b c b0 b1 c0 c1 q => ?_⟩
  · obtain ⟨v1, v2, v3, v4, v5⟩ := hf_vw hT hc e c0 c1
    rw [v1, v3, v4, e.2.1]
    exact h1 c c0 c1
  · have p1 := (hc.2.1.2.2.2.1 x x0 x1 q.1).1
    obtain ⟨v1, v2, v3, v4, v5⟩ := hf_vw hT hc e q.1 p1
    rw [v1]
    exact h2 x x0 x1 t ht q
  · rw [(hf_vw hT hc e b0 b1).2.2.2.2, (hf_vw hT hc e c0 c1).2.2.2.2] at q
    exact h3 b c b0 b1 c0 c1 q
theorem hd_vw (hT : cT C K L I R) (hc : cpP C K L I R W) (e : hfE C K I R J R') : ∀ c t : Int32, (0 ≤ c ∧ c < W 0 6) → (0 ≤ t ∧ t < 200) → (∀ k, hdC C J R' c t k = hdC C I R c t k) ∧ ldC C J R' c t = ldC C I R c t := fun c t hc2 _ => by
  obtain ⟨v1, v2, v3, v4, v5⟩ := hf_vw hT hc e hc2.1 hc2.2
  unfold hdC ldC
  rw [v1, v2, v3, v4]
  exact ⟨fun _ => rfl, rfl⟩
theorem gvC_fr (h : gvC C IB RB WB m J R W) (hT : cT C K L J R) (hc : cpP C K L J R W) (e : hfE C K J R J2 R2) : gvC C IB RB WB m J2 R2 W := ⟨ci_fr hT hc e h.1, e.2.1.trans h.2.1, h.2.2.1, gvH_x h.2.2.2 (by rw [← h.2.2.1]; exact hd_vw hT hc e)⟩
theorem tkC_fr (h : tkC C IB RB WB m J R W) (hT : cT C K L J R) (hc : cpP C K L J R W) (e : hfE C K J R J2 R2) : tkC C IB RB WB m J2 R2 W := ⟨ci_fr hT hc e h.1, e.2.1.trans h.2.1, h.2.2.1, tkH_x h.2.2.2 (by rw [← h.2.2.1]; exact hd_vw hT hc e)⟩
theorem ci_le (h : ciP C I R W m) (hm : m ≤ m') : ciP C I R W m' := ⟨fun c c0 c1 => ⟨(h.1 c c0 c1).1, (h.1 c c0 c1).2.1, Nat.le_trans (h.1 c c0 c1).2.2 hm⟩, h.2⟩
theorem tkC_le (h : tkC C IB RB WB m J R W) (hm : m ≤ m') : tkC C IB RB WB m' J R W := ⟨ci_le h.1 hm, h.2⟩
theorem gvC_0 (hc : cpP C K L I R W) (h : ciP C I R W m) : gvC C I R W m I R W := ⟨h, rfl, rfl, gv_0 (hd_N hc h)⟩
theorem tkC_0 (hc : cpP C K L I R W) (h : ciP C I R W m) : tkC C I R W m I R W := ⟨h, rfl, rfl, tk_00 (hd_N hc h)⟩
theorem pc_lt (hT : cT C K L I R) (hc : cpP C K L I R W) (h : ciP C I R W m) (hm : m < 16384) {c : Int32} (c0 : 0 ≤ c) (c1 : c < W 0 6) : 0 ≤ I (R (C + 16) c.toNatClampNeg) 6 ∧ I (R (C + 16) c.toNatClampNeg) 6 < 16384 := by
  have k := (hc.2.1.2.2.1 c c0 c1).1
  have g := (hT.g_bnc _ k).2.2.2.2.2
  have := (h.1 c c0 c1).2.2
  unfold pcC at this
  exact ⟨g.1, cl_lt2 g.1 (by decide) (by rw [show (16384 : Int32).toNatClampNeg = 16384 from rfl]; omega)⟩
/-- a place given -/
theorem gvC_put (h : gvC C IB RB WB m J R W) (hT : cT C K L J R) (hc : cpP C K L J R W) (hse : seP C R W) {a b s : Int32} (hc2 : cpP C K L J2 R (puY W a b s)) (d2 : dL C K L R J J2) (ha : 0 ≤ a ∧ a < W 0 17) (un : ¬ 0 ≤ W 20 a.toNatClampNeg) (hb : 0 ≤ b ∧ b < W 0 6) (hs : 0 ≤ s ∧ s ≤ 199) (hsl : s + W 10 a.toNatClampNeg ≤ 200) (fr : ∀ z : Int32, 0 ≤ z → z < W 10 a.toNatClampNeg → whC C J R b (s + z).toNatClampNeg = -9) (p1 : ∀ x j, C + 96 < x → K x = 20 → ¬ x = (R (C + 16) b.toNatClampNeg) + 1 → ¬ x = (R (C + 16) b.toNatClampNeg) + 2 → ¬ x = (R (C + 16) b.toNatClampNeg) + 3 → J2 x j = J x j) (p2 : ∀ j, J2 ((R (C + 16) b.toNatClampNeg) + 3) j = if s.toNatClampNeg ≤ j ∧ j < s.toNatClampNeg + (W 10 a.toNatClampNeg).toNatClampNeg then J (C + 1) 6 else J ((R (C + 16) b.toNatClampNeg) + 3) j) : gvC C IB RB WB m J2 R (puY W a b s) := by
  have hl := hc.2.2.2.2.2.1
  have hp := hc.2.1.2.2.2
  have s200 : 0 ≤ s ∧ s ≤ 200 := ⟨hs.1, Int32.le_trans hs.2 (by decide)⟩
  have en : J2 (C + 1) 6 = J (C + 1) 6 := d2.2 _ _ (by omega) (by omega) (by omega)
  have e6 : puY W a b s 0 6 = W 0 6 := pu_ow (by omega)
  obtain ⟨q1, q2⟩ := pv_put hc hc2 h.1 ha un hb hs hsl fr en (fun c c0 c1 => by
    have k := (hc.2.1.2.2.1 c c0 c1).1
    obtain ⟨b1, -, -, ⟨h1, h2, -⟩, ⟨x1, x2, -⟩, -⟩ := hT.g_bnc _ k
    obtain ⟨-, -, eB4⟩ := hse.1 c c0 c1
    have s4 := hse.2.2.2 c b c0 c1 hb.1 hb.2
    refine ⟨fun j => ?_, fun j => p1 _ j x1 x2 (by omega) (by omega) (by omega), ?_⟩
    · unfold chC
      rw [eB4]
      by_cases e : c = b
      · subst e
        rw [p2]
        by_cases q : s.toNatClampNeg ≤ j ∧ j < s.toNatClampNeg + (W 10 a.toNatClampNeg).toNatClampNeg
        · rw [if_pos q, if_pos ⟨rfl, q⟩]
        · rw [if_neg q, if_neg (fun z => q z.2)]
      · have := se_ne hT hc hse ⟨c0, c1⟩ hb e
        rw [if_neg (fun z => e z.1)]
        rw [eB4] at h1 h2
        exact p1 _ j h1 h2 (by omega) (by omega) (by omega)
    · unfold pcC
      rw [d2.2 _ 6 (by omega) (by omega) (by rw [k]; omega)])
  rw [h.2.2.1, h.2.1] at q2
  refine ⟨q1, en.trans h.2.1, e6.trans h.2.2.1, gv_step h.2.2.2 ha un hb.1 (fun t t0 t1 x x0 x1 xa x2 => ?_) q2⟩
  obtain ⟨z, z0, z1, z2⟩ := (sh_in s200.1 hsl (hl _) s200.2).mp ⟨t0, t1⟩
  have w1 := wh_ho hp hl x0 x1 x2
  have w2 := fr z z0 z1
  rw [← z2] at w2
  rw [show whC C J R b t.toNatClampNeg = x from w1] at w2
  rw [w2] at x0
  exact absurd x0 (by decide)
/-- a place taken back -/
theorem tkC_un (h : tkC C IB RB WB m I R W) (hT : cT C K L I R) (hfr : ∀ x, n + 1 ≤ x → K x = 0) (hc : cpP C K L I R W) (hse : seP C R W) (hm : m < 16384) {a : Int32} (hc2 : cpP C K' L' J R' (unY W a)) (ha : 0 ≤ a ∧ a < W 0 17) (pa : 0 ≤ W 20 a.toNatClampNeg) (en : J (C + 1) 6 = I (C + 1) 6) (p1 : ∀ x j, C + 96 < x → x < n + 1 → K x = 20 → ¬ x = (R (C + 16) (W 20 a.toNatClampNeg).toNatClampNeg) + 1 → ¬ x = (R (C + 16) (W 20 a.toNatClampNeg).toNatClampNeg) + 2 → ¬ x = (R (C + 16) (W 20 a.toNatClampNeg).toNatClampNeg) + 3 → ¬ x = R (R (C + 16) (W 20 a.toNatClampNeg).toNatClampNeg) 5 → J x j = I x j) (p2 : ∀ x j, x < n + 1 → ¬ (x = (R (C + 16) (W 20 a.toNatClampNeg).toNatClampNeg) ∧ j = 5) → R' x j = R x j) (p3 : R' (R (C + 16) (W 20 a.toNatClampNeg).toNatClampNeg) 5 = R (R (C + 16) (W 20 a.toNatClampNeg).toNatClampNeg) 5 ∨ R' (R (C + 16) (W 20 a.toNatClampNeg).toNatClampNeg) 5 = n + 1) (p4 : ∀ x j, K x = 3 → ¬ (x = (R (C + 16) (W 20 a.toNatClampNeg).toNatClampNeg) ∧ j = 6) → J x j = I x j) (p5 : ∀ j, J ((R (C + 16) (W 20 a.toNatClampNeg).toNatClampNeg) + 3) j = if (W 21 a.toNatClampNeg).toNatClampNeg ≤ j ∧ j < (W 21 a.toNatClampNeg).toNatClampNeg + (W 10 a.toNatClampNeg).toNatClampNeg then I (C + 1) 6 else I ((R (C + 16) (W 20 a.toNatClampNeg).toNatClampNeg) + 3) j) (p6 : (I ((R (C + 16) (W 20 a.toNatClampNeg).toNatClampNeg) + 3) (W 21 a.toNatClampNeg).toNatClampNeg = I (C + 1) 6 ∧ R' (R (C + 16) (W 20 a.toNatClampNeg).toNatClampNeg) 5 = R (R (C + 16) (W 20 a.toNatClampNeg).toNatClampNeg) 5 ∧ J (R (C + 16) (W 20 a.toNatClampNeg).toNatClampNeg) 6 = I (R (C + 16) (W 20 a.toNatClampNeg).toNatClampNeg) 6 ∧ ∀ j, J (R' (R (C + 16) (W 20 a.toNatClampNeg).toNatClampNeg) 5) j = I (R (R (C + 16) (W 20 a.toNatClampNeg).toNatClampNeg) 5) j) ∨ (¬ I ((R (C + 16) (W 20 a.toNatClampNeg).toNatClampNeg) + 3) (W 21 a.toNatClampNeg).toNatClampNeg = I (C + 1) 6 ∧ J (R (C + 16) (W 20 a.toNatClampNeg).toNatClampNeg) 6 = I (R (C + 16) (W 20 a.toNatClampNeg).toNatClampNeg) 6 + 1 ∧ (∀ j, j < 5 * (I (R (C + 16) (W 20 a.toNatClampNeg).toNatClampNeg) 6).toNatClampNeg → J (R' (R (C + 16) (W 20 a.toNatClampNeg).toNatClampNeg) 5) j = I (R (R (C + 16) (W 20 a.toNatClampNeg).toNatClampNeg) 5) j) ∧ (J (R' (R (C + 16) (W 20 a.toNatClampNeg).toNatClampNeg) 5) (5 * (I (R (C + 16) (W 20 a.toNatClampNeg).toNatClampNeg) 6).toNatClampNeg) = a ∧ J (R' (R (C + 16) (W 20 a.toNatClampNeg).toNatClampNeg) 5) (5 * (I (R (C + 16) (W 20 a.toNatClampNeg).toNatClampNeg) 6).toNatClampNeg + 1) = W 21 a.toNatClampNeg ∧ J (R' (R (C + 16) (W 20 a.toNatClampNeg).toNatClampNeg) 5) (5 * (I (R (C + 16) (W 20 a.toNatClampNeg).toNatClampNeg) 6).toNatClampNeg + 2) = W 21 a.toNatClampNeg + W 10 a.toNatClampNeg - 1 ∧ J (R' (R (C + 16) (W 20 a.toNatClampNeg).toNatClampNeg) 5) (5 * (I (R (C + 16) (W 20 a.toNatClampNeg).toNatClampNeg) 6).toNatClampNeg + 3) = I ((R (C + 16) (W 20 a.toNatClampNeg).toNatClampNeg) + 3) (W 21 a.toNatClampNeg).toNatClampNeg ∧ J (R' (R (C + 16) (W 20 a.toNatClampNeg).toNatClampNeg) 5) (5 * (I (R (C + 16) (W 20 a.toNatClampNeg).toNatClampNeg) 6).toNatClampNeg + 4) = I (C + 1) 6))) : tkC C IB RB WB (m + 1) J R' (unY W a) := by
  have hp := hc.2.1.2.2.2
  have p0 := (hp.1 a ha.1 ha.2 pa).1
  have e6 : unY W a 0 6 = W 0 6 := un_o (Or.inl (by omega))
  have kz : ∀ x, ¬ K x = 0 → x < n + 1 := fun x hx => Classical.byContradiction (fun q => hx (hfr x (by omega)))
  have hpl := pc_lt hT hc h.1 hm pa p0
  have up := (lp_st hpl.1 hpl.2).2.2.2
  generalize eb : W 20 a.toNatClampNeg = b at *
  have kb := (hc.2.1.2.2.1 b pa p0).1
  obtain ⟨bb1, -, -, ⟨bh1, bh2, -⟩, ⟨bx1, bx2, -⟩, -⟩ := hT.g_bnc _ kb
  obtain ⟨-, -, bB4⟩ := hse.1 b pa p0
  have hn96 : C + 96 < n + 1 := by have := kz _ (by rw [kb]; decide); omega
  have r16 : ∀ j, R' (C + 16) j = R (C + 16) j := fun j => p2 _ j (by omega) (by omega)
  have rb4 : R' (R (C + 16) b.toNatClampNeg) 4 = R (C + 16) b.toNatClampNeg + 3 := by rw [p2 _ 4 (kz _ (by rw [kb]; decide)) (by omega)]; exact bB4
  have oth : ∀ c : Int32, 0 ≤ c → c < W 0 6 → ¬ c = b → R' (R (C + 16) c.toNatClampNeg) 5 = R (R (C + 16) c.toNatClampNeg) 5 ∧ R (R (C + 16) c.toNatClampNeg) 5 < n + 1 ∧ ¬ R (R (C + 16) c.toNatClampNeg) 5 = R (R (C + 16) b.toNatClampNeg) 5 := fun c c0 c1 e => by
    have k := (hc.2.1.2.2.1 c c0 c1).1
    have x2 := (hT.g_bnc _ k).2.2.2.2.1.2.1
    exact ⟨p2 _ 5 (kz _ (by rw [k]; decide)) (fun q => e (hse.2.1 c b c0 c1 pa p0 q.1)), kz _ (by rw [x2]; decide), fun q => e (h.1.2.2 c b c0 c1 pa p0 q)⟩
  obtain ⟨q1, q2⟩ := pv_un hc hc2 h.1 ha (by rw [eb]; exact pa) en (fun x y x0 x1 y0 y1 q => by
    rw [r16, r16] at q
    by_cases ex : x = b
    · by_cases ey : y = b
      · rw [ex, ey]
      · obtain ⟨o1, o2, o3⟩ := oth y y0 y1 ey
        rw [ex, o1] at q
        rcases p3 with p3 | p3
        · exact absurd (by rw [← q, p3]) o3
        · omega
    · obtain ⟨o1, o2, o3⟩ := oth x x0 x1 ex
      by_cases ey : y = b
      · rw [ey, o1] at q
        rcases p3 with p3 | p3
        · exact absurd (by rw [q, p3]) o3
        · omega
      · rw [o1, (oth y y0 y1 ey).1] at q
        exact h.1.2.2 x y x0 x1 y0 y1 q) (fun c c0 c1 => by
    have k := (hc.2.1.2.2.1 c c0 c1).1
    obtain ⟨b1, -, -, ⟨h1, h2, -⟩, ⟨x1, x2, -⟩, -⟩ := hT.g_bnc _ k
    obtain ⟨-, -, eB4⟩ := hse.1 c c0 c1
    have s4 := hse.2.2.2 c b c0 c1 pa p0
    have s5 := hse.2.2.2 b c pa p0 c0 c1
    rw [eb]
    refine ⟨fun j => ?_, fun e => ⟨fun j => ?_, ?_⟩⟩
    · unfold chC
      rw [r16, p2 _ 4 (kz _ (by rw [k]; decide)) (by omega), eB4]
      by_cases e : c = b
      · subst e
        rw [p5]
        by_cases q : (W 21 a.toNatClampNeg).toNatClampNeg ≤ j ∧ j < (W 21 a.toNatClampNeg).toNatClampNeg + (W 10 a.toNatClampNeg).toNatClampNeg
        · rw [if_pos q, if_pos ⟨rfl, q⟩]
        · rw [if_neg q, if_neg (fun z => q z.2)]
      · have := se_ne hT hc hse ⟨c0, c1⟩ ⟨pa, p0⟩ e
        rw [if_neg (fun z => e z.1)]
        rw [eB4] at h1 h2
        exact p1 _ j h1 (kz _ (by rw [h2]; decide)) h2 (by omega) (by omega) (by omega) (by omega)
    · obtain ⟨o1, o2, o3⟩ := oth c c0 c1 e
      unfold paC
      rw [r16, o1]
      exact p1 _ j x1 o2 x2 (by omega) (by omega) (by omega) o3
    · unfold pcC
      rw [r16, p4 _ 6 k (fun q => e (hse.2.1 c b c0 c1 pa p0 q.1))]) (by
    rw [eb]
    unfold chC paC pcC
    rw [r16, bB4]
    rcases p6 with ⟨d1, d2, d3, d4⟩ | ⟨d1, d2, d3, d4⟩
    · exact Or.inl ⟨d1, by rw [d3], d4⟩
    · exact Or.inr ⟨d1, by rw [d2, up], d3, d4⟩)
  rw [h.2.2.1, h.2.1] at q2
  refine ⟨q1, en.trans h.2.1, e6.trans h.2.2.1, tk_step h.2.2.2 ha (by rw [eb]; exact pa) q2⟩
theorem lh_placeFirst_19 (hT0 : cT C K L I R) (hc : cpP C K L I R Y) (hse : seP C R Y) {a : Nat} {i : Int32} (ap : aaP C K I Y i a) (haa : (R (C + 15) i.toNatClampNeg) = a) (un : ¬ 0 ≤ Y 20 i.toNatClampNeg) {mm : Nat} (hq : gvC C IB RB WB mm I R Y) {f e s : Int32} (hs : 0 ≤ s ∧ s ≤ 199) {V : Int32} (hG : 0 ≤ V → ∀ J, dL C K L R I J → aZ K a I J → cpP C K L J R (puY Y i V s) → gvC C IB RB WB mm J R (puY Y i V s) → P (some (.int 1)) (n, t, K, L, J, R)) (hN : ¬ 0 ≤ V → ∀ J u, dC C K L R I J → a_at (d + 6) (a_xm a_m124) 66 [some (a_rf (C + 22)), some (a_rf a), some (.int f), some (.int e), some (.int s), u] [] (n, t, K, L, J, R) P) : ∀ b : Int32, b ≤ 6 → ∀ J, 0 ≤ b → b ≤ Y 0 6 → dC C K L R I J → gfB Y i s ((Y 0 6).toNatClampNeg - b.toNatClampNeg) b = V → a_at (d + 6) (a_xm a_m124) 19 [some (a_rf (C + 22)), some (a_rf a), some (.int f), some (.int e), some (.int s), some (.int b)] [] (n, t, K, L, J, R) P := by
  have hy := hc.2.2.2.2
  have h6 := hy.2.2.2.2.2.1
  refine up_ind 6 (fun b b6 ih => ?_)
  intro J h0 h1 hJ hV
  have hT := hJ.1
  have hS := hT.s
  have hcJ := cpP_C hT0 hc hJ
  have apJ := aaP_C hT0 ap hJ
  obtain ⟨ai, ⟨ha, an0, a4n⟩, am, al⟩ := id apJ
  have a0 : (a = 0) = False := eq_false an0
  have e5 : J (C + 14) 5 = Y 0 6 := hcJ.2.1.1
  have hexit : ¬ b < Y 0 6 → a_at (d + 6) (a_xm a_m124) 66 [some (a_rf (C + 22)), some (a_rf a), some (.int f), some (.int e), some (.int s), some (.int b)] [] (n, t, K, L, J, R) P := fun w => by
    rw [(lp_end h1 w).1] at hV
    have hV : -1 = V := hV
    exact hN (by rw [← hV]; decide) J (some (.int b)) hJ
  have hcall : b < Y 0 6 → a_does (d + 6) 100 [a_rf (C + 14), a_rf a, .int b, .int s] (n, t, K, L, J, R) (fun r h' => a_at (d + 6) (a_xm a_m124) 43 [some (a_rf (C + 22)), some (a_rf a), some (.int f), some (.int e), some (.int s), some (.int b)] (r.toList ++ []) h' P) := fun w => by
    obtain ⟨s1, s2, s3, s4⟩ := lp_st h0 w
    refine ce_firstBar (d := d + 1) hT hcJ apJ ⟨h0, w⟩ hs (fun J2 c2 => ?_)
    have hT2 := c2.1
    have hS2 := hT2.s
    have hJ2 := dC_C hJ c2
    rw [s1] at hV
    unfold gfB at hV
    by_cases cf : ftY Y i b s = 0
    · rw [if_pos cf] at hV
      have hc2 := cpP_C hT hcJ c2
      have ap2 := aaP_C hT apJ c2
      have hl := hy.2.2.1 i ai.1 ai.2
      have hin := ft_in cf ⟨hl, (hy.2.1 _).2⟩ ⟨hs.1, Int32.le_trans hs.2 (by decide)⟩
      have hG := hG (by rw [← hV]; exact h0)
      rw [← hV] at hG
      have hpl : a_does (d + 6) 113 [a_rf (C + 14), a_rf a, .int b, .int s] (n, t, K, L, J2, R) (fun r h' => a_at (d + 6) (a_xm a_m124) 58 [some (a_rf (C + 22)), some (a_rf a), some (.int f), some (.int e), some (.int s), some (.int b)] (r.toList ++ []) h' P) := by
        refine ch_place (d := d) hT2 hc2 hse ap2 haa ⟨h0, w⟩ hs hin.2 un (ft_free hT2 hc2 hse ai ⟨h0, w⟩ hs hin.2 un cf) (fun J3 d3 c3 z3 p1 p2 => ?_)
        have hp := hG J3 (dL_L (dL_C (dL_refl hT0) hJ2) d3) (fun x j kx hx => (z3 x j kx hx).trans (dC_at hJ2 hT0 kx j)) c3 (gvC_put (gvC_fr hq hT0 hc (hf_C hJ2)) hT2 hc2 hse c3 d3 ai un ⟨h0, w⟩ hs hin.2 (ft_free hT2 hc2 hse ai ⟨h0, w⟩ hs hin.2 un cf) p1 p2)
        have hS3 := d3.1.s
        ((try clear ih); (try clear hG); (try clear hN); (try clear hexit); (try clear hc); (try clear hcJ); (try clear hc2); (try clear c3); (try clear ap); (try clear apJ); (try clear ap2); (try clear al); (try clear am))
        simp only [q124_58, q124_59, as_nil, as_i, as_r, Nat.reduceAdd, Nat.reduceLeDiff, z_eq0, z_eq1, z_or, z_em, Classical.not_not, not_false_eq_true, not_true_eq_false, true_and, and_true, false_and, and_false, and_self, true_implies, false_implies, implies_true, Option.toList_some, Option.toList_none, List.cons_append, List.nil_append, Nat.add_eq_zero_iff, a_nl_i, a_nl_r, a_nl_n, true_or, or_true, eq_self, a_isRA_22, a_isRA_24, a_isRA_32, a_isA_20, ok_4, ok_5, ok_6, ok_7, ok_9, ok_20, ok_21, ok_30, ok_50, ok_180, ok_192, ok_200]
        first
          | exact hp
          | exact ⟨by decide, hp⟩
          | grind
      ((try clear ih); (try clear hG); (try clear hN); (try clear hexit); (try clear hc); (try clear hcJ); (try clear hc2); (try clear ap); (try clear apJ); (try clear ap2); (try clear al); (try clear am))
      simp only [q124_43, q124_46, q124_47, q124_50, q124_51, q124_53, q124_55, k_22 hS, z_22, r_22_0 hS, k_14 hS, z_14, as_nil, as_i, as_r, Nat.reduceAdd, Nat.reduceLeDiff, z_eq0, z_eq1, z_or, z_em, Classical.not_not, not_false_eq_true, not_true_eq_false, true_and, and_true, false_and, and_false, and_self, true_implies, false_implies, implies_true, Option.toList_some, Option.toList_none, List.cons_append, List.nil_append, Nat.add_eq_zero_iff, a_nl_i, a_nl_r, a_nl_n, true_or, or_true, eq_self, a_isRA_22, a_isRA_24, a_isRA_32, a_isA_20, ok_4, ok_5, ok_6, ok_7, ok_9, ok_20, ok_21, ok_30, ok_50, ok_180, ok_192, ok_200, ha, a0, cf]
      try simp only [true_and, and_true, true_implies, false_implies, implies_true, not_true_eq_false, not_false_eq_true]
      first
        | exact hpl
        | grind
    · rw [if_neg cf] at hV
      have hn := ih (Int32.lt_of_lt_of_le w h6.2) J2 s2 s3 hJ2 hV
      ((try clear ih); (try clear hG); (try clear hN); (try clear hexit); (try clear hc); (try clear hcJ); (try clear ap); (try clear apJ); (try clear al); (try clear am))
      simp only [q124_43, q124_60, q124_63, as_nil, as_i, as_r, Nat.reduceAdd, Nat.reduceLeDiff, z_eq0, z_eq1, z_or, z_em, Classical.not_not, not_false_eq_true, not_true_eq_false, true_and, and_true, false_and, and_false, and_self, true_implies, false_implies, implies_true, Option.toList_some, Option.toList_none, List.cons_append, List.nil_append, Nat.add_eq_zero_iff, a_nl_i, a_nl_r, a_nl_n, true_or, or_true, eq_self, a_isRA_22, a_isRA_24, a_isRA_32, a_isA_20, ok_4, ok_5, ok_6, ok_7, ok_9, ok_20, ok_21, ok_30, ok_50, ok_180, ok_192, ok_200, ha, a0, cf]
      try simp only [true_and, and_true, true_implies, false_implies, implies_true, not_true_eq_false, not_false_eq_true]
      first
        | exact hn
        | grind
  ((try clear ih); (try clear hV); (try clear hG); (try clear hN); (try clear hc); (try clear hcJ); (try clear ap); (try clear apJ); (try clear al); (try clear am))
  rw [q124_19]
  repeat' first
    | with_reducible apply And.intro
    | with_reducible assumption
    | with_reducible intro _
    | refine hexit ?_
    | refine hcall ?_
    | simp only [q124_21, q124_22, q124_25, q124_28, q124_31, q124_32, q124_35, q124_36, q124_38, q124_40, k_22 hS, z_22, r_22_0 hS, k_14 hS, z_14, as_nil, as_i, as_r, Nat.reduceAdd, Nat.reduceLeDiff, z_eq0, z_eq1, z_or, z_em, Classical.not_not, not_false_eq_true, not_true_eq_false, true_and, and_true, false_and, and_false, and_self, true_implies, false_implies, implies_true, Option.toList_some, Option.toList_none, List.cons_append, List.nil_append, Nat.add_eq_zero_iff, a_nl_i, a_nl_r, a_nl_n, true_or, or_true, eq_self, a_isRA_22, a_isRA_24, a_isRA_32, a_isA_20, ok_4, ok_5, ok_6, ok_7, ok_9, ok_20, ok_21, ok_30, ok_50, ok_180, ok_192, ok_200, ha, a0, e5]
  all_goals ((try clear hexit); (try clear hcall); (try clear hT); (try clear hS); (try clear hT0); grind [ui_ap])
theorem lh_placeFirst_3 (hT0 : cT C K L I R) (hc : cpP C K L I R Y) (hse : seP C R Y) {a : Nat} {i : Int32} (ap : aaP C K I Y i a) (haa : (R (C + 15) i.toNatClampNeg) = a) (un : ¬ 0 ≤ Y 20 i.toNatClampNeg) {mm : Nat} (hq : gvC C IB RB WB mm I R Y) {f e : Int32} (he9 : e ≤ 199) {V : Int32 × Int32} (hP1 : 0 ≤ V.2 → ∀ J, dL C K L R I J → aZ K a I J → cpP C K L J R (puY Y i V.2 V.1) → gvC C IB RB WB mm J R (puY Y i V.2 V.1) → P (some (.int 1)) (n, t, K, L, J, R)) (hP0 : ¬ 0 ≤ V.2 → ∀ J, dC C K L R I J → P (some (.int 0)) (n, t, K, L, J, R)) : ∀ s : Int32, s ≤ 203 → ∀ J b (k : Nat), 0 ≤ s → (203 : Int32).toNatClampNeg < s.toNatClampNeg + k → dC C K L R I J → gfS Y i e k s = V → a_at (d + 6) (a_xm a_m124) 3 [some (a_rf (C + 22)), some (a_rf a), some (.int f), some (.int e), some (.int s), b] [] (n, t, K, L, J, R) P := by
  have hy := hc.2.2.2.2
  have h6 := hy.2.2.2.2.2.1
  have hl4 := (hy.2.1 i.toNatClampNeg).2
  refine up_ind 203 (fun s s203 ih => ?_)
  intro J b k h0 hk hJ hV
  have hT := hJ.1
  have hS := hT.s
  have apJ := aaP_C hT0 ap hJ
  obtain ⟨ai, ⟨ha, an0, a4n⟩, am, al⟩ := id apJ
  have a0 : (a = 0) = False := eq_false an0
  have e2 : J a 2 = Y 10 i.toNatClampNeg := al.1.2.2.1
  have hl := hy.2.2.1 i ai.1 ai.2
  have c203 : s.toNatClampNeg ≤ (203 : Int32).toNatClampNeg := cl_le0 h0 s203
  obtain ⟨k, rfl⟩ : ∃ q, k = q + 1 := ⟨k - 1, by omega⟩
  unfold gfS at hV
  have hexit : e < s + Y 10 i.toNatClampNeg - 1 → P (some (.int 0)) (n, t, K, L, J, R) := fun c => hP0 (fun q => by
    rw [if_pos c] at hV
    rw [← hV] at q
    exact absurd (show (0 : Int32) ≤ -1 from q) (by decide)) J hJ
  have hin : ¬ e < s + Y 10 i.toNatClampNeg - 1 → a_at (d + 6) (a_xm a_m124) 19 [some (a_rf (C + 22)), some (a_rf a), some (.int f), some (.int e), some (.int s), some (.int 0)] [] (n, t, K, L, J, R) P := fun c => by
    rw [if_neg c] at hV
    have s199 : 0 ≤ s ∧ s ≤ 199 := ⟨h0, (gs_nx ⟨hl, hl4⟩ he9 ⟨h0, Int32.le_trans s203 (by decide)⟩ c).2⟩
    have hs1 : s < 203 := Int32.lt_of_le_of_lt s199.2 (by decide)
    obtain ⟨-, t2, -, t4⟩ := lp_st h0 hs1
    refine lh_placeFirst_19 (d := d) hT0 hc hse ap haa un hq s199 (V := gfB Y i s (Y 0 6).toNatClampNeg 0) (fun q2 J2 d2 z2 c2 g2 => ?_) (fun q J2 u2 c2 => ?_) 0 (by decide) J (by decide) h6.1 hJ (by rw [lp_0])
    · rw [if_pos q2] at hV
      refine hP1 (by rw [← hV]; exact q2) J2 d2 z2 ?_ ?_
      · rw [← hV]
        exact c2
      · rw [← hV]
        exact g2
    · rw [if_neg q] at hV
      have hn := ih hs1 J2 u2 k t2 (by omega) c2 hV
      have hS2 := c2.1.s
      ((try clear ih); (try clear hexit); (try clear hP1); (try clear hP0); (try clear hc); (try clear ap); (try clear apJ); (try clear al); (try clear am))
      simp only [q124_66, q124_69, as_nil, as_i, as_r, Nat.reduceAdd, Nat.reduceLeDiff, z_eq0, z_eq1, z_or, z_em, Classical.not_not, not_false_eq_true, not_true_eq_false, true_and, and_true, false_and, and_false, and_self, true_implies, false_implies, implies_true, Option.toList_some, Option.toList_none, List.cons_append, List.nil_append, Nat.add_eq_zero_iff, a_nl_i, a_nl_r, a_nl_n, true_or, or_true, eq_self, a_isRA_22, a_isRA_24, a_isRA_32, a_isA_20, ok_4, ok_5, ok_6, ok_7, ok_9, ok_20, ok_21, ok_30, ok_50, ok_180, ok_192, ok_200]
      first
        | exact hn
        | grind
  ((try clear ih); (try clear hV); (try clear hP1); (try clear hP0); (try clear hc); (try clear ap); (try clear apJ); (try clear al); (try clear am))
  rw [q124_3]
  repeat' first
    | with_reducible apply And.intro
    | with_reducible assumption
    | with_reducible intro _
    | refine hexit ?_
    | refine hin ?_
    | simp only [q124_5, q124_6, q124_9, q124_10, q124_11, q124_12, q124_13, q124_16, q124_17, q124_72, q124_73, k_22 hS, z_22, as_nil, as_i, as_r, Nat.reduceAdd, Nat.reduceLeDiff, z_eq0, z_eq1, z_or, z_em, Classical.not_not, not_false_eq_true, not_true_eq_false, true_and, and_true, false_and, and_false, and_self, true_implies, false_implies, implies_true, Option.toList_some, Option.toList_none, List.cons_append, List.nil_append, Nat.add_eq_zero_iff, a_nl_i, a_nl_r, a_nl_n, true_or, or_true, eq_self, a_isRA_22, a_isRA_24, a_isRA_32, a_isA_20, ok_4, ok_5, ok_6, ok_7, ok_9, ok_20, ok_21, ok_30, ok_50, ok_180, ok_192, ok_200, ha, a0, e2]
  all_goals ((try clear hexit); (try clear hin); (try clear hT); (try clear hS); (try clear hT0); grind [ui_ap])
theorem ch_placeFirst (hT : cT C K L I R) (hc : cpP C K L I R Y) (hse : seP C R Y) {a : Nat} {i : Int32} (ap : aaP C K I Y i a) (haa : (R (C + 15) i.toNatClampNeg) = a) (un : ¬ 0 ≤ Y 20 i.toNatClampNeg) {mm : Nat} (hq : gvC C IB RB WB mm I R Y) {f e : Int32} (hf : 0 ≤ f ∧ f ≤ 202) (he9 : e ≤ 199) (hP1 : 0 ≤ (gnY Y i f e).2 → ∀ J, dL C K L R I J → aZ K a I J → cpP C K L J R (puY Y i (gnY Y i f e).2 (gnY Y i f e).1) → gvC C IB RB WB mm J R (puY Y i (gnY Y i f e).2 (gnY Y i f e).1) → P (some (.int 1)) (n, t, K, L, J, R)) (hP0 : ¬ 0 ≤ (gnY Y i f e).2 → ∀ J, dC C K L R I J → P (some (.int 0)) (n, t, K, L, J, R)) : a_does (d + 7) 124 [a_rf (C + 22), a_rf a, .int f, .int e] (n, t, K, L, I, R) P := by
  have hS := hT.s
  have c203 : (203 : Int32).toNatClampNeg = 203 := rfl
  have hl := lh_placeFirst_3 (d := d) (n := n) (t := t) (P := P) (f := f) hT hc hse ap haa un hq he9 hP1 hP0 f (Int32.le_trans hf.2 (by decide)) I none 240 hf.1 (by rw [c203]; omega) (dC_refl hT) rfl
  ((try clear hP1); (try clear hP0); (try clear hc); (try clear hse); (try clear ap))
  rw [a_enter1 (M := a_m124) rfl (a_cat_rf (a_cat_rf (a_cat_int (a_cat_int a_cat_nil)))) (show 4 ≤ 6 by decide)]
  show a_at _ (a_xm a_m124) 0 [some (a_rf (C + 22)), some (a_rf a), some (.int f), some (.int e), none, none] [] _ _
  simp only [q124_0, q124_1, as_nil, as_i, as_r, Nat.reduceAdd, Nat.reduceLeDiff, z_eq0, z_eq1, z_or, z_em, Classical.not_not, not_false_eq_true, not_true_eq_false, true_and, and_true, false_and, and_false, and_self, true_implies, false_implies, implies_true, Option.toList_some, Option.toList_none, List.cons_append, List.nil_append, Nat.add_eq_zero_iff, a_nl_i, a_nl_r, a_nl_n, true_or, or_true, eq_self, a_isRA_22, a_isRA_24, a_isRA_32, a_isA_20, ok_4, ok_5, ok_6, ok_7, ok_9, ok_20, ok_21, ok_30, ok_50, ok_180, ok_192, ok_200]
  exact hl
theorem lh_planAll_68 (hse : seP C R Y) (hQ : ∀ i : Int32, 0 ≤ i → i < Y 0 17 → ¬ Q (R (C + 15) i.toNatClampNeg)) {f e : Int32} (hf : 0 ≤ f ∧ f ≤ 202) (he9 : e ≤ 199) {o : Nat → Int32} {m : Nat} {mm : Nat} (hm30 : m ≤ 30) (ho : ∀ j, j < m → odP C R Y o j) (hoi : ∀ i j, i < m → j < m → o i = o j → i = j) {V : (Nat → Nat → Int32) × Nat × (Nat → Int32)} (hP : ∀ J, cT C K L J R → cpP C K L J R V.1 → gvC C IB RB WB mm J R V.1 → sbE Y V.1 → V.2.1 ≤ m → pnP C m V.2.1 V.2.2 (Y 0 10) J → sZ C K Q I0 J → P (some (.int (Int32.ofNat (m - V.2.1)))) (n, t, K, L, J, R)) : ∀ (k i : Nat) (J W : Nat → Nat → Int32) (pc : Nat) (ps : Nat → Int32) (u : Option Value), i + k = m → cT C K L J R → cpP C K L J R W → gvC C IB RB WB mm J R W → sbE Y W → W 0 10 = Y 0 10 → pc ≤ i → pnP C m pc ps (Y 0 10) J → sZ C K Q I0 J → (∀ j, i ≤ j → j < m → ¬ 0 ≤ W 20 (o j).toNatClampNeg) → plS o f e k i (W, pc, ps) = V → a_at (d + 7) (a_xm a_m119) 68 [some (a_rf (C + 22)), some (.int f), some (.int e), some (.int (Int32.ofNat i)), u] [] (n, t, K, L, J, R) P := by
  intro k
  induction k with
  | zero =>
    intro i J W pc ps u hk hT hc hq hb w10 hpc hpn hz hun hV
    have e : (W, pc, ps) = V := hV
    subst e
    have ei : i = m := by omega
    have hp := hP J hT hc hq hb (by show pc ≤ m; omega) hpn hz
    have h6 := hpn.1
    have h7 := hpn.2.1
    have hS := hT.s
    have es : Int32.ofNat m - Int32.ofNat pc = Int32.ofNat (m - pc) := on_sb (by omega)
    rw [ei]
    ((try clear hP); (try clear hc); (try clear hb); (try clear hun); (try clear hpn); (try clear ho); (try clear hse))
    rw [q119_68]
    simp only [q119_69, q119_70, q119_73, q119_140, q119_141, q119_144, q119_145, q119_148, q119_149, k_22 hS, z_22, as_nil, as_i, as_r, Nat.reduceAdd, Nat.reduceLeDiff, z_eq0, z_eq1, z_or, z_em, Classical.not_not, not_false_eq_true, not_true_eq_false, true_and, and_true, false_and, and_false, and_self, true_implies, false_implies, implies_true, Option.toList_some, Option.toList_none, List.cons_append, List.nil_append, Nat.add_eq_zero_iff, a_nl_i, a_nl_r, a_nl_n, true_or, or_true, eq_self, a_isRA_22, a_isRA_24, a_isRA_32, a_isA_20, ok_4, ok_5, ok_6, ok_7, ok_9, ok_20, ok_21, ok_30, ok_50, ok_180, ok_192, ok_200, h6, h7, es]
    first
      | exact hp
      | exact ⟨fun _ => hp, fun q => absurd (Int32.le_refl _) q⟩
      | grind
  | succ k ih =>
    intro i J W pc ps u hk hT hc hq hb w10 hpc hpn hz hun hV
    have hS := hT.s
    have w17 : W 0 17 = Y 0 17 := hb 0 17 (by unfold sb; omega)
    have hse2 := se_b hse hb
    have him : i < m := by omega
    obtain ⟨q0, q1, q2⟩ := ho i him
    rw [← w17] at q2
    have ap := aa_of hc q1 q2
    have hsh : J (C + 22) 8 = W 0 10 := by rw [w10]; exact hpn.2.2.1
    have un : ¬ 0 ≤ W 20 (o i).toNatClampNeg := hun i (Nat.le_refl _) him
    have hok := on_ok (p := i) (by omega)
    have hokp := on_ok (p := pc) (by omega)
    have ei := (on_p (p := i) (by omega)).2.2.1
    have ei1 := (on_p (p := i) (by omega)).2.2.2.2.1
    have epc := (on_p (p := pc) (by omega)).2.2.1
    have epc1 := (on_p (p := pc) (by omega)).2.2.2.2.1
    have nle : ¬ Int32.ofNat m ≤ Int32.ofNat i := Int32.not_le.mpr (by rw [on_lt (by omega) (by omega)]; omega)
    have ka := ap.2.1.1
    have kn := ap.2.1.2.1
    have k0 : (R (C + 15) (o i).toNatClampNeg = 0) = False := eq_false kn
    have h6 := hpn.1
    have hfail : ¬ (shB W (o i) f e = true ∧ 0 ≤ (gnY W (o i) f e).2) → ∀ J2, dC C K L R J J2 → a_at (d + 7) (a_xm a_m119) 106 [some (a_rf (C + 22)), some (.int f), some (.int e), some (.int (Int32.ofNat i)), u] [] (n, t, K, L, J2, R) P := fun c J2 d2 => by
      have hT2 := d2.1
      have hS2 := hT2.s
      have hc2 := cpP_C hT hc d2
      have n2 := pn_L hpn (dL_C (dL_refl hT) d2)
      have ap2 := aaP_C hT ap d2
      have e4 : J2 (R (C + 15) (o i).toNatClampNeg) 4 = o i := ap2.2.1.2.2
      have e7 := n2.2.1
      have hT3 := sT_Planner_passed hT2 (k := pc) (v := o i)
      have hc3 := cp_sc hT2 hc2 (k := 24) (j := pc) (v := o i) (by omega) (by omega)
      have hT4 := sT_Planner_passedCount hT3 (v := Int32.ofNat (pc + 1)) (on_ok2 (by omega))
      have hc4 := cp_sc hT3 hc3 (k := 22) (j := 7) (v := Int32.ofNat (pc + 1)) (by omega) (by omega)
      unfold plS at hV
      rw [if_neg c] at hV
      have hn := ih (i + 1) (a_ui (a_ui J2 (C + 24) pc (o i)) (C + 22) 7 (Int32.ofNat (pc + 1))) W (pc + 1) (up1 ps pc (o i)) u (by omega) hT4 hc4 (gvC_fr (gvC_fr (gvC_fr hq hT hc (hf_C d2)) hT2 hc2 (hf_ui (by omega) (by omega))) hT3 hc3 (hf_ui (by omega) (by omega))) hb w10 (by omega) ⟨by rw [ui_ap, if_neg (by omega), ui_ap, if_neg (by omega)]; exact n2.1, by rw [ui_ap, if_pos ⟨rfl, rfl⟩], by rw [ui_ap, if_neg (by omega), ui_ap, if_neg (by omega)]; exact n2.2.2.1, fun j hj => by
        rw [ui_ap, if_neg (by omega), ui_ap]
        unfold up1
        by_cases q : j = pc
        · rw [if_pos ⟨rfl, q⟩, if_pos q]
        · rw [if_neg (fun z => q z.2), if_neg q]
          exact n2.2.2.2 j (by omega)⟩ (sz_ui (sz_ui (sz_C hz hT d2) hT2 (by omega)) hT3 (by omega)) (fun j hj hj2 => hun j (by omega) hj2) hV
      ((try clear ih); (try clear hP); (try clear hc); (try clear hb); (try clear hun); (try clear hpn); (try clear ho); (try clear hse); (try clear hse2); (try clear hc2); (try clear hc3); (try clear hc4); (try clear hT3); (try clear hT4); (try clear ap); (try clear ap2); (try clear n2))
      simp only [q119_106, q119_107, q119_110, q119_111, q119_114, q119_115, q119_118, q119_119, q119_120, q119_123, q119_124, q119_125, q119_126, q119_129, q119_130, q119_131, q119_134, q119_137, k_22 hS2, z_22, r_22_3 hS2, k_24 hS2, l_24 hS2, z_24, r_22_2 hS2, k_23 hS2, l_23 hS2, z_23, as_nil, as_i, as_r, Nat.reduceAdd, Nat.reduceLeDiff, z_eq0, z_eq1, z_or, z_em, Classical.not_not, not_false_eq_true, not_true_eq_false, true_and, and_true, false_and, and_false, and_self, true_implies, false_implies, implies_true, Option.toList_some, Option.toList_none, List.cons_append, List.nil_append, Nat.add_eq_zero_iff, a_nl_i, a_nl_r, a_nl_n, true_or, or_true, eq_self, a_isRA_22, a_isRA_24, a_isRA_32, a_isA_20, ok_4, ok_5, ok_6, ok_7, ok_9, ok_20, ok_21, ok_30, ok_50, ok_180, ok_192, ok_200, ui_ap, cc_ne, cc_n0, cc_0n, Nat.reduceEqDiff, reduceIte, if_true, if_false, q0, ei, ei1, epc, epc1, e7, e4, hok, hokp, ka, k0]
      try simp only [true_and, and_true, true_implies, false_implies, implies_true, not_true_eq_false, not_false_eq_true]
      first
        | exact hn
        | grind
    have hok2 : shB W (o i) f e = true → 0 ≤ (gnY W (o i) f e).2 → ∀ J2, dL C K L R J J2 → aZ K (R (C + 15) (o i).toNatClampNeg) J J2 → cpP C K L J2 R (puY W (o i) (gnY W (o i) f e).2 (gnY W (o i) f e).1) → gvC C IB RB WB mm J2 R (puY W (o i) (gnY W (o i) f e).2 (gnY W (o i) f e).1) → a_at (d + 7) (a_xm a_m119) 134 [some (a_rf (C + 22)), some (.int f), some (.int e), some (.int (Int32.ofNat i)), u] [] (n, t, K, L, J2, R) P := fun c1 c2 J2 d2 z2 hc2 hq2 => by
      unfold plS at hV
      rw [if_pos ⟨c1, c2⟩] at hV
      have hn := ih (i + 1) J2 _ pc ps u (by omega) d2.1 hc2 hq2 (sb_tr hb puY_b) (by unfold puY; rw [if_neg (by omega), if_neg (by omega), if_neg (by omega)]; exact w10) (by omega) (pn_L hpn d2) (sz_L hz hT d2 (hQ _ q1 (by rw [← hb 0 17 (by unfold sb; omega)]; exact q2)) z2) (fun j hj hj2 => by
        have hne : ¬ (o j).toNatClampNeg = (o i).toNatClampNeg := fun q => by
          have := hoi j i hj2 him (cl_inj (ho j hj2).2.1 q1 q)
          omega
        unfold puY
        rw [if_neg (fun q => hne q.2), if_neg (by omega), if_neg (by omega)]
        exact hun j (by omega) hj2) hV
      ((try clear ih); (try clear hP); (try clear hc); (try clear hb); (try clear hun); (try clear hpn); (try clear ho); (try clear hse); (try clear hse2); (try clear hc2); (try clear ap))
      simp only [q119_134, q119_137, as_nil, as_i, as_r, Nat.reduceAdd, Nat.reduceLeDiff, z_eq0, z_eq1, z_or, z_em, Classical.not_not, not_false_eq_true, not_true_eq_false, true_and, and_true, false_and, and_false, and_self, true_implies, false_implies, implies_true, Option.toList_some, Option.toList_none, List.cons_append, List.nil_append, Nat.add_eq_zero_iff, a_nl_i, a_nl_r, a_nl_n, true_or, or_true, eq_self, a_isRA_22, a_isRA_24, a_isRA_32, a_isA_20, ok_4, ok_5, ok_6, ok_7, ok_9, ok_20, ok_21, ok_30, ok_50, ok_180, ok_192, ok_200, ei1]
      exact hn
    have hfirst : shB W (o i) f e = true → a_does (d + 7) 124 [a_rf (C + 22), a_rf (R (C + 15) (o i).toNatClampNeg), .int f, .int e] (n, t, K, L, J, R) (fun r h' => a_at (d + 7) (a_xm a_m119) 103 [some (a_rf (C + 22)), some (.int f), some (.int e), some (.int (Int32.ofNat i)), u] (r.toList ++ []) h' P) := fun c1 => by
      refine ch_placeFirst (d := d) hT hc hse2 ap rfl un hq hf he9 (fun c2 J2 d2 z2 hc2 hq2 => ?_) (fun c2 J2 d2 => ?_)
      · have hn := hok2 c1 c2 J2 d2 z2 hc2 hq2
        have n10 : ¬ (1 : Int32) = 0 := by decide
        ((try clear ih); (try clear hP); (try clear hc); (try clear hb); (try clear hun); (try clear hpn); (try clear ho); (try clear hse); (try clear hse2); (try clear hc2); (try clear ap); (try clear hok2); (try clear hfail))
        simp only [q119_103, as_nil, as_i, as_r, Nat.reduceAdd, Nat.reduceLeDiff, z_eq0, z_eq1, z_or, z_em, Classical.not_not, not_false_eq_true, not_true_eq_false, true_and, and_true, false_and, and_false, and_self, true_implies, false_implies, implies_true, Option.toList_some, Option.toList_none, List.cons_append, List.nil_append, Nat.add_eq_zero_iff, a_nl_i, a_nl_r, a_nl_n, true_or, or_true, eq_self, a_isRA_22, a_isRA_24, a_isRA_32, a_isA_20, ok_4, ok_5, ok_6, ok_7, ok_9, ok_20, ok_21, ok_30, ok_50, ok_180, ok_192, ok_200, n10]
        try simp only [true_and, and_true, true_implies, false_implies, implies_true, not_true_eq_false, not_false_eq_true]
        first
          | exact hn
          | grind
      · have hn := hfail (fun q => c2 q.2) J2 d2
        ((try clear ih); (try clear hP); (try clear hc); (try clear hb); (try clear hun); (try clear hpn); (try clear ho); (try clear hse); (try clear hse2); (try clear ap); (try clear hok2); (try clear hfail))
        simp only [q119_103, as_nil, as_i, as_r, Nat.reduceAdd, Nat.reduceLeDiff, z_eq0, z_eq1, z_or, z_em, Classical.not_not, not_false_eq_true, not_true_eq_false, true_and, and_true, false_and, and_false, and_self, true_implies, false_implies, implies_true, Option.toList_some, Option.toList_none, List.cons_append, List.nil_append, Nat.add_eq_zero_iff, a_nl_i, a_nl_r, a_nl_n, true_or, or_true, eq_self, a_isRA_22, a_isRA_24, a_isRA_32, a_isA_20, ok_4, ok_5, ok_6, ok_7, ok_9, ok_20, ok_21, ok_30, ok_50, ok_180, ok_192, ok_200]
        try simp only [true_and, and_true, true_implies, false_implies, implies_true, not_true_eq_false, not_false_eq_true]
        first
          | exact hn
          | grind
    have hcall : a_does (d + 7) 123 [a_rf (C + 22), a_rf (R (C + 15) (o i).toNatClampNeg), .int f, .int e] (n, t, K, L, J, R) (fun r h' => a_at (d + 7) (a_xm a_m119) 88 [some (a_rf (C + 22)), some (.int f), some (.int e), some (.int (Int32.ofNat i)), u] (r.toList ++ []) h' P) := by
      refine ce_isInShare (d := d + 5) hT hc ap rfl hsh ?_
      by_cases c1 : shB W (o i) f e = true
      · rw [if_pos c1]
        have hn := hfirst c1
        have n10 : ¬ (1 : Int32) = 0 := by decide
        ((try clear ih); (try clear hP); (try clear hc); (try clear hb); (try clear hun); (try clear hpn); (try clear ho); (try clear hse); (try clear hse2); (try clear ap); (try clear hok2); (try clear hfail); (try clear hfirst))
        simp only [q119_88, q119_91, q119_92, q119_93, q119_96, q119_97, q119_98, q119_99, q119_100, k_22 hS, z_22, r_22_2 hS, k_23 hS, l_23 hS, z_23, as_nil, as_i, as_r, Nat.reduceAdd, Nat.reduceLeDiff, z_eq0, z_eq1, z_or, z_em, Classical.not_not, not_false_eq_true, not_true_eq_false, true_and, and_true, false_and, and_false, and_self, true_implies, false_implies, implies_true, Option.toList_some, Option.toList_none, List.cons_append, List.nil_append, Nat.add_eq_zero_iff, a_nl_i, a_nl_r, a_nl_n, true_or, or_true, eq_self, a_isRA_22, a_isRA_24, a_isRA_32, a_isA_20, ok_4, ok_5, ok_6, ok_7, ok_9, ok_20, ok_21, ok_30, ok_50, ok_180, ok_192, ok_200, n10, q0, ei, hok]
        try simp only [true_and, and_true, true_implies, false_implies, implies_true, not_true_eq_false, not_false_eq_true]
        first
          | exact hn
          | grind
      · rw [if_neg c1]
        have hn := hfail (fun q => c1 q.1) J (dC_refl hT)
        ((try clear ih); (try clear hP); (try clear hc); (try clear hb); (try clear hun); (try clear hpn); (try clear ho); (try clear hse); (try clear hse2); (try clear ap); (try clear hok2); (try clear hfail); (try clear hfirst))
        simp only [q119_88, q119_91, q119_92, q119_93, q119_96, q119_97, q119_98, q119_99, q119_100, k_22 hS, z_22, r_22_2 hS, k_23 hS, l_23 hS, z_23, as_nil, as_i, as_r, Nat.reduceAdd, Nat.reduceLeDiff, z_eq0, z_eq1, z_or, z_em, Classical.not_not, not_false_eq_true, not_true_eq_false, true_and, and_true, false_and, and_false, and_self, true_implies, false_implies, implies_true, Option.toList_some, Option.toList_none, List.cons_append, List.nil_append, Nat.add_eq_zero_iff, a_nl_i, a_nl_r, a_nl_n, true_or, or_true, eq_self, a_isRA_22, a_isRA_24, a_isRA_32, a_isA_20, ok_4, ok_5, ok_6, ok_7, ok_9, ok_20, ok_21, ok_30, ok_50, ok_180, ok_192, ok_200]
        try simp only [true_and, and_true, true_implies, false_implies, implies_true, not_true_eq_false, not_false_eq_true]
        first
          | exact hn
          | grind
    ((try clear ih); (try clear hP); (try clear hc); (try clear hb); (try clear hun); (try clear hpn); (try clear ho); (try clear hse); (try clear hse2); (try clear ap); (try clear hok2); (try clear hfail); (try clear hfirst))
    rw [q119_68]
    simp only [q119_69, q119_70, q119_73, q119_76, q119_77, q119_78, q119_81, q119_82, q119_83, q119_84, q119_85, k_22 hS, z_22, r_22_2 hS, k_23 hS, l_23 hS, z_23, as_nil, as_i, as_r, Nat.reduceAdd, Nat.reduceLeDiff, z_eq0, z_eq1, z_or, z_em, Classical.not_not, not_false_eq_true, not_true_eq_false, true_and, and_true, false_and, and_false, and_self, true_implies, false_implies, implies_true, Option.toList_some, Option.toList_none, List.cons_append, List.nil_append, Nat.add_eq_zero_iff, a_nl_i, a_nl_r, a_nl_n, true_or, or_true, eq_self, a_isRA_22, a_isRA_24, a_isRA_32, a_isA_20, ok_4, ok_5, ok_6, ok_7, ok_9, ok_20, ok_21, ok_30, ok_50, ok_180, ok_192, ok_200, h6, q0, ei, hok, nle]
    try simp only [true_and, and_true, true_implies, false_implies, implies_true, not_true_eq_false, not_false_eq_true]
    first
      | exact hcall
      | grind
def h96 (C : Nat) (I J : Nat → Nat → Int32) : Prop := (∀ x j, C + 96 < x → J x j = I x j) ∧ J (C + 1) 6 = I (C + 1) 6 ∧ ∀ x j, C + 44 ≤ x → x ≤ C + 96 → J x j = I x j
theorem h96_ui (h : h96 C I J) {k j : Nat} {v : Int32} (hk : k ≤ 43) (hn : ¬ k = 1) : h96 C I (a_ui J (C + k) j v) := ⟨fun x i q => by rw [ui_ap, if_neg (by omega)]; exact h.1 x i q, by rw [ui_ap, if_neg (by omega)]; exact h.2.1, fun x i p q => by rw [ui_ap, if_neg (by omega)]; exact h.2.2 x i p q⟩
theorem lh_planAll_12 (hT0 : cT C K L I R) (hc : cpP C K L I R Y) (hse : seP C R Y) {f e : Int32} (hN : ∀ J R1 u, cT C K L J R1 → cpP C K L J R1 Y → rfP C R R1 → pnP C (orP Y).2 0 (fun _ => 0) (Y 0 10) J → (∀ j, j < (orP Y).2 → odP C R1 Y (orP Y).1 j) → (sZ C K Q I0 J ∧ h96 C I0 J) → a_at (d + 7) (a_xm a_m119) 68 [some (a_rf (C + 22)), some (.int f), some (.int e), some (.int 0), u] [] (n, t, K, L, J, R1) P) : ∀ i : Int32, i ≤ 30 → ∀ J R1 u m o, 0 ≤ i → i ≤ Y 0 17 → cT C K L J R1 → cpP C K L J R1 Y → rfP C R R1 → pnP C m 0 (fun _ => 0) (Y 0 10) J → m ≤ i.toNatClampNeg → (∀ j, j < m → odP C R1 Y o j) → (sZ C K Q I0 J ∧ h96 C I0 J) → orF Y (seB Y) ((Y 0 17).toNatClampNeg - i.toNatClampNeg) i (o, m) = orP Y → a_at (d + 7) (a_xm a_m119) 12 [some (a_rf (C + 22)), some (.int f), some (.int e), some (.int i), u] [] (n, t, K, L, J, R1) P := by
  have h17 := hc.2.2.2.2.2.2.2.2.1
  have l30 := cl_le0 h17.1 h17.2
  rw [show (30 : Int32).toNatClampNeg = 30 from rfl] at l30
  refine up_ind 30 (fun i i30 ih => ?_)
  intro J R1 u m o h0 h1 hT hc1 hr hpn hmi ho hz hV
  have hS := hT.s
  have gA := hT.g_asksR
  have gB := hT.g_benchesR
  have gX := hT.g_textsR
  have e4 : J (C + 14) 4 = Y 0 17 := hc1.2.2.1.1
  have hexit : ¬ i < Y 0 17 → a_at (d + 7) (a_xm a_m119) 66 [some (a_rf (C + 22)), some (.int f), some (.int e), some (.int i), u] [] (n, t, K, L, J, R1) P := fun w => by
    rw [(lp_end h1 w).1] at hV
    have e9 : (o, m) = orP Y := hV
    rw [← e9] at hN
    have hn := hN J R1 u hT hc1 hr hpn ho hz
    ((try clear ih); (try clear hN); (try clear hV); (try clear hc); (try clear hc1); (try clear hr); (try clear hse); (try clear hpn); (try clear ho))
    simp only [q119_66, q119_67, as_nil, as_i, as_r, Nat.reduceAdd, Nat.reduceLeDiff, z_eq0, z_eq1, z_or, z_em, Classical.not_not, not_false_eq_true, not_true_eq_false, true_and, and_true, false_and, and_false, and_self, true_implies, false_implies, implies_true, Option.toList_some, Option.toList_none, List.cons_append, List.nil_append, Nat.add_eq_zero_iff, a_nl_i, a_nl_r, a_nl_n, true_or, or_true, eq_self, a_isRA_22, a_isRA_24, a_isRA_32, a_isA_20, ok_4, ok_5, ok_6, ok_7, ok_9, ok_20, ok_21, ok_30, ok_50, ok_180, ok_192, ok_200]
    exact hn
  have hV2 : i < Y 0 17 → orF Y (seB Y) ((Y 0 17).toNatClampNeg - (i + 1).toNatClampNeg) (i + 1) (if seB Y i = true then (inS Y i m o, m + 1) else (o, m)) = orP Y := fun w => by
    rw [(lp_st h0 w).1] at hV
    exact hV
  have hno : i < Y 0 17 → ¬ seB Y i = true → ∀ u, a_at (d + 7) (a_xm a_m119) 60 [some (a_rf (C + 22)), some (.int f), some (.int e), some (.int i), u] [] (n, t, K, L, J, R1) P := fun w c u => by
    obtain ⟨s1, s2, s3, s4⟩ := lp_st h0 w
    have hV := hV2 w
    rw [if_neg c] at hV
    have hn := ih (Int32.lt_of_lt_of_le w h17.2) J R1 u m o s2 s3 hT hc1 hr hpn (by omega) ho hz hV
    ((try clear ih); (try clear hN); (try clear hV); (try clear hV2); (try clear hc); (try clear hc1); (try clear hr); (try clear hse); (try clear hpn); (try clear ho))
    simp only [q119_60, q119_63, as_nil, as_i, as_r, Nat.reduceAdd, Nat.reduceLeDiff, z_eq0, z_eq1, z_or, z_em, Classical.not_not, not_false_eq_true, not_true_eq_false, true_and, and_true, false_and, and_false, and_self, true_implies, false_implies, implies_true, Option.toList_some, Option.toList_none, List.cons_append, List.nil_append, Nat.add_eq_zero_iff, a_nl_i, a_nl_r, a_nl_n, true_or, or_true, eq_self, a_isRA_22, a_isRA_24, a_isRA_32, a_isA_20, ok_4, ok_5, ok_6, ok_7, ok_9, ok_20, ok_21, ok_30, ok_50, ok_180, ok_192, ok_200]
    exact hn
  have hyes : i < Y 0 17 → seB Y i = true → ∀ u, a_does (d + 7) 120 [a_rf (C + 22), a_rf (R1 (C + 15) i.toNatClampNeg)] (n, t, K, L, J, R1) (fun r h' => a_at (d + 7) (a_xm a_m119) 60 [some (a_rf (C + 22)), some (.int f), some (.int e), some (.int i), u] (r.toList ++ []) h' P) := fun w c u => by
    obtain ⟨s1, s2, s3, s4⟩ := lp_st h0 w
    have hV := hV2 w
    rw [if_pos c] at hV
    have iT := cl_lt h0 w
    refine ce_enter (d := d + 4) hT hc1 (se_rf hT0 hc hse hr) (aa_of hc1 h0 w) rfl (m := m) (by omega) hpn.1 ho (fun R2 hT2 hr2 ho2 => ?_)
    have hT1' := sT_Planner_orderSize hT (v := Int32.ofNat (m + 1)) (on_ok2 (by omega))
    have hc2 := cp_rf hT1' (cp_sc hT hc1 (k := 22) (j := 6) (v := Int32.ofNat (m + 1)) (by omega) (by omega)) hr2
    have hn := ih (Int32.lt_of_lt_of_le w h17.2) (a_ui J (C + 22) 6 (Int32.ofNat (m + 1))) R2 u (m + 1) (inS Y i m o) s2 s3 hT2 hc2 (fun x j a1 a2 a3 => (hr2 x j a1 a2 a3).trans (hr x j a1 a2 a3)) ⟨by rw [ui_ap, if_pos ⟨rfl, rfl⟩], by rw [ui_ap, if_neg (by omega)]; exact hpn.2.1, by rw [ui_ap, if_neg (by omega)]; exact hpn.2.2.1, fun j hj => absurd hj (Nat.not_lt_zero j)⟩ (by omega) (fun j hj => ho2 j (by omega)) ⟨sz_ui hz.1 hT (by omega), h96_ui hz.2 (by omega) (by omega)⟩ hV
    ((try clear ih); (try clear hN); (try clear hV); (try clear hV2); (try clear hc); (try clear hc1); (try clear hr); (try clear hse); (try clear hpn); (try clear ho); (try clear hc2); (try clear hr2); (try clear ho2); (try clear hno))
    simp only [q119_60, q119_63, as_nil, as_i, as_r, Nat.reduceAdd, Nat.reduceLeDiff, z_eq0, z_eq1, z_or, z_em, Classical.not_not, not_false_eq_true, not_true_eq_false, true_and, and_true, false_and, and_false, and_self, true_implies, false_implies, implies_true, Option.toList_some, Option.toList_none, List.cons_append, List.nil_append, Nat.add_eq_zero_iff, a_nl_i, a_nl_r, a_nl_n, true_or, or_true, eq_self, a_isRA_22, a_isRA_24, a_isRA_32, a_isA_20, ok_4, ok_5, ok_6, ok_7, ok_9, ok_20, ok_21, ok_30, ok_50, ok_180, ok_192, ok_200]
    exact hn
  have hin : i < Y 0 17 → a_at (d + 7) (a_xm a_m119) 31 [some (a_rf (C + 22)), some (.int f), some (.int e), some (.int i), u] [a_rf (R1 (C + 15) i.toNatClampNeg)] (n, t, K, L, J, R1) P := fun w => by
    have hno := hno w
    have hyes := hyes w
    obtain ⟨-, ⟨kb, bn, b4⟩, bm, bl⟩ := aa_of hc1 h0 w
    have b0 : (R1 (C + 15) i.toNatClampNeg = 0) = False := eq_false bn
    have f13 : J (R1 (C + 15) i.toNatClampNeg) 13 = Y 20 i.toNatClampNeg := bl.2.2.2.1.1
    have f15 : (J (R1 (C + 15) i.toNatClampNeg) 15 = 0) = (Y 18 i.toNatClampNeg = 0) := propext bl.2.2.2.2.1
    have es : (seB Y i = true) = (¬ 0 ≤ Y 20 i.toNatClampNeg ∧ Y 18 i.toNatClampNeg = 0) := propext ⟨fun q => of_decide_eq_true q, fun q => decide_eq_true q⟩
    rw [es] at hno hyes
    ((try clear ih); (try clear hN); (try clear hV); (try clear hV2); (try clear hc); (try clear hc1); (try clear hr); (try clear hse); (try clear hpn); (try clear ho); (try clear hexit); (try clear bl); (try clear bm))
    by_cases c1 : 0 ≤ Y 20 i.toNatClampNeg
    · have hno := hno (fun q => q.1 c1)
      ((try clear hyes))
      simp only [q119_31, q119_33, q119_35, q119_38, q119_40, q119_43, q119_46, q119_48, q119_51, q119_54, q119_55, q119_57, k_22 hS, z_22, sp_isPlaced, as_nil, as_i, as_r, Nat.reduceAdd, Nat.reduceLeDiff, z_eq0, z_eq1, z_or, z_em, Classical.not_not, not_false_eq_true, not_true_eq_false, true_and, and_true, false_and, and_false, and_self, true_implies, false_implies, implies_true, Option.toList_some, Option.toList_none, List.cons_append, List.nil_append, Nat.add_eq_zero_iff, a_nl_i, a_nl_r, a_nl_n, true_or, or_true, eq_self, a_isRA_22, a_isRA_24, a_isRA_32, a_isA_20, ok_4, ok_5, ok_6, ok_7, ok_9, ok_20, ok_21, ok_30, ok_50, ok_180, ok_192, ok_200, kb, b0, f13, c1]
      try simp only [true_and, and_true, true_implies, false_implies, implies_true, not_true_eq_false, not_false_eq_true]
      first
        | exact hno _
        | grind
    · by_cases c2 : Y 18 i.toNatClampNeg = 0
      · have hyes := hyes ⟨c1, c2⟩
        ((try clear hno))
        simp only [q119_31, q119_33, q119_35, q119_38, q119_40, q119_43, q119_46, q119_48, q119_51, q119_54, q119_55, q119_57, k_22 hS, z_22, sp_isPlaced, as_nil, as_i, as_r, Nat.reduceAdd, Nat.reduceLeDiff, z_eq0, z_eq1, z_or, z_em, Classical.not_not, not_false_eq_true, not_true_eq_false, true_and, and_true, false_and, and_false, and_self, true_implies, false_implies, implies_true, Option.toList_some, Option.toList_none, List.cons_append, List.nil_append, Nat.add_eq_zero_iff, a_nl_i, a_nl_r, a_nl_n, true_or, or_true, eq_self, a_isRA_22, a_isRA_24, a_isRA_32, a_isA_20, ok_4, ok_5, ok_6, ok_7, ok_9, ok_20, ok_21, ok_30, ok_50, ok_180, ok_192, ok_200, kb, b0, f13, f15, c1, c2]
        try simp only [true_and, and_true, true_implies, false_implies, implies_true, not_true_eq_false, not_false_eq_true]
        first
          | exact hyes _
          | grind
      · have hno := hno (fun q => c2 q.2)
        ((try clear hyes))
        simp only [q119_31, q119_33, q119_35, q119_38, q119_40, q119_43, q119_46, q119_48, q119_51, q119_54, q119_55, q119_57, k_22 hS, z_22, sp_isPlaced, as_nil, as_i, as_r, Nat.reduceAdd, Nat.reduceLeDiff, z_eq0, z_eq1, z_or, z_em, Classical.not_not, not_false_eq_true, not_true_eq_false, true_and, and_true, false_and, and_false, and_self, true_implies, false_implies, implies_true, Option.toList_some, Option.toList_none, List.cons_append, List.nil_append, Nat.add_eq_zero_iff, a_nl_i, a_nl_r, a_nl_n, true_or, or_true, eq_self, a_isRA_22, a_isRA_24, a_isRA_32, a_isA_20, ok_4, ok_5, ok_6, ok_7, ok_9, ok_20, ok_21, ok_30, ok_50, ok_180, ok_192, ok_200, kb, b0, f13, f15, c1, c2]
        try simp only [true_and, and_true, true_implies, false_implies, implies_true, not_true_eq_false, not_false_eq_true]
        first
          | exact hno _
          | grind
  ((try clear ih); (try clear hN); (try clear hV); (try clear hV2); (try clear hc); (try clear hc1); (try clear hr); (try clear hse); (try clear hpn); (try clear ho); (try clear hno); (try clear hyes))
  rw [q119_12]
  repeat' first
    | with_reducible apply And.intro
    | with_reducible assumption
    | with_reducible intro _
    | refine hexit ?_
    | refine hin ?_
    | simp only [q119_13, q119_14, q119_17, q119_20, q119_23, q119_24, q119_27, q119_28, k_22 hS, z_22, r_22_0 hS, k_14 hS, z_14, sp_askAt hS gA, as_nil, as_i, as_r, Nat.reduceAdd, Nat.reduceLeDiff, z_eq0, z_eq1, z_or, z_em, Classical.not_not, not_false_eq_true, not_true_eq_false, true_and, and_true, false_and, and_false, and_self, true_implies, false_implies, implies_true, Option.toList_some, Option.toList_none, List.cons_append, List.nil_append, Nat.add_eq_zero_iff, a_nl_i, a_nl_r, a_nl_n, true_or, or_true, eq_self, a_isRA_22, a_isRA_24, a_isRA_32, a_isA_20, ok_4, ok_5, ok_6, ok_7, ok_9, ok_20, ok_21, ok_30, ok_50, ok_180, ok_192, ok_200, e4]
  all_goals ((try clear hexit); (try clear hin); (try clear hT); (try clear hS); (try clear gA); (try clear gB); (try clear gX); grind [ui_ap])
theorem ch_planAll (hT : cT C K L I R) (hc : cpP C K L I R Y) (hse : seP C R Y) {mm : Nat} (hq : gvC C IB RB WB mm I R Y) (hsh : I (C + 22) 8 = Y 0 10) (hQ : ∀ i : Int32, 0 ≤ i → i < Y 0 17 → ¬ Q (R (C + 15) i.toNatClampNeg)) {f e : Int32} (hf : 0 ≤ f ∧ f ≤ 202) (he9 : e ≤ 199) (hP : ∀ J R2, cT C K L J R2 → cpP C K L J R2 (plY Y f e).1 → gvC C IB RB WB mm J R2 (plY Y f e).1 → sbE Y (plY Y f e).1 → rfP C R R2 → (plY Y f e).2.1 ≤ (orP Y).2 → pnP C (orP Y).2 (plY Y f e).2.1 (plY Y f e).2.2 (Y 0 10) J → sZ C K Q I J → P (some (.int (Int32.ofNat ((orP Y).2 - (plY Y f e).2.1)))) (n, t, K, L, J, R2)) : a_does (d + 8) 119 [a_rf (C + 22), .int f, .int e] (n, t, K, L, I, R) P := by
  have hS := hT.s
  have h17 := hc.2.2.2.2.2.2.2.2.1
  have l30 := cl_le0 h17.1 h17.2
  rw [show (30 : Int32).toNatClampNeg = 30 from rfl] at l30
  have hrw := rw_orP (Y := Y) h17.1
  have hor : (orP Y).2 ≤ 30 := or_le (z := 30) _ _ _ (by show 0 + _ ≤ 30; omega)
  have hT1 := sT_Planner_orderSize hT (v := 0) (by decide)
  have hc1 := cp_sc hT hc (k := 22) (j := 6) (v := 0) (by omega) (by omega)
  have hT2 := sT_Planner_passedCount hT1 (v := 0) (by decide)
  have hc2 := cp_sc hT1 hc1 (k := 22) (j := 7) (v := 0) (by omega) (by omega)
  have hl := fun u => lh_planAll_12 (d := d) (Q := Q) (n := n) (t := t) (P := P) (f := f) (e := e) (I0 := I) hT2 hc2 hse (fun J R1 u hT3 hc3 hr3 hpn3 ho3 hz3 => by
    have e0 : (0 : Int32) = Int32.ofNat 0 := rfl
    rw [e0]
    exact lh_planAll_68 (d := d) (Q := Q) (se_rf hT2 hc2 hse hr3) (fun i i0 i1 => by rw [hr3 _ _ (by omega) (by omega) (by omega)]; exact hQ i i0 i1) hf he9 (o := (orP Y).1) hor ho3 hrw.2 (I0 := I) (fun J2 a1 a2 g2 a3 a4 a5 a6 => hP J2 R1 a1 a2 g2 a3 hr3 a4 a5 a6) (orP Y).2 0 J Y 0 (fun _ => 0) u (by omega) hT3 hc3 (gvC_fr hq hT hc ⟨fun x j q _ => hz3.2.1 x j q, hz3.2.2.1, (hf_rf hT hr3).2.2.1, hz3.2.2.2⟩) (fun _ _ _ => rfl) rfl (Nat.le_refl _) hpn3 hz3.1 (fun j _ hj => (of_decide_eq_true (hrw.1 j hj).2).1) rfl) 0 (by decide) _ R u 0 (fun _ => 0) (by decide) h17.1 hT2 hc2 (fun _ _ _ _ _ => rfl) ⟨by rw [ui_ap, if_neg (by omega), ui_ap, if_pos ⟨rfl, rfl⟩]; rfl, by rw [ui_ap, if_pos ⟨rfl, rfl⟩]; rfl, by rw [ui_ap, if_neg (by omega), ui_ap, if_neg (by omega)]; exact hsh, fun j hj => absurd hj (Nat.not_lt_zero j)⟩ (Nat.zero_le _) (fun j hj => absurd hj (Nat.not_lt_zero j)) ⟨sz_ui (sz_ui sz_refl hT (by omega)) hT1 (by omega), h96_ui (h96_ui ⟨fun _ _ _ => rfl, rfl, fun _ _ _ _ => rfl⟩ (by omega) (by omega)) (by omega) (by omega)⟩ (by rw [lp_0]; rfl)
  ((try clear hP); (try clear hc); (try clear hc1); (try clear hc2); (try clear hse); (try clear hrw))
  rw [a_enter1 (M := a_m119) rfl (a_cat_rf (a_cat_int (a_cat_int a_cat_nil))) (show 3 ≤ 5 by decide)]
  show a_at _ (a_xm a_m119) 0 [some (a_rf (C + 22)), some (.int f), some (.int e), none, none] [] _ _
  simp only [q119_0, q119_1, q119_2, q119_5, q119_6, q119_7, q119_10, q119_11, k_22 hS, z_22, as_nil, as_i, as_r, Nat.reduceAdd, Nat.reduceLeDiff, z_eq0, z_eq1, z_or, z_em, Classical.not_not, not_false_eq_true, not_true_eq_false, true_and, and_true, false_and, and_false, and_self, true_implies, false_implies, implies_true, Option.toList_some, Option.toList_none, List.cons_append, List.nil_append, Nat.add_eq_zero_iff, a_nl_i, a_nl_r, a_nl_n, true_or, or_true, eq_self, a_isRA_22, a_isRA_24, a_isRA_32, a_isA_20, ok_4, ok_5, ok_6, ok_7, ok_9, ok_20, ok_21, ok_30, ok_50, ok_180, ok_192, ok_200]
  exact hl _
theorem ch_clearUnfit (hH : cH C c (n + 1) t K L I R) (hc : cpP C K L I R Y) (hse : seP C R Y) {a : Nat} {i : Int32} (ap : aaP C K I Y i a) (haa : (R (C + 15) i.toNatClampNeg) = a) {mm : Nat} (hq : tkC C IB RB WB mm I R Y) (hmm : mm < 16384) (hP1 : agB Y i = true → ∀ n' t' K' L' J R', cH C c (n' + 1) t' K' L' J R' → dQ C (n + 1) K L I R (n' + 1) K' L' J R' → cpP C K' L' J R' (unY Y i) → seP C R' Y → (∀ j, R' (C + 15) j = R (C + 15) j) → aZ K a I J → tkC C IB RB WB (mm + 1) J R' (unY Y i) → P (some (.int 1)) (n' + 1, t', K', L', J, R')) (hP0 : ¬ agB Y i = true → ∀ J, dC C K L R I J → P (some (.int 0)) (n + 1, t, K, L, J, R)) : a_does (d + 6) 145 [a_rf (C + 14), a_rf a] (n + 1, t, K, L, I, R) P := by
  have hT := hH.1
  have hS := hT.s
  obtain ⟨ai, ⟨ha, an0, a4n⟩, am, al⟩ := id ap
  obtain ⟨a1, a2, a4, a3⟩ := hT.g_ask a ha
  have a0 : (a = 0) = False := eq_false an0
  have gA := hT.g_asksR
  have gB := hT.g_benchesR
  have gX := hT.g_textsR
  have hy := hc.2.2.2.2
  have e13 : I a 13 = Y 20 i.toNatClampNeg := al.2.2.2.1.1
  have e14 : I a 14 = Y 21 i.toNatClampNeg := al.2.2.2.1.2
  have en : I (C + 1) 6 = Y 0 0 := hc.1.1
  have es : (agB Y i = true) = ((0 ≤ Y 20 i.toNatClampNeg ∧ ¬ Y 21 i.toNatClampNeg * 8 < Y 0 0) ∧ ¬ ftY Y i (Y 20 i.toNatClampNeg) (Y 21 i.toNatClampNeg) = 0) := propext ⟨fun q => of_decide_eq_true q, fun q => decide_eq_true q⟩
  rw [es] at hP1 hP0
  by_cases c1 : 0 ≤ Y 20 i.toNatClampNeg ∧ ¬ Y 21 i.toNatClampNeg * 8 < Y 0 0
  · have pa := c1.1
    have i30 : i.toNatClampNeg < 30 := a_lt30 ⟨ai.1, Int32.lt_of_lt_of_le ai.2 hy.2.2.2.2.1.2⟩
    obtain ⟨⟨p21, p200, psl⟩, p5⟩ := hy.2.2.2.2.2.2.1 _ i30 pa
    have p6 : Y 20 i.toNatClampNeg < Y 0 6 := (hc.2.1.2.2.2.1 i ai.1 ai.2 pa).1
    have ps : 0 ≤ Y 21 i.toNatClampNeg ∧ Y 21 i.toNatClampNeg ≤ 199 := by
      have := hy.2.2.1 i ai.1 ai.2
      ((try clear hP1); (try clear hP0); (try clear hse); (try clear gA); (try clear gB); (try clear gX); (try clear es))
      grind
    have hcall : a_does (d + 5) 100 [a_rf (C + 14), a_rf a, .int (Y 20 i.toNatClampNeg), .int (Y 21 i.toNatClampNeg)] (n + 1, t, K, L, I, R) (fun r h' => a_at (d + 5) (a_xm a_m145) 21 [some (a_rf (C + 14)), some (a_rf a)] (r.toList ++ []) h' P) := by
      refine ce_firstBar (d := d) hT hc ap ⟨pa, p6⟩ ps (fun J hJ => ?_)
      have hT2 := hJ.1
      have hS2 := hT2.s
      by_cases cf : ftY Y i (Y 20 i.toNatClampNeg) (Y 21 i.toNatClampNeg) = 0
      · have hn := hP0 (fun q => q.2 cf) J hJ
        ((try clear hP1); (try clear hP0); (try clear hc); (try clear ap); (try clear al); (try clear am); (try clear hse); (try clear es))
        simp only [q145_21, q145_24, q145_25, as_nil, as_i, as_r, Nat.reduceAdd, Nat.reduceLeDiff, z_eq0, z_eq1, z_or, z_em, Classical.not_not, not_false_eq_true, not_true_eq_false, true_and, and_true, false_and, and_false, and_self, true_implies, false_implies, implies_true, Option.toList_some, Option.toList_none, List.cons_append, List.nil_append, Nat.add_eq_zero_iff, a_nl_i, a_nl_r, a_nl_n, true_or, or_true, eq_self, a_isRA_22, a_isRA_24, a_isRA_32, a_isA_20, ok_4, ok_5, ok_6, ok_7, ok_9, ok_20, ok_21, ok_30, ok_50, ok_180, ok_192, ok_200, cf]
        try simp only [true_and, and_true, true_implies, false_implies, implies_true, not_true_eq_false, not_false_eq_true]
        first
          | exact hn
          | exact ⟨by decide, hn⟩
          | grind
      · have hcl : a_does (d + 5) 45 [a_rf (C + 14), a_rf a] (n + 1, t, K, L, J, R) (fun r h' => a_at (d + 5) (a_xm a_m145) 31 [some (a_rf (C + 14)), some (a_rf a)] (r.toList ++ []) h' P) := by
          refine ch_clear (d := d) (cH_J hH hT2) (cpP_C hT hc hJ) hse (aaP_C hT ap hJ) haa (pc_lt hT2 (cpP_C hT hc hJ) (tkC_fr hq hT hc (hf_C hJ)).1 hmm pa p6).2 (fun n' t' K' L' J2 R' hH' hQ hc' hse' h15 hz' p1 p2 p3 p4 p5 p7 => ?_) pa
          have hn := hP1 ⟨c1, cf⟩ n' t' K' L' J2 R' hH' (dQ_Q (dQ_C hJ) hQ) hc' hse' h15 (fun x j kx hx => (hz' x j kx hx).trans (dC_at hJ hT kx j)) (tkC_un (tkC_fr hq hT hc (hf_C hJ)) hT2 hH.2.1 (cpP_C hT hc hJ) hse hmm hc' ai pa (hQ.2.2.2.2 _ _ (by have := hH.2.2.1; omega) (by omega) (by omega) (by omega)) p1 p2 p3 p4 p5 p7)
          have hS3 := hH'.1.s
          ((try clear hP1); (try clear hP0); (try clear hc); (try clear ap); (try clear al); (try clear am); (try clear hse); (try clear es); (try clear hc'); (try clear hse'))
          simp only [q145_31, q145_32, as_nil, as_i, as_r, Nat.reduceAdd, Nat.reduceLeDiff, z_eq0, z_eq1, z_or, z_em, Classical.not_not, not_false_eq_true, not_true_eq_false, true_and, and_true, false_and, and_false, and_self, true_implies, false_implies, implies_true, Option.toList_some, Option.toList_none, List.cons_append, List.nil_append, Nat.add_eq_zero_iff, a_nl_i, a_nl_r, a_nl_n, true_or, or_true, eq_self, a_isRA_22, a_isRA_24, a_isRA_32, a_isA_20, ok_4, ok_5, ok_6, ok_7, ok_9, ok_20, ok_21, ok_30, ok_50, ok_180, ok_192, ok_200]
          first
            | exact hn
            | exact ⟨by decide, hn⟩
            | grind
        ((try clear hP1); (try clear hP0); (try clear hc); (try clear ap); (try clear al); (try clear am); (try clear hse); (try clear es))
        simp only [q145_21, q145_24, q145_25, q145_26, q145_27, q145_28, k_14 hS, z_14, as_nil, as_i, as_r, Nat.reduceAdd, Nat.reduceLeDiff, z_eq0, z_eq1, z_or, z_em, Classical.not_not, not_false_eq_true, not_true_eq_false, true_and, and_true, false_and, and_false, and_self, true_implies, false_implies, implies_true, Option.toList_some, Option.toList_none, List.cons_append, List.nil_append, Nat.add_eq_zero_iff, a_nl_i, a_nl_r, a_nl_n, true_or, or_true, eq_self, a_isRA_22, a_isRA_24, a_isRA_32, a_isA_20, ok_4, ok_5, ok_6, ok_7, ok_9, ok_20, ok_21, ok_30, ok_50, ok_180, ok_192, ok_200, cf]
        try simp only [true_and, and_true, true_implies, false_implies, implies_true, not_true_eq_false, not_false_eq_true]
        first
          | exact hcl
          | grind
    ((try clear hP1); (try clear hP0); (try clear hc); (try clear ap); (try clear al); (try clear am); (try clear hse); (try clear es))
    rw [a_enter1 (M := a_m145) rfl (a_cat_rf (a_cat_rf a_cat_nil)) (show 2 ≤ 2 by decide)]
    show a_at _ (a_xm a_m145) 0 [some (a_rf (C + 14)), some (a_rf a)] [] _ _
    simp only [q145_0, q145_1, q145_2, q145_5, q145_8, q145_9, q145_10, q145_11, q145_14, q145_15, q145_18, k_14 hS, z_14, sp_mayMove hS, as_nil, as_i, as_r, Nat.reduceAdd, Nat.reduceLeDiff, z_eq0, z_eq1, z_or, z_em, Classical.not_not, not_false_eq_true, not_true_eq_false, true_and, and_true, false_and, and_false, and_self, true_implies, false_implies, implies_true, Option.toList_some, Option.toList_none, List.cons_append, List.nil_append, Nat.add_eq_zero_iff, a_nl_i, a_nl_r, a_nl_n, true_or, or_true, eq_self, a_isRA_22, a_isRA_24, a_isRA_32, a_isA_20, ok_4, ok_5, ok_6, ok_7, ok_9, ok_20, ok_21, ok_30, ok_50, ok_180, ok_192, ok_200, ha, a0, e13, e14, en, c1, pa]
    try simp only [true_and, and_true, true_implies, false_implies, implies_true, not_true_eq_false, not_false_eq_true]
    first
      | exact hcall
      | grind
  · have hn := hP0 (fun q => c1 q.1) I (dC_refl hT)
    ((try clear hP1); (try clear hP0); (try clear hc); (try clear ap); (try clear al); (try clear am); (try clear hse); (try clear es))
    rw [a_enter1 (M := a_m145) rfl (a_cat_rf (a_cat_rf a_cat_nil)) (show 2 ≤ 2 by decide)]
    show a_at _ (a_xm a_m145) 0 [some (a_rf (C + 14)), some (a_rf a)] [] _ _
    simp only [q145_0, q145_1, q145_2, q145_5, q145_24, q145_25, k_14 hS, z_14, sp_mayMove hS, as_nil, as_i, as_r, Nat.reduceAdd, Nat.reduceLeDiff, z_eq0, z_eq1, z_or, z_em, Classical.not_not, not_false_eq_true, not_true_eq_false, true_and, and_true, false_and, and_false, and_self, true_implies, false_implies, implies_true, Option.toList_some, Option.toList_none, List.cons_append, List.nil_append, Nat.add_eq_zero_iff, a_nl_i, a_nl_r, a_nl_n, true_or, or_true, eq_self, a_isRA_22, a_isRA_24, a_isRA_32, a_isA_20, ok_4, ok_5, ok_6, ok_7, ok_9, ok_20, ok_21, ok_30, ok_50, ok_180, ok_192, ok_200, ha, a0, e13, e14, en, c1]
    try simp only [true_and, and_true, true_implies, false_implies, implies_true, not_true_eq_false, not_false_eq_true]
    first
      | exact hn
      | exact ⟨by decide, hn⟩
      | grind
theorem lh_planAgain_77 (hH : cH C c (n + 1) t K L I R) {n0 : Nat} {K0 : Nat → Nat} {R0 : Nat → Nat → Nat} (hse : seP C R Y) (hQ : ∀ i : Int32, 0 ≤ i → i < Y 0 17 → ¬ Q (R (C + 15) i.toNatClampNeg)) {f : Int32} (hf : 0 ≤ f ∧ f ≤ 202) (ef : Y 0 0 / 8 + 1 = f) {o : Nat → Int32} {m : Nat} {mm : Nat} (hm30 : m ≤ 30) (ho : ∀ j, j < m → odP C R Y o j) (hoi : ∀ i j, i < m → j < m → o i = o j → i = j) {V : (Nat → Nat → Int32) × Nat} (hP : ∀ J, cT C K L J R → cpP C K L J R V.1 → gvC C IB RB WB mm J R V.1 → sbE Y V.1 → fZ C n0 K0 Q I0 R0 (n + 1) K J R → P (some (.int (Int32.ofNat V.2))) (n + 1, t, K, L, J, R)) : ∀ (k i : Nat) (J W : Nat → Nat → Int32) (mv : Nat) (u : Option Value), i + k = m → cT C K L J R → cpP C K L J R W → gvC C IB RB WB mm J R W → sbE Y W → mv ≤ i → J (C + 22) 6 = Int32.ofNat m → fZ C n0 K0 Q I0 R0 (n + 1) K J R → (∀ j, j < m → J (C + 25) (o j).toNatClampNeg = Y 20 (o j).toNatClampNeg ∧ J (C + 26) (o j).toNatClampNeg = Y 21 (o j).toNatClampNeg) → (∀ j, i ≤ j → j < m → ¬ 0 ≤ W 20 (o j).toNatClampNeg) → agM o f 199 Y k i (W, mv) = V → a_at (d + 7) (a_xm a_m144) 77 [some (a_rf (C + 22)), some (.int (Int32.ofNat mv)), some (.int (Int32.ofNat i)), u] [] (n + 1, t, K, L, J, R) P := by
  intro k
  induction k with
  | zero =>
    intro i J W mv u hk hT hc hq hb hmv h6 hz hol hun hV
    have e : (W, mv) = V := hV
    subst e
    have ei : i = m := by omega
    have hp := hP J hT hc hq hb hz
    have hS := hT.s
    rw [ei]
    ((try clear hP); (try clear hc); (try clear hb); (try clear hun); (try clear ho); (try clear hse); (try clear hol); (try clear hH); (try clear hz))
    rw [q144_77]
    simp only [q144_78, q144_79, q144_82, q144_154, q144_155, k_22 hS, z_22, as_nil, as_i, as_r, Nat.reduceAdd, Nat.reduceLeDiff, z_eq0, z_eq1, z_or, z_em, Classical.not_not, not_false_eq_true, not_true_eq_false, true_and, and_true, false_and, and_false, and_self, true_implies, false_implies, implies_true, Option.toList_some, Option.toList_none, List.cons_append, List.nil_append, Nat.add_eq_zero_iff, a_nl_i, a_nl_r, a_nl_n, true_or, or_true, eq_self, a_isRA_22, a_isRA_24, a_isRA_32, a_isA_20, ok_4, ok_5, ok_6, ok_7, ok_9, ok_20, ok_21, ok_30, ok_50, ok_180, ok_192, ok_200, h6]
    first
      | exact hp
      | exact ⟨fun _ => hp, fun q => absurd (Int32.le_refl _) q⟩
      | grind
  | succ k ih =>
    intro i J W mv u hk hT hc hq hb hmv h6 hz hol hun hV
    have hS := hT.s
    have w17 : W 0 17 = Y 0 17 := hb 0 17 (by unfold sb; omega)
    have w00 : W 0 0 = Y 0 0 := hb 0 0 (by unfold sb; omega)
    have hse2 := se_b hse hb
    have him : i < m := by omega
    obtain ⟨q0, q1, q2⟩ := ho i him
    rw [← w17] at q2
    have ap := aa_of hc q1 q2
    have h17 := hc.2.2.2.2.2.2.2.2.1
    have o30 : 0 ≤ o i ∧ o i < 30 := ⟨q1, Int32.lt_of_lt_of_le q2 h17.2⟩
    have un : ¬ 0 ≤ W 20 (o i).toNatClampNeg := hun i (Nat.le_refl _) him
    have hok := on_ok (p := i) (by omega)
    have ei := (on_p (p := i) (by omega)).2.2.1
    have ei1 := (on_p (p := i) (by omega)).2.2.2.2.1
    have ev1 := (on_p (p := mv) (by omega)).2.2.2.2.1
    have nle : ¬ Int32.ofNat m ≤ Int32.ofNat i := Int32.not_le.mpr (by rw [on_lt (by omega) (by omega)]; omega)
    have ka := ap.2.1.1
    have kn := ap.2.1.2.1
    have k0 : (R (C + 15) (o i).toNatClampNeg = 0) = False := eq_false kn
    have n8 : ¬ (8 : Int32) = 0 := by decide
    have enow : J (C + 1) 6 = Y 0 0 := by rw [hc.1.1]; exact w00
    have hold := hol i him
    have hafter : ∀ (v : Int32) (Z : Nat → Nat → Int32), giY W (o i) f 199 true = Z → sbE Y Z → (∀ j, i < j → j < m → ¬ 0 ≤ Z 20 (o j).toNatClampNeg) → ∀ J2, dL C K L R J J2 → aZ K (R (C + 15) (o i).toNatClampNeg) J J2 → cpP C K L J2 R Z → gvC C IB RB WB mm J2 R Z → a_at (d + 7) (a_xm a_m144) 112 [some (a_rf (C + 22)), some (.int (Int32.ofNat mv)), some (.int (Int32.ofNat i)), some (a_rf (R (C + 15) (o i).toNatClampNeg))] [.int v] (n + 1, t, K, L, J2, R) P := fun v Z eZ hbZ hunZ J2 d2 z2 hc2 hq2 => by
      have hT2 := d2.1
      have hS2 := hT2.s
      have e : ∀ k j, k = 22 ∨ k = 25 ∨ k = 26 → J2 (C + k) j = J (C + k) j := fun k j hk => d2.2 _ _ (by omega) (by omega) (by omega)
      have g25 : J2 (C + 25) (o i).toNatClampNeg = Y 20 (o i).toNatClampNeg := by rw [e _ _ (Or.inr (Or.inl rfl))]; exact hold.1
      have g26 : J2 (C + 26) (o i).toNatClampNeg = Y 21 (o i).toNatClampNeg := by rw [e _ _ (Or.inr (Or.inr rfl))]; exact hold.2
      obtain ⟨-, ⟨-, -, a4⟩, -, al⟩ := aa_of hc2 q1 (by rw [hbZ 0 17 (by unfold sb; omega), ← w17]; exact q2)
      have a13 : J2 (R (C + 15) (o i).toNatClampNeg) 13 = Z 20 (o i).toNatClampNeg := al.2.2.2.1.1
      have a14 : J2 (R (C + 15) (o i).toNatClampNeg) 14 = Z 21 (o i).toNatClampNeg := al.2.2.2.1.2
      unfold agM at hV
      have e1 : ∀ (x : Nat → Nat → Int32) (y : Nat), (x, y).1 = x ∧ (x, y).2 = y := fun _ _ => ⟨rfl, rfl⟩
      rw [(e1 _ _).1, (e1 _ _).2, eZ] at hV
      have hn := fun mv2 hmv2 (hv2 : agM o f 199 Y k (i + 1) (Z, mv2) = V) => ih (i + 1) J2 Z mv2 (some (a_rf (R (C + 15) (o i).toNatClampNeg))) (by omega) hT2 hc2 hq2 hbZ hmv2 (by rw [e _ _ (Or.inl rfl)]; exact h6) (fz_L hz hT d2 (hQ _ q1 (by rw [← w17]; exact q2)) z2) (fun j hj => by rw [e _ _ (Or.inr (Or.inl rfl)), e _ _ (Or.inr (Or.inr rfl))]; exact hol j hj) (fun j hj hj2 => hunZ j (by omega) hj2) hv2
      by_cases cs : Z 20 (o i).toNatClampNeg = Y 20 (o i).toNatClampNeg ∧ Z 21 (o i).toNatClampNeg = Y 21 (o i).toNatClampNeg
      · rw [if_pos cs] at hV
        have hn := hn mv (by omega) hV
        obtain ⟨c1, c2⟩ := cs
        ((try clear ih); (try clear hP); (try clear hc); (try clear hb); (try clear hun); (try clear ho); (try clear hse); (try clear hol); (try clear hH); (try clear hV); (try clear hc2); (try clear al); (try clear hbZ); (try clear hunZ))
        simp only [q144_112, q144_113, q144_114, q144_117, q144_118, q144_121, q144_122, q144_125, q144_126, q144_129, q144_130, q144_133, q144_134, q144_137, q144_138, q144_141, q144_142, q144_145, q144_148, q144_151, k_22 hS2, z_22, r_22_4 hS2, k_25 hS2, l_25 hS2, z_25, r_22_5 hS2, k_26 hS2, l_26 hS2, z_26, as_nil, as_i, as_r, Nat.reduceAdd, Nat.reduceLeDiff, z_eq0, z_eq1, z_or, z_em, Classical.not_not, not_false_eq_true, not_true_eq_false, true_and, and_true, false_and, and_false, and_self, true_implies, false_implies, implies_true, Option.toList_some, Option.toList_none, List.cons_append, List.nil_append, Nat.add_eq_zero_iff, a_nl_i, a_nl_r, a_nl_n, true_or, or_true, eq_self, a_isRA_22, a_isRA_24, a_isRA_32, a_isA_20, ok_4, ok_5, ok_6, ok_7, ok_9, ok_20, ok_21, ok_30, ok_50, ok_180, ok_192, ok_200, ka, k0, a4, a13, a14, g25, g26, o30, c1, c2, ei1]
        try simp only [true_and, and_true, true_implies, false_implies, implies_true, not_true_eq_false, not_false_eq_true]
        first
          | exact hn
          | grind
      · rw [if_neg cs] at hV
        have hn := hn (mv + 1) (by omega) hV
        ((try clear ih); (try clear hP); (try clear hc); (try clear hb); (try clear hun); (try clear ho); (try clear hse); (try clear hol); (try clear hH); (try clear hV); (try clear hc2); (try clear al); (try clear hbZ); (try clear hunZ))
        by_cases c1 : Z 20 (o i).toNatClampNeg = Y 20 (o i).toNatClampNeg
        · have c2 : ¬ Z 21 (o i).toNatClampNeg = Y 21 (o i).toNatClampNeg := fun q => cs ⟨c1, q⟩
          simp only [q144_112, q144_113, q144_114, q144_117, q144_118, q144_121, q144_122, q144_125, q144_126, q144_129, q144_130, q144_133, q144_134, q144_137, q144_138, q144_141, q144_142, q144_145, q144_148, q144_151, k_22 hS2, z_22, r_22_4 hS2, k_25 hS2, l_25 hS2, z_25, r_22_5 hS2, k_26 hS2, l_26 hS2, z_26, as_nil, as_i, as_r, Nat.reduceAdd, Nat.reduceLeDiff, z_eq0, z_eq1, z_or, z_em, Classical.not_not, not_false_eq_true, not_true_eq_false, true_and, and_true, false_and, and_false, and_self, true_implies, false_implies, implies_true, Option.toList_some, Option.toList_none, List.cons_append, List.nil_append, Nat.add_eq_zero_iff, a_nl_i, a_nl_r, a_nl_n, true_or, or_true, eq_self, a_isRA_22, a_isRA_24, a_isRA_32, a_isA_20, ok_4, ok_5, ok_6, ok_7, ok_9, ok_20, ok_21, ok_30, ok_50, ok_180, ok_192, ok_200, ka, k0, a4, a13, a14, g25, g26, o30, c1, c2, ei1, ev1]
          try simp only [true_and, and_true, true_implies, false_implies, implies_true, not_true_eq_false, not_false_eq_true]
          first
            | exact hn
            | grind
        · simp only [q144_112, q144_113, q144_114, q144_117, q144_118, q144_121, q144_122, q144_125, q144_126, q144_129, q144_130, q144_133, q144_134, q144_137, q144_138, q144_141, q144_142, q144_145, q144_148, q144_151, k_22 hS2, z_22, r_22_4 hS2, k_25 hS2, l_25 hS2, z_25, r_22_5 hS2, k_26 hS2, l_26 hS2, z_26, as_nil, as_i, as_r, Nat.reduceAdd, Nat.reduceLeDiff, z_eq0, z_eq1, z_or, z_em, Classical.not_not, not_false_eq_true, not_true_eq_false, true_and, and_true, false_and, and_false, and_self, true_implies, false_implies, implies_true, Option.toList_some, Option.toList_none, List.cons_append, List.nil_append, Nat.add_eq_zero_iff, a_nl_i, a_nl_r, a_nl_n, true_or, or_true, eq_self, a_isRA_22, a_isRA_24, a_isRA_32, a_isA_20, ok_4, ok_5, ok_6, ok_7, ok_9, ok_20, ok_21, ok_30, ok_50, ok_180, ok_192, ok_200, ka, k0, a4, a13, a14, g25, g26, o30, c1, ei1, ev1]
          try simp only [true_and, and_true, true_implies, false_implies, implies_true, not_true_eq_false, not_false_eq_true]
          first
            | exact hn
            | grind
    have hcall : a_does (d + 7) 124 [a_rf (C + 22), a_rf (R (C + 15) (o i).toNatClampNeg), .int f, .int 199] (n + 1, t, K, L, J, R) (fun r h' => a_at (d + 7) (a_xm a_m144) 112 [some (a_rf (C + 22)), some (.int (Int32.ofNat mv)), some (.int (Int32.ofNat i)), some (a_rf (R (C + 15) (o i).toNatClampNeg))] (r.toList ++ []) h' P) := by
      refine ch_placeFirst (d := d) hT hc hse2 ap rfl un hq hf (by decide) (fun c2 J2 d2 z2 hc2 hq2 => ?_) (fun c2 J2 d2 => ?_)
      · refine hafter 1 (puY W (o i) (gnY W (o i) f 199).2 (gnY W (o i) f 199).1) (by unfold giY; rw [if_pos ⟨rfl, c2⟩]) (sb_tr hb puY_b) (fun j hj hj2 => ?_) J2 d2 z2 hc2 hq2
        have hne : ¬ (o j).toNatClampNeg = (o i).toNatClampNeg := fun q => by
          have := hoi j i hj2 him (cl_inj (ho j hj2).2.1 q1 q)
          omega
        unfold puY
        rw [if_neg (fun q => hne q.2), if_neg (by omega), if_neg (by omega)]
        exact hun j (by omega) hj2
      · exact hafter 0 W (by unfold giY; rw [if_neg (fun q => c2 q.2)]) hb (fun j hj hj2 => hun j (by omega) hj2) J2 (dL_C (dL_refl hT) d2) (fun x j kx _ => dC_at d2 hT kx j) (cpP_C hT hc d2) (gvC_fr hq hT hc (hf_C d2))
    ((try clear ih); (try clear hP); (try clear hc); (try clear hb); (try clear hun); (try clear ho); (try clear hse); (try clear hse2); (try clear ap); (try clear hol); (try clear hH); (try clear hV); (try clear hafter))
    rw [q144_77]
    simp only [q144_78, q144_79, q144_82, q144_85, q144_86, q144_89, q144_90, q144_91, q144_92, q144_93, q144_94, q144_95, q144_98, q144_101, q144_103, q144_104, q144_105, q144_106, q144_109, k_22 hS, z_22, r_22_2 hS, k_23 hS, l_23 hS, z_23, r_22_1 hS, k_1 hS, z_1, as_nil, as_i, as_r, Nat.reduceAdd, Nat.reduceLeDiff, z_eq0, z_eq1, z_or, z_em, Classical.not_not, not_false_eq_true, not_true_eq_false, true_and, and_true, false_and, and_false, and_self, true_implies, false_implies, implies_true, Option.toList_some, Option.toList_none, List.cons_append, List.nil_append, Nat.add_eq_zero_iff, a_nl_i, a_nl_r, a_nl_n, true_or, or_true, eq_self, a_isRA_22, a_isRA_24, a_isRA_32, a_isA_20, ok_4, ok_5, ok_6, ok_7, ok_9, ok_20, ok_21, ok_30, ok_50, ok_180, ok_192, ok_200, h6, q0, ei, hok, nle, n8, enow, ef]
    try simp only [true_and, and_true, true_implies, false_implies, implies_true, not_true_eq_false, not_false_eq_true]
    first
      | exact hcall
      | grind
theorem lh_planAgain_7 {n0 : Nat} {K0 : Nat → Nat} {R0 : Nat → Nat → Nat} {mm : Nat} (hmm : mm + 30 < 16384) (hN : ∀ n t K L J R1 (u : Int32) v w, cH C c (n + 1) t K L J R1 → cpP C K L J R1 (agP Y).1 → tkC C IB RB WB (mm + 30) J R1 (agP Y).1 → sbE Y (agP Y).1 → seP C R1 Y → J (C + 22) 6 = Int32.ofNat (agP Y).2.2 → (agP Y).2.2 ≤ 30 → (∀ j, j < (agP Y).2.2 → odP C R1 Y (agP Y).2.1 j) → rwP (unB (agP Y).1) (Y 0 17) (agP Y).2 → (∀ x : Int32, 0 ≤ x → x < Y 0 17 → J (C + 25) x.toNatClampNeg = Y 20 x.toNatClampNeg ∧ J (C + 26) x.toNatClampNeg = Y 21 x.toNatClampNeg) → fZ C n0 K0 Q I0 R0 (n + 1) K J R1 → (∀ i : Int32, 0 ≤ i → i < Y 0 17 → ¬ Q (R1 (C + 15) i.toNatClampNeg)) → a_at (d + 7) (a_xm a_m144) 73 [some (a_rf (C + 22)), some (.int u), v, w] [] (n + 1, t, K, L, J, R1) P) : ∀ i : Int32, i ≤ 30 → ∀ n t K L J R1 W u w m o, 0 ≤ i → i ≤ Y 0 17 → cH C c (n + 1) t K L J R1 → cpP C K L J R1 W → tkC C IB RB WB (mm + i.toNatClampNeg) J R1 W → sbE Y W → seP C R1 Y → J (C + 22) 6 = Int32.ofNat m → m ≤ i.toNatClampNeg → (∀ j, j < m → odP C R1 Y o j) → rwP (unB W) i (o, m) → (∀ x : Int32, 0 ≤ x → x < i → J (C + 25) x.toNatClampNeg = Y 20 x.toNatClampNeg ∧ J (C + 26) x.toNatClampNeg = Y 21 x.toNatClampNeg) → (∀ x : Int32, i ≤ x → x < Y 0 17 → W 20 x.toNatClampNeg = Y 20 x.toNatClampNeg ∧ W 21 x.toNatClampNeg = Y 21 x.toNatClampNeg) → fZ C n0 K0 Q I0 R0 (n + 1) K J R1 → (∀ i : Int32, 0 ≤ i → i < Y 0 17 → ¬ Q (R1 (C + 15) i.toNatClampNeg)) → agS ((Y 0 17).toNatClampNeg - i.toNatClampNeg) i (W, o, m) = agP Y → a_at (d + 7) (a_xm a_m144) 7 [some (a_rf (C + 22)), some (.int i), u, w] [] (n + 1, t, K, L, J, R1) P := by
  refine up_ind 30 (fun i i30 ih => ?_)
  intro n t K L J R1 W u w m o h0 h1 hH hc hq hb hse h6 hmi ho hrw hol hW hz hQ hV
  have hT := hH.1
  have hS := hT.s
  have gA := hT.g_asksR
  have gB := hT.g_benchesR
  have gX := hT.g_textsR
  have w17 : W 0 17 = Y 0 17 := hb 0 17 (by unfold sb; omega)
  have h17 := hc.2.2.2.2.2.2.2.2.1
  rw [w17] at h17
  have l30 := cl_le0 h0 (Int32.le_trans h1 h17.2)
  rw [show (30 : Int32).toNatClampNeg = 30 from rfl] at l30
  have e4 : J (C + 14) 4 = Y 0 17 := hc.2.2.1.1.trans w17
  have hexit : ¬ i < Y 0 17 → ∀ v w, a_at (d + 7) (a_xm a_m144) 73 [some (a_rf (C + 22)), some (.int i), v, w] [] (n + 1, t, K, L, J, R1) P := fun c v w => by
    obtain ⟨e1, e2⟩ := lp_end h1 c
    rw [e1] at hV
    have e9 : (W, o, m) = agP Y := hV
    rw [← e9] at hN
    exact hN n t K L J R1 _ v w hH hc (tkC_le hq (by omega)) hb hse h6 (by show m ≤ 30; omega) ho (by rw [← e2]; exact hrw) (by rw [← e2]; exact hol) hz hQ
  have hin : i < Y 0 17 → ∀ v w, a_at (d + 7) (a_xm a_m144) 26 [some (a_rf (C + 22)), some (.int i), v, w] [a_rf (R1 (C + 15) i.toNatClampNeg)] (n + 1, t, K, L, J, R1) P := fun w uv wv => by
    obtain ⟨s1, s2, s3, s4⟩ := lp_st h0 w
    have hi30 : 0 ≤ i ∧ i < 30 := ⟨h0, Int32.lt_of_lt_of_le w h17.2⟩
    have iT := cl_lt h0 w
    have iT3 := cl_lt h0 hi30.2
    rw [show (30 : Int32).toNatClampNeg = 30 from rfl] at iT3
    have ap := aa_of hc h0 (by rw [w17]; exact w)
    obtain ⟨-, ⟨kb, bn, b4⟩, bm, bl⟩ := id ap
    have b0 : (R1 (C + 15) i.toNatClampNeg = 0) = False := eq_false bn
    have f13 : J (R1 (C + 15) i.toNatClampNeg) 13 = Y 20 i.toNatClampNeg := bl.2.2.2.1.1.trans (hW i (Int32.le_refl _) w).1
    have f14 : J (R1 (C + 15) i.toNatClampNeg) 14 = Y 21 i.toNatClampNeg := bl.2.2.2.1.2.trans (hW i (Int32.le_refl _) w).2
    have na : ¬ R1 (C + 15) i.toNatClampNeg = C + 25 := fun e => by have := (hT.g_ask _ kb).1; omega
    have nb : ¬ R1 (C + 15) i.toNatClampNeg = C + 26 := fun e => by have := (hT.g_ask _ kb).1; omega
    rw [s1] at hV
    unfold agS at hV
    have e1 : ∀ (x : Nat → Nat → Int32) (y : (Nat → Int32) × Nat), (x, y).1 = x ∧ (x, y).2 = y := fun _ _ => ⟨rfl, rfl⟩
    have e2 : ∀ (x : Nat → Int32) (y : Nat), (x, y).1 = x ∧ (x, y).2 = y := fun _ _ => ⟨rfl, rfl⟩
    rw [(e1 _ _).1, (e1 _ _).2, (e2 _ _).1, (e2 _ _).2] at hV
    -- the heap with what was had
    have hT1 := sT_Planner_oldBench hT (k := i.toNatClampNeg) (v := Y 20 i.toNatClampNeg)
    have hc1 := cp_sc hT hc (k := 25) (j := i.toNatClampNeg) (v := Y 20 i.toNatClampNeg) (by omega) (by omega)
    have hT2 := sT_Planner_oldShift hT1 (k := i.toNatClampNeg) (v := Y 21 i.toNatClampNeg)
    have hc2 := cp_sc hT1 hc1 (k := 26) (j := i.toNatClampNeg) (v := Y 21 i.toNatClampNeg) (by omega) (by omega)
    have hq1 := tkC_fr (tkC_fr hq hT hc (hf_ui (k := 25) (j := i.toNatClampNeg) (v := Y 20 i.toNatClampNeg) (by omega) (by omega))) hT1 hc1 (hf_ui (k := 26) (j := i.toNatClampNeg) (v := Y 21 i.toNatClampNeg) (by omega) (by omega))
    generalize eJ : a_ui (a_ui J (C + 25) i.toNatClampNeg (Y 20 i.toNatClampNeg)) (C + 26) i.toNatClampNeg (Y 21 i.toNatClampNeg) = J1 at hT2 hc2 hq1
    have hH1 := cH_J hH hT2
    have hz1 : fZ C n0 K0 Q I0 R0 (n + 1) K J1 R1 := by
      rw [← eJ]
      exact fz_ui (fz_ui hz hT (by omega)) hT1 (by omega)
    have h61 : J1 (C + 22) 6 = Int32.ofNat m := by rw [← eJ, ui_ap, if_neg (by omega), ui_ap, if_neg (by omega)]; exact h6
    have hol1 : ∀ x : Int32, 0 ≤ x → x < i + 1 → J1 (C + 25) x.toNatClampNeg = Y 20 x.toNatClampNeg ∧ J1 (C + 26) x.toNatClampNeg = Y 21 x.toNatClampNeg := fun x x0 x1 => by
      rw [← eJ]
      by_cases e : x.toNatClampNeg = i.toNatClampNeg
      · rw [ui_ap, if_neg (by omega), ui_ap, if_pos ⟨rfl, e⟩, ui_ap, if_pos ⟨rfl, e⟩, e]
        exact ⟨rfl, rfl⟩
      · rw [ui_ap, if_neg (by omega), ui_ap, if_neg (fun q => e q.2), ui_ap, if_neg (fun q => e q.2), ui_ap, if_neg (by omega)]
        have := cl_lt x0 x1
        exact hol x x0 (cl_lt2 x0 h0 (by omega))
    have ap2 := aa_of hc2 h0 (by rw [w17]; exact w)
    have hW1 : ∀ x : Int32, i + 1 ≤ x → x < Y 0 17 → W 20 x.toNatClampNeg = Y 20 x.toNatClampNeg ∧ W 21 x.toNatClampNeg = Y 21 x.toNatClampNeg := fun x x0 x1 => hW x (Int32.le_trans (Int32.le_of_lt (cl_lt2 h0 s2 (by omega))) x0) x1
    have hcall : a_does (d + 7) 145 [a_rf (C + 14), a_rf (R1 (C + 15) i.toNatClampNeg)] (n + 1, t, K, L, J1, R1) (fun r h' => a_at (d + 7) (a_xm a_m144) 59 [some (a_rf (C + 22)), some (.int i), some (a_rf (R1 (C + 15) i.toNatClampNeg)), wv] (r.toList ++ []) h' P) := by
      refine ch_clearUnfit (d := d + 1) hH1 hc2 (se_b hse hb) ap2 rfl hq1 (by omega) (fun ag n' t' K' L' J' R' hH' hdQ hc' hse' h15 haz hq2 => ?_) (fun ag J2 d2 => ?_)
      · rw [if_pos ag] at hV
        have hS2 := hH'.1.s
        have hC := hH1.2.2.1
        have k23 : K (C + 23) = 22 := k_23 hS
        have al := kn_lt hH1.2.1 kb (by decide)
        have kb' : K' (R1 (C + 15) i.toNatClampNeg) = 1 := by rw [hdQ.2.1 _ al]; exact kb
        have e6 : ∀ k j, k = 22 ∨ k = 25 ∨ k = 26 → J' (C + k) j = J1 (C + k) j := fun k j hk => hdQ.2.2.2.2 _ _ (by omega) (by omega) (by omega) (by omega)
        have r23 : ∀ j, R' (C + 23) j = R1 (C + 23) j := fun j => hdQ.2.2.2.1 _ _ (by omega) (by rw [k23]; decide)
        have hb' : sbE Y (unY W i) := sb_tr hb unY_b
        have h6' : J' (C + 22) 6 = Int32.ofNat m := (e6 _ _ (Or.inl rfl)).trans h61
        have ho' : ∀ j, j < m → odP C R' (unY W i) o j := fun j hj => od_b hb' (by
          obtain ⟨p1, p2, p3⟩ := ho j hj
          exact ⟨by rw [r23, h15]; exact p1, p2, p3⟩)
        have apE := aa_of hc' h0 (by rw [hb' 0 17 (by unfold sb; omega)]; exact w)
        rw [h15] at apE
        have henter : a_does (d + 7) 120 [a_rf (C + 22), a_rf (R1 (C + 15) i.toNatClampNeg)] (n' + 1, t', K', L', J', R') (fun r h' => a_at (d + 7) (a_xm a_m144) 67 [some (a_rf (C + 22)), some (.int i), some (a_rf (R1 (C + 15) i.toNatClampNeg)), wv] (r.toList ++ []) h' P) := by
          refine ce_enter (d := d + 4) hH'.1 hc' (se_b hse' unY_b) apE (h15 _) (m := m) (by omega) h6' ho' (fun R2 hT3 hr2 ho2 => ?_)
          have hT3' := sT_Planner_orderSize hH'.1 (v := Int32.ofNat (m + 1)) (on_ok2 (by omega))
          have hc3 := cp_rf hT3' (cp_sc hH'.1 hc' (k := 22) (j := 6) (v := Int32.ofNat (m + 1)) (by omega) (by omega)) hr2
          have hse3 : seP C R2 Y := se_b (se_rf hH'.1 hc' (se_b hse' unY_b) hr2) (fun k j p => (hb' k j p).symm)
          have hn := ih hi30.2 n' t' K' L' (a_ui J' (C + 22) 6 (Int32.ofNat (m + 1))) R2 (unY W i) (some (a_rf (R1 (C + 15) i.toNatClampNeg))) wv (m + 1) (inS W i m o) s2 s3 (cH_rf hH' hr2 hT3) hc3 (by rw [s4, ← Nat.add_assoc]; exact tkC_fr (tkC_fr hq2 hH'.1 hc' (hf_ui (by omega) (by omega))) hT3' (cp_sc hH'.1 hc' (k := 22) (j := 6) (v := Int32.ofNat (m + 1)) (by omega) (by omega)) (hf_rf (sT_Planner_orderSize hH'.1 (v := Int32.ofNat (m + 1)) (on_ok2 (by omega))) hr2)) hb' hse3 (by rw [ui_ap, if_pos ⟨rfl, rfl⟩]) (by omega) (fun j hj => by
            obtain ⟨p1, p2, p3⟩ := ho2 j (by omega)
            rw [inS_b unY_b] at p1 p2 p3
            exact ⟨p1, p2, by rw [← hb' 0 17 (by unfold sb; omega)]; exact p3⟩) (rw_in h0 w (decide_eq_true (by rw [un_a (Or.inl rfl)]; decide)) (rw_mono hrw (fun x x0 x1 hq => un_ag h0 x0 hq))) (fun x x0 x1 => by
            rw [ui_ap, if_neg (by omega), ui_ap, if_neg (by omega), e6 _ _ (Or.inr (Or.inl rfl)), e6 _ _ (Or.inr (Or.inr rfl))]
            exact hol1 x x0 x1) (fun x x0 x1 => by
            have hne : ¬ x.toNatClampNeg = i.toNatClampNeg := fun q => by
              have := cl_le0 s2 x0
              omega
            rw [un_o (Or.inr hne), un_o (Or.inr hne)]
            exact hW1 x x0 x1) (fz_rf (fz_ui (fz_Q hz1 hT2 hdQ (hQ i h0 w) haz) hH'.1 (by omega)) hr2) (fun x x0 x1 => by rw [hr2 _ _ (by omega) (by omega) (by omega), h15]; exact hQ x x0 x1) hV
          ((try clear ih); (try clear hN); (try clear hV); (try clear hexit); (try clear hc); (try clear hc1); (try clear hc2); (try clear hc'); (try clear hc3); (try clear ap); (try clear ap2); (try clear apE); (try clear hrw); (try clear ho); (try clear ho'); (try clear ho2); (try clear hol); (try clear hol1); (try clear hW); (try clear hW1); (try clear hse); (try clear hse'); (try clear hse3))
          simp only [q144_67, q144_70, as_nil, as_i, as_r, Nat.reduceAdd, Nat.reduceLeDiff, z_eq0, z_eq1, z_or, z_em, Classical.not_not, not_false_eq_true, not_true_eq_false, true_and, and_true, false_and, and_false, and_self, true_implies, false_implies, implies_true, Option.toList_some, Option.toList_none, List.cons_append, List.nil_append, Nat.add_eq_zero_iff, a_nl_i, a_nl_r, a_nl_n, true_or, or_true, eq_self, a_isRA_22, a_isRA_24, a_isRA_32, a_isA_20, ok_4, ok_5, ok_6, ok_7, ok_9, ok_20, ok_21, ok_30, ok_50, ok_180, ok_192, ok_200]
          exact hn
        ((try clear ih); (try clear hN); (try clear hV); (try clear hexit); (try clear hc); (try clear hc1); (try clear hc2); (try clear hc'); (try clear ap); (try clear ap2); (try clear apE); (try clear hrw); (try clear ho); (try clear ho'); (try clear hol); (try clear hol1); (try clear hW); (try clear hW1); (try clear hse); (try clear hse'))
        simp only [q144_59, q144_62, q144_63, q144_64, k_22 hS2, z_22, as_nil, as_i, as_r, Nat.reduceAdd, Nat.reduceLeDiff, z_eq0, z_eq1, z_or, z_em, Classical.not_not, not_false_eq_true, not_true_eq_false, true_and, and_true, false_and, and_false, and_self, true_implies, false_implies, implies_true, Option.toList_some, Option.toList_none, List.cons_append, List.nil_append, Nat.add_eq_zero_iff, a_nl_i, a_nl_r, a_nl_n, true_or, or_true, eq_self, a_isRA_22, a_isRA_24, a_isRA_32, a_isA_20, ok_4, ok_5, ok_6, ok_7, ok_9, ok_20, ok_21, ok_30, ok_50, ok_180, ok_192, ok_200, kb', b0]
        try simp only [true_and, and_true, true_implies, false_implies, implies_true, not_true_eq_false, not_false_eq_true]
        first
          | exact henter
          | grind
      · rw [if_neg ag] at hV
        have hS2 := d2.1.s
        have e6 : ∀ k j, k = 22 ∨ k = 25 ∨ k = 26 → J2 (C + k) j = J1 (C + k) j := fun k j hk => d2.2 _ _ (by omega) (by omega)
        have hn := ih hi30.2 n t K L J2 R1 W (some (a_rf (R1 (C + 15) i.toNatClampNeg))) wv m o s2 s3 (cH_J hH1 d2.1) (cpP_C hT2 hc2 d2) (tkC_le (tkC_fr hq1 hT2 hc2 (hf_C d2)) (by omega)) hb hse ((e6 _ _ (Or.inl rfl)).trans h61) (by omega) ho (rw_up h0 w hrw) (fun x x0 x1 => by
          rw [e6 _ _ (Or.inr (Or.inl rfl)), e6 _ _ (Or.inr (Or.inr rfl))]
          exact hol1 x x0 x1) hW1 (fz_C hz1 hT2 d2) hQ hV
        ((try clear ih); (try clear hN); (try clear hV); (try clear hexit); (try clear hc); (try clear hc1); (try clear hc2); (try clear ap); (try clear ap2); (try clear hrw); (try clear ho); (try clear hol); (try clear hol1); (try clear hW); (try clear hW1); (try clear hse))
        simp only [q144_59, q144_67, q144_70, as_nil, as_i, as_r, Nat.reduceAdd, Nat.reduceLeDiff, z_eq0, z_eq1, z_or, z_em, Classical.not_not, not_false_eq_true, not_true_eq_false, true_and, and_true, false_and, and_false, and_self, true_implies, false_implies, implies_true, Option.toList_some, Option.toList_none, List.cons_append, List.nil_append, Nat.add_eq_zero_iff, a_nl_i, a_nl_r, a_nl_n, true_or, or_true, eq_self, a_isRA_22, a_isRA_24, a_isRA_32, a_isA_20, ok_4, ok_5, ok_6, ok_7, ok_9, ok_20, ok_21, ok_30, ok_50, ok_180, ok_192, ok_200]
        try simp only [true_and, and_true, true_implies, false_implies, implies_true, not_true_eq_false, not_false_eq_true]
        first
          | exact hn
          | grind
    ((try clear ih); (try clear hN); (try clear hV); (try clear hexit); (try clear hc); (try clear hc1); (try clear hc2); (try clear ap); (try clear ap2); (try clear hrw); (try clear ho); (try clear hol); (try clear hol1); (try clear hW); (try clear hW1); (try clear hse); (try clear bl); (try clear bm))
    simp only [q144_26, q144_27, q144_28, q144_31, q144_32, q144_35, q144_36, q144_37, q144_40, q144_41, q144_42, q144_45, q144_46, q144_47, q144_50, q144_51, q144_52, q144_55, q144_56, k_22 hS, z_22, r_22_4 hS, k_25 hS, l_25 hS, z_25, r_22_5 hS, k_26 hS, l_26 hS, z_26, r_22_0 hS, k_14 hS, z_14, as_nil, as_i, as_r, Nat.reduceAdd, Nat.reduceLeDiff, z_eq0, z_eq1, z_or, z_em, Classical.not_not, not_false_eq_true, not_true_eq_false, true_and, and_true, false_and, and_false, and_self, true_implies, false_implies, implies_true, Option.toList_some, Option.toList_none, List.cons_append, List.nil_append, Nat.add_eq_zero_iff, a_nl_i, a_nl_r, a_nl_n, true_or, or_true, eq_self, a_isRA_22, a_isRA_24, a_isRA_32, a_isA_20, ok_4, ok_5, ok_6, ok_7, ok_9, ok_20, ok_21, ok_30, ok_50, ok_180, ok_192, ok_200, ui_ap, cc_ne, cc_n0, cc_0n, Nat.reduceEqDiff, reduceIte, if_true, if_false, kb, b0, na, nb, hi30, f13, f14, eJ]
    try simp only [true_and, and_true, true_implies, false_implies, implies_true, not_true_eq_false, not_false_eq_true]
    first
      | exact hcall
      | grind
  ((try clear ih); (try clear hN); (try clear hV); (try clear hc); (try clear hrw); (try clear ho); (try clear hol); (try clear hW); (try clear hse))
  rw [q144_7]
  repeat' first
    | with_reducible apply And.intro
    | with_reducible assumption
    | with_reducible intro _
    | refine hexit ?_ _ _
    | refine hin ?_ _ _
    | simp only [q144_8, q144_9, q144_12, q144_15, q144_18, q144_19, q144_22, q144_23, k_22 hS, z_22, r_22_0 hS, k_14 hS, z_14, sp_askAt hS gA, as_nil, as_i, as_r, Nat.reduceAdd, Nat.reduceLeDiff, z_eq0, z_eq1, z_or, z_em, Classical.not_not, not_false_eq_true, not_true_eq_false, true_and, and_true, false_and, and_false, and_self, true_implies, false_implies, implies_true, Option.toList_some, Option.toList_none, List.cons_append, List.nil_append, Nat.add_eq_zero_iff, a_nl_i, a_nl_r, a_nl_n, true_or, or_true, eq_self, a_isRA_22, a_isRA_24, a_isRA_32, a_isA_20, ok_4, ok_5, ok_6, ok_7, ok_9, ok_20, ok_21, ok_30, ok_50, ok_180, ok_192, ok_200, e4]
  all_goals ((try clear hexit); (try clear hin); (try clear hT); (try clear hS); (try clear gA); (try clear gB); (try clear gX); grind [ui_ap])
theorem ch_planAgain (hH : cH C c (n + 1) t K L I R) (hc : cpP C K L I R Y) (hse : seP C R Y) (hQ : ∀ i : Int32, 0 ≤ i → i < Y 0 17 → ¬ Q (R (C + 15) i.toNatClampNeg)) {mm : Nat} (hq : tkC C IB RB WB mm I R Y) (hmm : mm + 30 < 16384) (hP : ∀ JB RB2 n' t' K' L' J R', cH C c (n' + 1) t' K' L' J R' → cpP C K' L' J R' (agY Y).1 → tkC C IB RB WB (mm + 30) JB RB2 (agP Y).1 → gvC C JB RB2 (agP Y).1 (mm + 30) J R' (agY Y).1 → sbE Y (agY Y).1 → seP C R' Y → fZ C (n + 1) K Q I R (n' + 1) K' J R' → P (some (.int (Int32.ofNat (agY Y).2))) (n' + 1, t', K', L', J, R')) : a_does (d + 8) 144 [a_rf (C + 22)] (n + 1, t, K, L, I, R) P := by
  have hT := hH.1
  have hS := hT.s
  have h17 := hc.2.2.2.2.2.2.2.2.1
  have hnow : 0 ≤ Y 0 0 ∧ Y 0 0 ≤ 1600 := by rw [← hc.1.1]; exact hT.g_now
  have hf := now8s hnow
  have hT1 := sT_Planner_orderSize hT (v := 0) (by decide)
  have hc1 := cp_sc hT hc (k := 22) (j := 6) (v := 0) (by omega) (by omega)
  have hl := fun u w => lh_planAgain_7 (d := d) (c := c) (P := P) (Y := Y) (Q := Q) (I0 := I) (n0 := n + 1) (K0 := K) (R0 := R) (IB := IB) (RB := RB) (WB := WB) hmm (fun n' t' K' L' J' R1 u v w hH' hc' hq' hb' hse' h6' hm' ho' hrw' hol' hz' hQ' => by
    have hS' := hH'.1.s
    have hg := lh_planAgain_77 (d := d) (n := n') (t := t') (P := P) (Q := Q) (I0 := I) (n0 := n + 1) (K0 := K) (R0 := R) hH' hse' hQ' hf rfl (o := (agP Y).2.1) hm' ho' hrw'.2 (V := agY Y) (fun J2 hT2 hc2 hg2 hb2 hz2 => hP J' R1 n' t' K' L' J2 R1 (cH_J hH' hT2) hc2 hq' hg2 hb2 hse' hz2) (agP Y).2.2 0 J' (agP Y).1 0 w (by omega) hH'.1 hc' (gvC_0 hc' hq'.1) hb' (Nat.le_refl _) h6' hz' (fun j hj => hol' _ (ho' j hj).2.1 (ho' j hj).2.2) (fun j _ hj => of_decide_eq_true (hrw'.1 j hj).2) rfl
    have e0 : Int32.ofNat 0 = 0 := rfl
    rw [e0] at hg
    ((try clear hP); (try clear hc); (try clear hc'); (try clear hc1); (try clear hse); (try clear hse'); (try clear ho'); (try clear hrw'); (try clear hol'))
    simp only [q144_73, q144_74, q144_75, q144_76, as_nil, as_i, as_r, Nat.reduceAdd, Nat.reduceLeDiff, z_eq0, z_eq1, z_or, z_em, Classical.not_not, not_false_eq_true, not_true_eq_false, true_and, and_true, false_and, and_false, and_self, true_implies, false_implies, implies_true, Option.toList_some, Option.toList_none, List.cons_append, List.nil_append, Nat.add_eq_zero_iff, a_nl_i, a_nl_r, a_nl_n, true_or, or_true, eq_self, a_isRA_22, a_isRA_24, a_isRA_32, a_isA_20, ok_4, ok_5, ok_6, ok_7, ok_9, ok_20, ok_21, ok_30, ok_50, ok_180, ok_192, ok_200]
    exact hg) 0 (by decide) n t K L (a_ui I (C + 22) 6 0) R Y u w 0 (fun _ => 0) (by decide) h17.1 (cH_J hH hT1) hc1 (tkC_le (tkC_fr hq hT hc (hf_ui (by omega) (by omega))) (Nat.le_add_right _ _)) (fun _ _ _ => rfl) hse (by rw [ui_ap, if_pos ⟨rfl, rfl⟩]; rfl) (Nat.zero_le _) (fun j hj => absurd hj (Nat.not_lt_zero j)) rw_0 (fun x x0 x1 => absurd (Int32.lt_of_le_of_lt x0 x1) (by decide)) (fun x _ _ => ⟨rfl, rfl⟩) (fz_ui (fz_refl hH) hT (by omega)) hQ (by rw [lp_0]; rfl)
  ((try clear hP); (try clear hc); (try clear hc1); (try clear hse))
  rw [a_enter1 (M := a_m144) rfl (a_cat_rf a_cat_nil) (show 1 ≤ 4 by decide)]
  show a_at _ (a_xm a_m144) 0 [some (a_rf (C + 22)), none, none, none] [] _ _
  simp only [q144_0, q144_1, q144_2, q144_5, q144_6, k_22 hS, z_22, as_nil, as_i, as_r, Nat.reduceAdd, Nat.reduceLeDiff, z_eq0, z_eq1, z_or, z_em, Classical.not_not, not_false_eq_true, not_true_eq_false, true_and, and_true, false_and, and_false, and_self, true_implies, false_implies, implies_true, Option.toList_some, Option.toList_none, List.cons_append, List.nil_append, Nat.add_eq_zero_iff, a_nl_i, a_nl_r, a_nl_n, true_or, or_true, eq_self, a_isRA_22, a_isRA_24, a_isRA_32, a_isA_20, ok_4, ok_5, ok_6, ok_7, ok_9, ok_20, ok_21, ok_30, ok_50, ok_180, ok_192, ok_200]
  exact hl _ _
end HG0

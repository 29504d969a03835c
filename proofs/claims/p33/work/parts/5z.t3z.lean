/-! the class: laying, lifting -/
/-- a bench's rows lie behind it; they, what is kept of the past and the texts' codes are apart -/
def seP (C : Nat) (R : Nat → Nat → Nat) (Y : Nat → Nat → Int32) : Prop := (∀ b : Int32, 0 ≤ b → b < Y 0 6 → R (R (C + 16) b.toNatClampNeg) 2 = (R (C + 16) b.toNatClampNeg) + 1 ∧ R (R (C + 16) b.toNatClampNeg) 3 = (R (C + 16) b.toNatClampNeg) + 2 ∧ R (R (C + 16) b.toNatClampNeg) 4 = (R (C + 16) b.toNatClampNeg) + 3) ∧ (∀ b c : Int32, 0 ≤ b → b < Y 0 6 → 0 ≤ c → c < Y 0 6 → (R (C + 16) b.toNatClampNeg) = R (C + 16) c.toNatClampNeg → b = c) ∧ (∀ k b : Int32, 0 ≤ k → k < Y 0 41 → 0 ≤ b → b < Y 0 6 → (R (R (C + 8) k.toNatClampNeg) 2 < (R (C + 16) b.toNatClampNeg) + 1 ∨ (R (C + 16) b.toNatClampNeg) + 3 < R (R (C + 8) k.toNatClampNeg) 2) ∧ ¬ R (R (C + 8) k.toNatClampNeg) 2 = R (R (C + 16) b.toNatClampNeg) 5) ∧ (∀ b c : Int32, 0 ≤ b → b < Y 0 6 → 0 ≤ c → c < Y 0 6 → R (R (C + 16) b.toNatClampNeg) 5 < R (C + 16) c.toNatClampNeg + 1 ∨ R (C + 16) c.toNatClampNeg + 3 < R (R (C + 16) b.toNatClampNeg) 5)
section YZ
variable {d n t C : Nat} {K L : Nat → Nat} {I I0 J J0 J1 J2 : Nat → Nat → Int32} {R : Nat → Nat → Nat} {P : Option Value → AH → Prop}
variable {Y Z : Nat → Nat → Int32}
theorem se_b (h : seP C R Y) (hb : sbE Y Z) : seP C R Z := by
  unfold seP at h ⊢
  rw [hb 0 6 (by unfold sb; omega), hb 0 41 (by unfold sb; omega)]
  exact h
/-- rows of two benches are apart -/
theorem se_ne (hT : cT C K L I R) (hc : cpP C K L I R Y) (h : seP C R Y) {b c : Int32} (hb : 0 ≤ b ∧ b < Y 0 6) (hd : 0 ≤ c ∧ c < Y 0 6) (hn : ¬ b = c) : (R (C + 16) b.toNatClampNeg) + 3 < R (C + 16) c.toNatClampNeg ∨ R (C + 16) c.toNatClampNeg + 3 < (R (C + 16) b.toNatClampNeg) := by
  obtain ⟨k1, -⟩ := hc.2.1.2.2.1 b hb.1 hb.2
  obtain ⟨k2, -⟩ := hc.2.1.2.2.1 c hd.1 hd.2
  obtain ⟨b1, ⟨-, w1, -⟩, ⟨-, w2, -⟩, ⟨-, w3, -⟩, -⟩ := hT.g_bnc _ k1
  obtain ⟨c1, ⟨-, v1, -⟩, ⟨-, v2, -⟩, ⟨-, v3, -⟩, -⟩ := hT.g_bnc _ k2
  obtain ⟨e1, e2, e3⟩ := h.1 b hb.1 hb.2
  obtain ⟨d1, d2, d3⟩ := h.1 c hd.1 hd.2
  have hne : ¬ (R (C + 16) b.toNatClampNeg) = R (C + 16) c.toNatClampNeg := fun e => hn (h.2.1 b c hb.1 hb.2 hd.1 hd.2 e)
  rw [e1] at w1
  rw [e2] at w2
  rw [e3] at w3
  rw [d1] at v1
  rw [d2] at v2
  rw [d3] at v3
  generalize (R (C + 16) b.toNatClampNeg) = p at *
  generalize R (C + 16) c.toNatClampNeg = q at *
  have f1 : ∀ x, K x = 20 → ¬ p = x := fun x hx e => by rw [← e, k1] at hx; cases hx
  have f2 : ∀ x, K x = 20 → ¬ q = x := fun x hx e => by rw [← e, k2] at hx; cases hx
  have := f1 _ v1
  have := f1 _ v2
  have := f1 _ v3
  have := f2 _ w1
  have := f2 _ w2
  have := f2 _ w3
  omega
/-- where places alone change, the class's heap is the model's again -/
theorem cp_mk {K' L' : Nat → Nat} {R' : Nat → Nat → Nat} (hT : cT C K L I R) (hc : cpP C K L I R Y) (hb : sbE Y Z) (hin : inP Z) (g1 : ∀ x, ¬ K x = 0 → K' x = K x ∧ L' x = L x) (g2 : ∀ x j, ¬ K x = 0 → ¬ (K x = 3 ∧ j = 5) → ¬ x = C + 23 → ¬ x = C + 28 → ¬ x = C + 38 → R' x j = R x j) (f1 : ∀ k j, (k = 1 ∨ k = 2 ∨ k = 3 ∨ k = 7 ∨ k = 14) → J (C + k) j = I (C + k) j) (f2 : ∀ x j, K x = 1 → ¬ j = 13 → ¬ j = 14 → J x j = I x j) (f3 : ∀ x j, K x = 3 → ¬ j = 6 → J x j = I x j) (f4 : ∀ x j, K x = 11 → J x j = I x j) (f5 : ∀ k : Int32, 0 ≤ k → k < Y 0 41 → ∀ j, J (R (R (C + 8) k.toNatClampNeg) 2) j = I (R (R (C + 8) k.toNatClampNeg) 2) j) (h2 : ∀ i : Int32, 0 ≤ i → i < Y 0 17 → J (R (C + 15) i.toNatClampNeg) 13 = Z 20 i.toNatClampNeg ∧ J (R (C + 15) i.toNatClampNeg) 14 = Z 21 i.toNatClampNeg) (h3 : plP (whC C J R) (snC C J R) Z) : cpP C K' L' J R' Z := by
  obtain ⟨⟨p1, p2, p3⟩, ⟨q1, q2, q3, q4⟩, ⟨r1, r2, r3, r4⟩, ⟨x1, x2⟩, hy⟩ := hc
  have hS := hT.s
  have k16 : ¬ K (C + 16) = 0 := by rw [k_16 hS]; decide
  have k15 : ¬ K (C + 15) = 0 := by rw [k_15 hS]; decide
  have k8 : ¬ K (C + 8) = 0 := by rw [k_8 hS]; decide
  have R16 : ∀ j, R' (C + 16) j = R (C + 16) j := fun j => g2 _ _ k16 (fun e => by rw [k_16 hS] at e; cases e.1) (by omega) (by omega) (by omega)
  have R15 : ∀ j, R' (C + 15) j = R (C + 15) j := fun j => g2 _ _ k15 (fun e => by rw [k_15 hS] at e; cases e.1) (by omega) (by omega) (by omega)
  have R8 : ∀ j, R' (C + 8) j = R (C + 8) j := fun j => g2 _ _ k8 (fun e => by rw [k_8 hS] at e; cases e.1) (by omega) (by omega) (by omega)
  have z6 : Z 0 6 = Y 0 6 := hb 0 6 (by unfold sb; omega)
  have z17 : Z 0 17 = Y 0 17 := hb 0 17 (by unfold sb; omega)
  have z41 : Z 0 41 = Y 0 41 := hb 0 41 (by unfold sb; omega)
  have z9 : Z 0 9 = Y 0 9 := hb 0 9 (by unfold sb; omega)
  have z0 : Z 0 0 = Y 0 0 := hb 0 0 (by unfold sb; omega)
  have kb : ∀ b : Int32, 0 ≤ b → b < Y 0 6 → ∀ j, j = 2 ∨ j = 3 → R' (R (C + 16) b.toNatClampNeg) j = R (R (C + 16) b.toNatClampNeg) j := fun b b0 b1 j hj => by
    have hk := (q3 b b0 b1).1
    have := (hT.g_bnc _ hk).1
    exact g2 _ _ (by rw [hk]; decide) (by omega) (by omega) (by omega) (by omega)
  refine ⟨⟨by rw [f1 _ _ (by omega), z0]; exact p1, fun j => by rw [f1 _ _ (by omega), sbE_r hb (k := 1) (by omega)]; exact p2 j, fun s s0 s1 => by rw [f1 _ _ (by omega), liY_b hb]; exact p3 s s0 s1⟩, ⟨by rw [f1 _ _ (by omega), z6]; exact q1, by rw [f1 _ _ (by omega), z9]; exact q2, fun b b0 b1 => ?_, ?_⟩, ⟨by rw [f1 _ _ (by omega), z17]; exact r1, fun i i0 i1 => ?_, fun i i0 i1 => ?_, fun i i0 i1 => ?_⟩, ⟨by rw [f1 _ _ (by omega), z41]; exact x1, fun k k0 k1 => ?_⟩, yoP_b hy hb hin⟩
  · rw [z6] at b1
    obtain ⟨k1, k2, k3, k4⟩ := q3 b b0 b1
    rw [R16, (g1 _ (by rw [k1]; decide)).1, f3 _ _ k1 (by decide), f3 _ _ k1 (by decide), sbE_r hb (k := 5) (by omega), sbE_r hb (k := 6) (by omega)]
    exact ⟨k1, k2, k3, k4⟩
  · refine plP_eq h3 (fun b b0 b1 => ?_) (fun b b0 b1 => ?_)
    · rw [z6] at b1
      unfold whC
      rw [R16, kb b b0 b1 2 (Or.inl rfl)]
    · rw [z6] at b1
      unfold snC
      rw [R16, kb b b0 b1 3 (Or.inr rfl)]
  · rw [z17] at i1
    obtain ⟨k1, k2, k3⟩ := r2 i i0 i1
    rw [R15, (g1 _ (by rw [k1]; decide)).1, f2 _ _ k1 (by decide) (by decide)]
    exact ⟨k1, k2, k3⟩
  · rw [z17] at i1
    obtain ⟨k1, k2, k3⟩ := r2 i i0 i1
    rw [R15, f2 _ _ k1 (by decide) (by decide), cmY_b hb, hsY_b hb]
    exact r3 i i0 i1
  · rw [z17] at i1
    obtain ⟨k1, k2, k3⟩ := r2 i i0 i1
    obtain ⟨l1, l2, l3, -, l5⟩ := r4 i i0 i1
    have e : ∀ j, ¬ j = 13 → ¬ j = 14 → J (R (C + 15) i.toNatClampNeg) j = I (R (C + 15) i.toNatClampNeg) j := fun j j1 j2 => f2 _ _ k1 j1 j2
    have er : ∀ k, 1 ≤ k ∧ k ≤ 19 → Z k = Y k := fun k hk => sbE_r hb (by omega)
    unfold alP
    rw [R15, e 0 (by decide) (by decide), e 1 (by decide) (by decide), e 2 (by decide) (by decide), e 3 (by decide) (by decide), e 5 (by decide) (by decide), e 6 (by decide) (by decide), e 7 (by decide) (by decide), e 8 (by decide) (by decide), e 9 (by decide) (by decide), e 10 (by decide) (by decide), e 11 (by decide) (by decide), e 15 (by decide) (by decide), e 16 (by decide) (by decide), er 7 (by omega), er 8 (by omega), er 9 (by omega), er 10 (by omega), er 11 (by omega), er 12 (by omega), er 13 (by omega), er 14 (by omega), er 15 (by omega), er 16 (by omega), er 17 (by omega), er 18 (by omega), er 19 (by omega)]
    exact ⟨l1, l2, l3, h2 i i0 i1, l5⟩
  · rw [z41] at k1
    have hx := x2 k k0 k1
    have hk := hx.1
    have hcd := (hT.g_txt _ hk).2.2.1
    have er : R' (R (C + 8) k.toNatClampNeg) 2 = R (R (C + 8) k.toNatClampNeg) 2 := by
      have := (hT.g_txt _ hk).1
      exact g2 _ _ (by rw [hk]; decide) (fun e => by rw [hk] at e; cases e.1) (by omega) (by omega) (by omega)
    rw [R8, (g1 _ (by rw [hk]; decide)).1, er, (g1 _ (by rw [hcd]; decide)).2, f4 _ _ hk, f4 _ _ hk, f4 _ _ hk, funext (f5 k k0 k1), wt_b hb, sbE_r hb (k := 30) (by omega), sbE_r hb (k := 31) (by omega)]
    refine ⟨hx.1, hx.2.1, hx.2.2.1, hx.2.2.2.1, hx.2.2.2.2.1, fun fc => ?_⟩
    rw [wv_b hb]
    exact hx.2.2.2.2.2 fc
/-- the heap with x SHIFTS of a place laid -/
def lyI (I : Nat → Nat → Int32) (B p : Nat) (b s i : Int32) (x : Int32) (g : Nat → Int32) : Nat → Nat → Int32 := fun y j => if y = p ∧ j = 13 then b else if y = p ∧ j = 14 then s else if y = B + 1 ∧ s.toNatClampNeg ≤ j ∧ j < s.toNatClampNeg + x.toNatClampNeg then i else if y = B + 2 ∧ s.toNatClampNeg ≤ j ∧ j < s.toNatClampNeg + x.toNatClampNeg then g j else I y j
theorem ly_k {B p : Nat} {b s i x : Int32} {g : Nat → Int32} {y j : Nat} (h1 : ¬ (y = p ∧ (j = 13 ∨ j = 14))) (h2 : ¬ y = B + 1) (h3 : ¬ y = B + 2) : lyI I B p b s i x g y j = I y j := by
  unfold lyI
  rw [if_neg (by omega), if_neg (by omega), if_neg (by omega), if_neg (by omega)]
theorem ly_1 {B p : Nat} {b s i x : Int32} {g : Nat → Int32} {j : Nat} (h1 : ¬ B + 1 = p) : lyI I B p b s i x g (B + 1) j = if s.toNatClampNeg ≤ j ∧ j < s.toNatClampNeg + x.toNatClampNeg then i else I (B + 1) j := by
  unfold lyI
  rw [if_neg (by omega), if_neg (by omega)]
  by_cases e : s.toNatClampNeg ≤ j ∧ j < s.toNatClampNeg + x.toNatClampNeg
  · rw [if_pos ⟨rfl, e⟩, if_pos e]
  · rw [if_neg (fun q => e q.2), if_neg (by omega), if_neg e]
theorem ly_2 {B p : Nat} {b s i x : Int32} {g : Nat → Int32} {j : Nat} (h1 : ¬ B + 2 = p) : lyI I B p b s i x g (B + 2) j = if s.toNatClampNeg ≤ j ∧ j < s.toNatClampNeg + x.toNatClampNeg then g j else I (B + 2) j := by
  unfold lyI
  rw [if_neg (by omega), if_neg (by omega), if_neg (by omega)]
  by_cases e : s.toNatClampNeg ≤ j ∧ j < s.toNatClampNeg + x.toNatClampNeg
  · rw [if_pos ⟨rfl, e⟩, if_pos e]
  · rw [if_neg (fun q => e q.2), if_neg e]
theorem ly_step {B p : Nat} {b s i x : Int32} {g : Nat → Int32} (hs : 0 ≤ s ∧ s ≤ 200) (hx : 0 ≤ x ∧ x < 4) (n1 : ¬ B + 1 = p) (n2 : ¬ B + 2 = p) (hJ : ∀ y j, J y j = lyI I B p b s i x g y j) (y j : Nat) : a_ui (a_ui J (B + 1) (s + x).toNatClampNeg i) (B + 2) (s + x).toNatClampNeg (g (s + x).toNatClampNeg) y j = lyI I B p b s i (x + 1) g y j := by
  obtain ⟨e1, -, -⟩ := sh_at hs.1 hs.2 ⟨hx.1, Int32.le_of_lt hx.2⟩
  have e2 : (x + 1).toNatClampNeg = x.toNatClampNeg + 1 := (lp_st hx.1 hx.2).2.2.2
  rw [ui_ap, ui_ap, hJ]
  unfold lyI
  rw [e1, e2]
  generalize s.toNatClampNeg = u
  generalize x.toNatClampNeg = w
  clear hJ e1 e2
  have f12 : ¬ B + 1 = B + 2 := by omega
  have f21 : ¬ B + 2 = B + 1 := by omega
  by_cases c1 : y = B + 1
  · subst c1
    simp only [n1, f12, false_and, if_false, true_and]
    grind
  · by_cases c2 : y = B + 2
    · subst c2
      simp only [n2, f21, false_and, if_false, true_and]
      by_cases c3 : j = u + w
      · subst c3
        rw [if_pos rfl, if_pos ⟨by omega, by omega⟩]
      · grind
    · simp only [c1, c2, false_and, if_false]
/-- the class's rows with x SHIFTS laid are the model's places -/
theorem ly_pl (hT : cT C K L I R) (hc : cpP C K L I R Y) (hse : seP C R Y) {a : Nat} {i : Int32} (ap : aaP C K I Y i a) {b s x : Int32} (hb : 0 ≤ b ∧ b < Y 0 6) (hs : 0 ≤ s ∧ s ≤ 200) (hx : 0 ≤ x ∧ x ≤ 4) (hsx : s + x ≤ 200) (un : ¬ 0 ≤ Y 20 i.toNatClampNeg) (fr : ∀ z : Int32, 0 ≤ z → z < x → whC C I R b (s + z).toNatClampNeg = -9) (hJ : ∀ y j, J y j = lyI I (R (C + 16) b.toNatClampNeg) a b s i x (fun j => sdY Y i b s (Int32.ofNat (j - s.toNatClampNeg))) y j) : plP (whC C J R) (snC C J R) (ppY Y i b s x) := by
  have hy := hc.2.2.2.2
  obtain ⟨ai, ⟨ha, an0, a4n⟩, -, -⟩ := ap
  have rows : ∀ c : Int32, 0 ≤ c → c < Y 0 6 → R (R (C + 16) c.toNatClampNeg) 2 = R (C + 16) c.toNatClampNeg + 1 ∧ R (R (C + 16) c.toNatClampNeg) 3 = R (C + 16) c.toNatClampNeg + 2 ∧ ¬ R (C + 16) c.toNatClampNeg + 1 = a ∧ ¬ R (C + 16) c.toNatClampNeg + 2 = a := fun c c0 c1 => by
    obtain ⟨e1, e2, -⟩ := hse.1 c c0 c1
    have kc := (hc.2.1.2.2.1 c c0 c1).1
    obtain ⟨-, ⟨-, w1, -⟩, ⟨-, w2, -⟩, -⟩ := hT.g_bnc _ kc
    refine ⟨e1, e2, fun e => ?_, fun e => ?_⟩
    · rw [e1, e, ha] at w1
      cases w1
    · rw [e2, e, ha] at w2
      cases w2
  refine pl_put hc.2.1.2.2.2 hy.2.1 hy.2.2.2.2.1.2 ai hb hs hx hsx un fr (fun c c0 c1 j => ?_) (fun c c0 c1 j => ?_)
  · obtain ⟨e1, e2, n1, n2⟩ := rows c c0 c1
    unfold whC
    rw [hJ, e1]
    by_cases e : c = b
    · subst e
      rw [ly_1 n1]
      by_cases q : s.toNatClampNeg ≤ j ∧ j < s.toNatClampNeg + x.toNatClampNeg
      · rw [if_pos q, if_pos ⟨rfl, q⟩]
      · rw [if_neg q, if_neg (fun w => q w.2)]
    · have := se_ne hT hc hse ⟨c0, c1⟩ hb e
      rw [if_neg (fun w => e w.1), ly_k (fun w => n1 w.1) (by omega) (by omega)]
  · obtain ⟨e1, e2, n1, n2⟩ := rows c c0 c1
    unfold snC
    rw [hJ, e2]
    by_cases e : c = b
    · subst e
      rw [ly_2 n2]
      by_cases q : s.toNatClampNeg ≤ j ∧ j < s.toNatClampNeg + x.toNatClampNeg
      · rw [if_pos q, if_pos ⟨rfl, q⟩]
      · rw [if_neg q, if_neg (fun w => q w.2)]
    · have := se_ne hT hc hse ⟨c0, c1⟩ hb e
      rw [if_neg (fun w => e w.1), ly_k (fun w => n2 w.1) (by omega) (by omega)]
theorem le_lay_26 (hT0 : cT C K L I R) (hc : cpP C K L I R Y) (hse : seP C R Y) {a : Nat} {i : Int32} (ap : aaP C K I Y i a) {b s w : Int32} (hb : 0 ≤ b ∧ b < Y 0 6) (hs : 0 ≤ s ∧ s ≤ 200) (hsl : s + Y 10 i.toNatClampNeg ≤ 200) (un : ¬ 0 ≤ Y 20 i.toNatClampNeg) (fr : ∀ z : Int32, 0 ≤ z → z < Y 10 i.toNatClampNeg → whC C I R b (s + z).toNatClampNeg = -9) (hw : ∀ z : Int32, 0 ≤ z → z < Y 10 i.toNatClampNeg → ((w >>> (z &&& 31)) &&& 1 = 0 ↔ ¬ 0 ≤ wtA Y 87 i b (s + z))) (hP : ∀ J, dL C K L R I J → (∀ y j, J y j = lyI I (R (C + 16) b.toNatClampNeg) a b s i (Y 10 i.toNatClampNeg) (fun j => sdY Y i b s (Int32.ofNat (j - s.toNatClampNeg))) y j) → P none (n, t, K, L, J, R)) : ∀ x : Int32, x ≤ 4 → ∀ J u1 u2 u3 u4, 0 ≤ x → x ≤ Y 10 i.toNatClampNeg → dL C K L R I J → (∀ y j, J y j = lyI I (R (C + 16) b.toNatClampNeg) a b s i x (fun j => sdY Y i b s (Int32.ofNat (j - s.toNatClampNeg))) y j) → a_at (d + 3) (a_xm a_m115) 26 [some (a_rf (C + 14)), some (a_rf a), some (.int b), some (.int s), some (.int w), some (a_rf (R (C + 16) b.toNatClampNeg)), some (.int x), u1, u2, u3, u4] [] (n, t, K, L, J, R) P := by
  have hy := hc.2.2.2.2
  have y10 := hy.2.1 i.toNatClampNeg
  obtain ⟨ai, ⟨ha, an0, a4n⟩, am, al⟩ := id ap
  have i30 : 0 ≤ i ∧ i < 30 := ⟨ai.1, Int32.lt_of_lt_of_le ai.2 hy.2.2.2.2.1.2⟩
  obtain ⟨kb, kb0, kb5, kb6⟩ := hc.2.1.2.2.1 b hb.1 hb.2
  obtain ⟨eB2, eB3, -⟩ := hse.1 b hb.1 hb.2
  obtain ⟨bB, ⟨w1, w2, w3⟩, ⟨s1, s2, s3⟩, -⟩ := hT0.g_bnc _ kb
  have aB1 : ¬ (R (C + 16) b.toNatClampNeg) + 1 = a := fun e => by rw [eB2, e, ha] at w2; cases w2
  have aB2 : ¬ (R (C + 16) b.toNatClampNeg) + 2 = a := fun e => by rw [eB3, e, ha] at s2; cases s2
  refine up_ind 4 (fun x x4 ih => ?_)
  intro J u1 u2 u3 u4 h0 h1 hJL hJ
  have hT := hJL.1
  have hS := hT.s
  have e2 : J a 2 = Y 10 i.toNatClampNeg := by rw [dL_at hJL hT0 ha 2 (by decide) (by decide)]; exact al.1.2.2.1
  have e4 : J a 4 = i := by rw [dL_at hJL hT0 ha 4 (by decide) (by decide)]; exact a4n
  have a0 : (a = 0) = False := eq_false an0
  have b0 : ((R (C + 16) b.toNatClampNeg) = 0) = False := eq_false kb0
  generalize ez : Y 10 i.toNatClampNeg = z at y10 h1 hP ih e2 hsl fr hw
  have hexit : ¬ x < z → P none (n, t, K, L, J, R) := fun w => by
    have e := (lp_end h1 w).2
    subst e
    exact hP J hJL hJ
  have hcall : x < z → a_does (d + 3) 108 [a_rf (C + 14), a_rf a, .int b, .int (s + x)] (n, t, K, L, J, R) (fun r h' => a_at (d + 3) (a_xm a_m115) 55 [some (a_rf (C + 14)), some (a_rf a), some (.int b), some (.int s), some (.int w), some (a_rf (R (C + 16) b.toNatClampNeg)), some (.int x), u1, u2, u3, u4] (r.toList ++ []) h' P) := fun c => by
    obtain ⟨t1, t2, t3, t4⟩ := lp_st h0 c
    have hx4 : 0 ≤ x ∧ x < 4 := ⟨h0, Int32.lt_of_lt_of_le c y10.2⟩
    have hx5 : 0 ≤ x ∧ x ≤ 4 := ⟨h0, Int32.le_of_lt hx4.2⟩
    have hsx : s + x ≤ 200 := (sh_lt hs y10 hsl ⟨h0, h1⟩).2.1
    obtain ⟨n1, n2, n3⟩ := sh_at hs.1 hs.2 hx5
    have hsx2 : 0 ≤ s + x ∧ s + x < 200 := ((sh_lt hs y10 hsl ⟨h0, h1⟩).1 c).1
    have hpl := ly_pl hT0 hc hse ap hb hs hx5 hsx un (fun q q0 q1 => fr q q0 (Int32.lt_trans q1 c)) hJ
    have z6 : ppY Y i b s x 0 6 = Y 0 6 := pp_o (Or.inl ⟨by omega, by omega, by omega, by omega⟩)
    have z9 : ppY Y i b s x 0 9 = Y 0 9 := pp_o (Or.inl ⟨by omega, by omega, by omega, by omega⟩)
    have z17 : ppY Y i b s x 0 17 = Y 0 17 := pp_o (Or.inl ⟨by omega, by omega, by omega, by omega⟩)
    have r6 : ppY Y i b s x 6 = Y 6 := funext (fun j => pp_o (Or.inl ⟨by omega, by omega, by omega, by omega⟩))
    have r5 : ppY Y i b s x 5 = Y 5 := funext (fun j => pp_o (Or.inl ⟨by omega, by omega, by omega, by omega⟩))
    have hl : ∀ j, 0 ≤ ppY Y i b s x 10 j ∧ ppY Y i b s x 10 j ≤ 4 := fun j => by
      by_cases e : j = i.toNatClampNeg
      · rw [e, pp_10]
        exact hx5
      · rw [pp_o (Or.inr ⟨e, by omega⟩)]
        exact hy.2.1 j
    have hB : bhP C K J R (ppY Y i b s x) := by
      refine ⟨?_, ?_, fun c c0 c1 => ?_, hpl⟩
      · rw [z6, hJL.2 _ _ (by omega) (by omega) (by omega)]
        exact hc.2.1.1
      · rw [z9, hJL.2 _ _ (by omega) (by omega) (by omega)]
        exact hc.2.1.2.1
      · rw [z6] at c1
        obtain ⟨k1, k2, k3, k4⟩ := hc.2.1.2.2.1 c c0 c1
        have kk : ∀ j, J (R (C + 16) c.toNatClampNeg) j = I (R (C + 16) c.toNatClampNeg) j := fun j => by
          have := (hT0.g_bnc _ k1).1
          exact hJL.2 _ _ (by omega) (by omega) (fun q => by rw [k1] at q; rcases q.2 with q | q; cases q; cases q.1)
        rw [kk, kk, r5, r6]
        exact ⟨k1, k2, k3, k4⟩
    have ef : fhY (ppY Y i b s x) (J a 4) b (s + x) = fhY Y i b (s + x) := by
      rw [e4]
      refine fhY_c hy.2.2.2.2.1 hy.2.1 r6 z17 z9 (fun o o0 o1 on => ?_)
      have hne : ¬ o.toNatClampNeg = i.toNatClampNeg := fun e => on (cl_inj o0 ai.1 e)
      exact ⟨pp_o (Or.inr ⟨hne, by omega⟩), pp_o (Or.inr ⟨hne, by omega⟩), pp_o (Or.inr ⟨hne, by omega⟩), fun _ q q0 q1 => pp_22o i30 ⟨o0, o1⟩ ⟨q0, Int32.lt_of_lt_of_le q1 (hy.2.1 _).2⟩ hx5 on⟩
    refine ce_freeHosts (d := d + 1) hT hB hl (by rw [z9]; exact hy.2.2.2.1) (by rw [z17]; exact hy.2.2.2.2.1) ha (by rw [z6]; exact hb) hsx2 ?_
    rw [ef]
    have hsd : sdY Y i b s x = sfB (fhY Y i b (s + x)) (if 0 ≤ wtA Y 87 i b (s + x) then 2 else 1) := rfl
    have hf8 := fhY_8 (Y := Y) hy.2.2.2.2.2.2.2.2.1 (a := i) (b := b) (s := s + x)
    have hwx := hw x h0 c
    have hg : ∀ u1 u2 u3 u4 v, v = sdY Y i b s x → a_does (d + 3) 52 [a_rf (R (C + 16) b.toNatClampNeg), .int (s + x), .int i, .int v] (n, t, K, L, J, R) (fun r h' => a_at (d + 3) (a_xm a_m115) 114 [some (a_rf (C + 14)), some (a_rf a), some (.int b), some (.int s), some (.int w), some (a_rf (R (C + 16) b.toNatClampNeg)), some (.int x), u1, u2, u3, u4] (r.toList ++ []) h' P) := fun u1 u2 u3 u4 v hv => by
      refine cp_settle kb hT hsx2 ?_
      rw [eB2, eB3]
      have hg := ih (by clear ih hP hexit hJ fr hw hv; grind) (a_ui (a_ui J ((R (C + 16) b.toNatClampNeg) + 1) (s + x).toNatClampNeg i) ((R (C + 16) b.toNatClampNeg) + 2) (s + x).toNatClampNeg v) u1 u2 u3 u4 t2 t3 (dL_arr (dL_arr hJL (by rw [← eB2]; exact w1) (by rw [← eB2]; exact w2)) (by rw [← eB3]; exact s1) (by rw [← eB3]; exact s2)) (fun y j => by
        have hst := ly_step (I := I) (b := b) (i := i) (g := fun j => sdY Y i b s (Int32.ofNat (j - s.toNatClampNeg))) hs hx4 aB1 aB2 hJ y j
        rw [← hst, hv]
        show _ = a_ui (a_ui J ((R (C + 16) b.toNatClampNeg) + 1) (s + x).toNatClampNeg i) ((R (C + 16) b.toNatClampNeg) + 2) (s + x).toNatClampNeg (sdY Y i b s (Int32.ofNat ((s + x).toNatClampNeg - s.toNatClampNeg))) y j
        rw [n3])
      clear ih hP hexit hJ fr hw hpl hB hc ap al am
      simp only [q115_114, q115_117, as_nil, as_i, as_r, Nat.reduceAdd, Nat.reduceLeDiff, z_eq0, z_eq1, z_or, z_em, Classical.not_not, not_false_eq_true, not_true_eq_false, true_and, and_true, false_and, and_false, and_self, true_implies, false_implies, implies_true, Option.toList_some, Option.toList_none, List.cons_append, List.nil_append, Nat.add_eq_zero_iff, a_nl_i, a_nl_r, a_nl_n, true_or, or_true, eq_self, a_isRA_22, a_isRA_24, a_isRA_32, a_isA_20, ok_4, ok_5, ok_6, ok_7, ok_9, ok_20, ok_21, ok_30, ok_50, ok_180, ok_192, ok_200]
      exact hg
    generalize fhY Y i b (s + x) = f at hsd hf8 ⊢
    clear ih hP hexit hJ fr hw hpl hB hl ef hc ap al am hJL
    by_cases cw : (w >>> (x &&& 31)) &&& 1 = 0
    · rw [if_neg (hwx.mp cw), sf_1 hf8] at hsd
      have o0 : (f &&& -f) ||| 0 = f &&& -f := Int32.or_zero
      have hg := hg (some (.int f)) (some (.int (f &&& -f))) (some (.int (f &&& ((f &&& -f) ^^^ -1)))) (some (.int 0)) _ (o0.trans hsd.symm)
      simp only [q115_55, q115_57, q115_59, q115_61, q115_62, q115_63, q115_65, q115_67, q115_69, q115_70, q115_71, q115_72, q115_74, q115_76, q115_78, q115_79, q115_80, q115_81, q115_84, q115_86, q115_88, q115_89, q115_90, q115_93, q115_94, q115_96, q115_98, q115_99, q115_101, q115_102, q115_103, q115_106, q115_108, q115_110, q115_111, k_14 hS, z_14, as_nil, as_i, as_r, Nat.reduceAdd, Nat.reduceLeDiff, z_eq0, z_eq1, z_or, z_em, Classical.not_not, not_false_eq_true, not_true_eq_false, true_and, and_true, false_and, and_false, and_self, true_implies, false_implies, implies_true, Option.toList_some, Option.toList_none, List.cons_append, List.nil_append, Nat.add_eq_zero_iff, a_nl_i, a_nl_r, a_nl_n, true_or, or_true, eq_self, a_isRA_22, a_isRA_24, a_isRA_32, a_isA_20, ok_4, ok_5, ok_6, ok_7, ok_9, ok_20, ok_21, ok_30, ok_50, ok_180, ok_192, ok_200, ha, a0, cw, e4, b0]
      try simp only [true_and, and_true, true_implies, false_implies, implies_true, not_true_eq_false, not_false_eq_true]
      first
        | exact hg
        | exact ⟨kb, hg⟩
    · have cw2 : 0 ≤ wtA Y 87 i b (s + x) := Classical.byContradiction (fun q => cw (hwx.mpr q))
      rw [if_pos cw2, sf_2 hf8] at hsd
      have hg := hg (some (.int f)) (some (.int (f &&& -f))) (some (.int (f &&& ((f &&& -f) ^^^ -1)))) (some (.int ((f &&& ((f &&& -f) ^^^ -1)) &&& -(f &&& ((f &&& -f) ^^^ -1))))) _ hsd.symm
      simp only [q115_55, q115_57, q115_59, q115_61, q115_62, q115_63, q115_65, q115_67, q115_69, q115_70, q115_71, q115_72, q115_74, q115_76, q115_78, q115_79, q115_80, q115_81, q115_84, q115_86, q115_88, q115_89, q115_90, q115_93, q115_94, q115_96, q115_98, q115_99, q115_101, q115_102, q115_103, q115_106, q115_108, q115_110, q115_111, k_14 hS, z_14, as_nil, as_i, as_r, Nat.reduceAdd, Nat.reduceLeDiff, z_eq0, z_eq1, z_or, z_em, Classical.not_not, not_false_eq_true, not_true_eq_false, true_and, and_true, false_and, and_false, and_self, true_implies, false_implies, implies_true, Option.toList_some, Option.toList_none, List.cons_append, List.nil_append, Nat.add_eq_zero_iff, a_nl_i, a_nl_r, a_nl_n, true_or, or_true, eq_self, a_isRA_22, a_isRA_24, a_isRA_32, a_isA_20, ok_4, ok_5, ok_6, ok_7, ok_9, ok_20, ok_21, ok_30, ok_50, ok_180, ok_192, ok_200, ha, a0, cw, e4, b0]
      try simp only [true_and, and_true, true_implies, false_implies, implies_true, not_true_eq_false, not_false_eq_true]
      first
        | exact hg
        | exact ⟨kb, hg⟩
  have h200 : x < z → 0 ≤ s + x ∧ s + x < 200 := fun c => by
    exact ((sh_lt hs y10 hsl ⟨h0, h1⟩).1 c).1
  clear ih hP fr hw hJ hc ap al am hJL
  rw [q115_26]
  repeat' first
    | with_reducible apply And.intro
    | with_reducible assumption
    | with_reducible intro _
    | refine hexit ?_
    | refine hcall ?_
    | simp only [q115_28, q115_29, q115_32, q115_35, q115_36, q115_38, q115_39, q115_42, q115_45, q115_46, q115_47, q115_48, q115_49, q115_51, q115_52, q115_120, k_14 hS, z_14, sp_isShiftC, as_nil, as_i, as_r, Nat.reduceAdd, Nat.reduceLeDiff, z_eq0, z_eq1, z_or, z_em, Classical.not_not, not_false_eq_true, not_true_eq_false, true_and, and_true, false_and, and_false, and_self, true_implies, false_implies, implies_true, Option.toList_some, Option.toList_none, List.cons_append, List.nil_append, Nat.add_eq_zero_iff, a_nl_i, a_nl_r, a_nl_n, true_or, or_true, eq_self, a_isRA_22, a_isRA_24, a_isRA_32, a_isA_20, ok_4, ok_5, ok_6, ok_7, ok_9, ok_20, ok_21, ok_30, ok_50, ok_180, ok_192, ok_200, ha, a0, e2]
  all_goals ((try clear hexit); (try clear hcall); (try clear hS); (try clear hT); (try clear hT0); grind [ui_ap])
/-- other asks stay as they are -/
def aZ (K : Nat → Nat) (a : Nat) (I J : Nat → Nat → Int32) : Prop := ∀ x j, K x = 1 → ¬ x = a → J x j = I x j
theorem ce_lay (hT : cT C K L I R) (hc : cpP C K L I R Y) (hse : seP C R Y) {a : Nat} {i : Int32} (ap : aaP C K I Y i a) (haa : (R (C + 15) i.toNatClampNeg) = a) {b s w : Int32} (hb : 0 ≤ b ∧ b < Y 0 6) (hs : 0 ≤ s ∧ s ≤ 199) (hsl : s + Y 10 i.toNatClampNeg ≤ 200) (un : ¬ 0 ≤ Y 20 i.toNatClampNeg) (fr : ∀ z : Int32, 0 ≤ z → z < Y 10 i.toNatClampNeg → whC C I R b (s + z).toNatClampNeg = -9) (hw : ∀ z : Int32, 0 ≤ z → z < Y 10 i.toNatClampNeg → ((w >>> (z &&& 31)) &&& 1 = 0 ↔ ¬ 0 ≤ wtA Y 87 i b (s + z))) (hP : ∀ J, dL C K L R I J → cpP C K L J R (puY Y i b s) → (∀ x j, K x = 20 → ¬ x = (R (C + 16) b.toNatClampNeg) + 1 → ¬ x = (R (C + 16) b.toNatClampNeg) + 2 → J x j = I x j) → aZ K a I J → P none (n, t, K, L, J, R)) : a_does (d + 4) 115 [a_rf (C + 14), a_rf a, .int b, .int s, .int w] (n, t, K, L, I, R) P := by
  have hS := hT.s
  obtain ⟨ai, ⟨ha, an0, a4n⟩, am, al⟩ := id ap
  obtain ⟨a1, a2, a4, a3⟩ := hT.g_ask a ha
  have a0 : (a = 0) = False := eq_false an0
  have gA := hT.g_asksR
  have gB := hT.g_benchesR
  have gX := hT.g_textsR
  have hy := hc.2.2.2.2
  have y10 := hy.2.1 i.toNatClampNeg
  have s200 : 0 ≤ s ∧ s ≤ 200 := ⟨hs.1, Int32.le_trans hs.2 (by decide)⟩
  obtain ⟨kb, kb0, kb5, kb6⟩ := hc.2.1.2.2.1 b hb.1 hb.2
  obtain ⟨eB2, eB3, -⟩ := hse.1 b hb.1 hb.2
  obtain ⟨bB, ⟨w1, w2, w3⟩, ⟨s1, s2, s3⟩, -⟩ := hT.g_bnc _ kb
  have aB1 : ¬ (R (C + 16) b.toNatClampNeg) + 1 = a := fun e => by rw [eB2, e, ha] at w2; cases w2
  have aB2 : ¬ (R (C + 16) b.toNatClampNeg) + 2 = a := fun e => by rw [eB3, e, ha] at s2; cases s2
  have b6 : b < 6 := Int32.lt_of_lt_of_le hb.2 hy.2.2.2.2.2.1.2
  have hbc : 0 ≤ b ∧ b < I (C + 14) 5 ∧ b < 6 := ⟨hb.1, by rw [hc.2.1.1]; exact hb.2, b6⟩
  have hpl : 0 ≤ b → 0 ≤ s ∧ s ≤ 199 ∧ s + I a 2 ≤ 200 := fun _ => ⟨hs.1, hs.2, by rw [al.1.2.2.1]; exact hsl⟩
  have hL0 := dL_place (w := b) (v := s) (dL_refl hT) a1 ha hpl
  have hl := le_lay_26 (d := d) (n := n) (t := t) (P := P) (w := w) hT hc hse ap hb s200 hsl un fr hw (fun J hJL hJ => by
    have B1 : K ((R (C + 16) b.toNatClampNeg) + 1) = 20 := by rw [← eB2]; exact w2
    have B2 : K ((R (C + 16) b.toNatClampNeg) + 2) = 20 := by rw [← eB3]; exact s2
    have f20 : ∀ x j, K x = 20 → ¬ x = (R (C + 16) b.toNatClampNeg) + 1 → ¬ x = (R (C + 16) b.toNatClampNeg) + 2 → J x j = I x j := fun x j kx n1 n2 => by
      rw [hJ, ly_k (fun q => by rw [q.1, ha] at kx; cases kx) n1 n2]
    have fk : ∀ x j, ¬ K x = 20 → ¬ (x = a ∧ (j = 13 ∨ j = 14)) → J x j = I x j := fun x j kx n1 => by
      rw [hJ, ly_k n1 (fun e => kx (by rw [e]; exact B1)) (fun e => kx (by rw [e]; exact B2))]
    have cin : ∀ k, k ≤ 43 → ∀ j, J (C + k) j = I (C + k) j := fun k hk j => by
      rw [hJ, ly_k (by omega) (by omega) (by omega)]
    refine hP J hJL (cp_mk hT hc puY_b (inP_pu hy.2.2.2.2.2.2.1 ⟨hs.1, Int32.le_trans hs.2 (by decide), hsl⟩ (by clear hJ hP fr hw; grind)) (fun _ _ => ⟨rfl, rfl⟩) (fun _ _ _ _ _ _ _ => rfl) (fun k j hk => cin k (by omega) j) (fun x j kx n1 n2 => fk x j (by rw [kx]; decide) (by omega)) (fun x j kx _ => fk x j (by rw [kx]; decide) (fun q => by rw [q.1, ha] at kx; cases kx)) (fun x j kx => fk x j (by rw [kx]; decide) (fun q => by rw [q.1, ha] at kx; cases kx)) (fun k k0 k1 j => ?_) (fun o o0 o1 => ?_) ?_) f20 (fun x j kx hx => fk x j (by rw [kx]; decide) (fun q => hx q.1))
    · have hk := (hc.2.2.2.1.2 k k0 k1).1
      obtain ⟨q, -⟩ := hse.2.2.1 k b k0 k1 hb.1 hb.2
      exact f20 _ _ (hT.g_txt _ hk).2.2.1 (by omega) (by omega)
    · have ao := hc.2.2.1.2.1 o o0 o1
      by_cases e : o = i
      · have ea : R (C + 15) o.toNatClampNeg = a := by rw [e]; exact haa
        rw [ea, hJ, hJ, e, pu_pp, pp_20, pp_21]
        unfold lyI
        rw [if_pos ⟨rfl, rfl⟩, if_neg (by omega), if_pos ⟨rfl, rfl⟩]
        exact ⟨rfl, rfl⟩
      · have ea : ¬ R (C + 15) o.toNatClampNeg = a := fun q => e (by rw [← ao.2.2, q]; exact a4n)
        have hne : ¬ o.toNatClampNeg = i.toNatClampNeg := fun q => e (cl_inj o0 ai.1 q)
        rw [fk _ _ (by rw [ao.1]; decide) (fun q => ea q.1), fk _ _ (by rw [ao.1]; decide) (fun q => ea q.1), pu_pp, pp_o (Or.inr ⟨hne, by omega⟩), pp_o (Or.inr ⟨hne, by omega⟩)]
        exact (hc.2.2.1.2.2.2 o o0 o1).2.2.2.1
    · rw [pu_pp]
      exact ly_pl hT hc hse ap hb s200 y10 hsl un fr hJ) 0 (by decide) (a_ui (a_ui I a 13 b) a 14 s) none none none none (by decide) y10.1 hL0 (fun y j => by
    unfold lyI
    rw [ui_ap, ui_ap, show (0 : Int32).toNatClampNeg = 0 from rfl]
    by_cases e1 : y = a ∧ j = 13
    · rw [if_neg (by omega), if_pos e1, if_pos e1]
    · by_cases e2 : y = a ∧ j = 14
      · rw [if_pos e2, if_neg e1, if_pos e2]
      · rw [if_neg e2, if_neg e1, if_neg e1, if_neg e2, if_neg (by omega), if_neg (by omega)])
  clear hP fr hw hL0 hpl
  rw [a_enter1 (M := a_m115) rfl (a_cat_rf (a_cat_rf (a_cat_int (a_cat_int (a_cat_int a_cat_nil))))) (show 5 ≤ 11 by decide)]
  show a_at _ (a_xm a_m115) 0 [some (a_rf (C + 14)), some (a_rf a), some (.int b), some (.int s), some (.int w), none, none, none, none, none, none] [] _ _
  simp only [q115_0, q115_1, q115_2, q115_5, q115_7, q115_9, q115_12, q115_13, q115_14, q115_15, q115_18, q115_19, q115_20, q115_23, q115_24, k_14 hS, z_14, sp_benchAt hS gB, as_nil, as_i, as_r, Nat.reduceAdd, Nat.reduceLeDiff, z_eq0, z_eq1, z_or, z_em, Classical.not_not, not_false_eq_true, not_true_eq_false, true_and, and_true, false_and, and_false, and_self, true_implies, false_implies, implies_true, Option.toList_some, Option.toList_none, List.cons_append, List.nil_append, Nat.add_eq_zero_iff, a_nl_i, a_nl_r, a_nl_n, true_or, or_true, eq_self, a_isRA_22, a_isRA_24, a_isRA_32, a_isA_20, ok_4, ok_5, ok_6, ok_7, ok_9, ok_20, ok_21, ok_30, ok_50, ok_180, ok_192, ok_200, ha, a0, hbc, kb, kb0]
  try simp only [true_and, and_true, true_implies, false_implies, implies_true, not_true_eq_false, not_false_eq_true]
  exact hl
end YZ
/-! what was had: the class's steps -/
/-- the class's rows: no change is behind now; what is past was taken back at the latest change or before; a place was changed as a whole; no two benches have one past -/
def ciP (C : Nat) (I : Nat → Nat → Int32) (R : Nat → Nat → Nat) (Y : Nat → Nat → Int32) (m : Nat) : Prop := (∀ c : Int32, 0 ≤ c → c < Y 0 6 → (∀ t : Int32, 0 ≤ t → t < 200 → chC C I R c t.toNatClampNeg ≤ I (C + 1) 6) ∧ (∀ x : Nat, x < pcC C I R c → ∀ t : Int32, 0 ≤ t → t < 200 → paC C I R c (5 * x + 1) ≤ t → t ≤ paC C I R c (5 * x + 2) → paC C I R c (5 * x + 4) ≤ chC C I R c t.toNatClampNeg) ∧ pcC C I R c ≤ m) ∧ (∀ x : Int32, 0 ≤ x → x < Y 0 17 → ∀ t : Int32, (0 ≤ t ∧ t < 200) → hoY Y x (Y 20 x.toNatClampNeg) t → chC C I R (Y 20 x.toNatClampNeg) t.toNatClampNeg = chC C I R (Y 20 x.toNatClampNeg) (Y 21 x.toNatClampNeg).toNatClampNeg) ∧ ∀ b c : Int32, 0 ≤ b → b < Y 0 6 → 0 ≤ c → c < Y 0 6 → R (R (C + 16) b.toNatClampNeg) 5 = R (R (C + 16) c.toNatClampNeg) 5 → b = c
section HF0
variable {d n t C c : Nat} {K L : Nat → Nat} {I I0 J J0 J1 J2 : Nat → Nat → Int32} {R : Nat → Nat → Nat} {P : Option Value → AH → Prop}
variable {Y Z W : Nat → Nat → Int32} {V T V' T' : Int32 → Nat → Int32} {R' : Nat → Nat → Nat} {K' L' : Nat → Nat}
theorem wh_ho (hp : plP V T Y) (hl : ∀ j, 0 ≤ Y 10 j ∧ Y 10 j ≤ 4) {x c t : Int32} (x0 : 0 ≤ x) (x1 : x < Y 0 17) (h : hoY Y x c t) : V c t.toNatClampNeg = x := by
  obtain ⟨h0, h1, h2, h3⟩ := h
  obtain ⟨p1, p2, p3, p4⟩ := hp.1 x x0 x1 h0
  obtain ⟨i, i0, i1, i2⟩ := (sh_in p2.1 p3 (hl _) p2.2).mp ⟨h2, h3⟩
  rw [← h1, i2]
  exact (p4 i i0 i1).1
theorem wh_no (hp : plP V T Y) (hl : ∀ j, 0 ≤ Y 10 j ∧ Y 10 j ≤ 4) {c t : Int32} (hc : 0 ≤ c ∧ c < Y 0 6) (ht : 0 ≤ t ∧ t < 200) (h : ∀ x : Int32, 0 ≤ x → x < Y 0 17 → ¬ hoY Y x c t) : V c t.toNatClampNeg = -9 := by
  rcases hp.2 c t hc.1 hc.2 ht.1 ht.2 with q | ⟨o, i, o0, o1, o2, i0, i1, i2⟩
  · exact q.1
  · have pa : 0 ≤ Y 20 o.toNatClampNeg := by rw [o2]; exact hc.1
    obtain ⟨p1, p2, p3, p4⟩ := hp.1 o o0 o1 pa
    have := (sh_in (s := t) p2.1 p3 (hl _) p2.2).mpr ⟨i, i0, i1, i2⟩
    exact absurd ⟨pa, o2, this.1, this.2⟩ (h o o0 o1)
/-- alike who stands, alike the row of who stands -/
theorem wh_eq (hp : plP V T Y) (hp' : plP V' T' Z) (hl : ∀ j, 0 ≤ Y 10 j ∧ Y 10 j ≤ 4) (hl' : ∀ j, 0 ≤ Z 10 j ∧ Z 10 j ≤ 4) (e17 : Z 0 17 = Y 0 17) (e6 : Z 0 6 = Y 0 6) {c t : Int32} (hc : 0 ≤ c ∧ c < Y 0 6) (ht : 0 ≤ t ∧ t < 200) (h : ∀ x : Int32, 0 ≤ x → x < Y 0 17 → (hoY Z x c t ↔ hoY Y x c t)) : V' c t.toNatClampNeg = V c t.toNatClampNeg := by
  by_cases q : ∃ x : Int32, 0 ≤ x ∧ x < Y 0 17 ∧ hoY Y x c t
  · obtain ⟨x, x0, x1, x2⟩ := q
    rw [wh_ho hp hl x0 x1 x2, wh_ho hp' hl' x0 (by rw [e17]; exact x1) ((h x x0 x1).mpr x2)]
  · rw [wh_no hp hl hc ht (fun x x0 x1 x2 => q ⟨x, x0, x1, x2⟩), wh_no hp' hl' (by rw [e6]; exact hc) ht (fun x x0 x1 x2 => q ⟨x, x0, by rw [← e17]; exact x1, (h x x0 (by rw [← e17]; exact x1)).mp x2⟩)]
theorem ci_n {s l t : Int32} (hs : 0 ≤ s ∧ s ≤ 200) (hl : 0 ≤ l ∧ l ≤ 4) (hsl : s + l ≤ 200) (ht : 0 ≤ t ∧ t < 200) : (s.toNatClampNeg ≤ t.toNatClampNeg ∧ t.toNatClampNeg < s.toNatClampNeg + l.toNatClampNeg) ↔ (s ≤ t ∧ t < s + l) := (in_rg hs.1 hs.2 hl ht).trans (sh_in hs.1 hsl hl hs.2).symm
theorem hd_N {m : Nat} (hc : cpP C K L I R Y) (hi : ciP C I R Y m) : hsN (Y 0 6) (I (C + 1) 6) (hdC C I R) Y := by
  intro c t hb ht
  have hl := hc.2.2.2.2.2.1
  have hp := hc.2.1.2.2.2
  have h0 := (hi.1 c hb.1 hb.2).1 t ht.1 ht.2
  refine ⟨fun x x0 x1 x2 k hk => ?_, fun h k hk => ?_⟩
  · unfold hdC
    rw [if_pos (Int32.le_trans h0 hk)]
    exact wh_ho hp hl x0 x1 x2
  · unfold hdC
    rw [if_pos (Int32.le_trans h0 hk)]
    exact wh_no hp hl hb ht h
theorem cs_S {nb n0 b s l v : Int32} {hd hd' : Int32 → Int32 → Int32 → Int32} {ld ld' : Int32 → Int32 → Int32} (hN : hsN nb n0 hd W) (hN' : hsN nb n0 hd' Z) (e17 : Z 0 17 = W 0 17) (hf : ∀ c t : Int32, (0 ≤ c ∧ c < nb) → (0 ≤ t ∧ t < 200) → ∀ k, ¬ n0 ≤ k → hd' c t k = hd c t k) (hl : ∀ c t : Int32, (0 ≤ c ∧ c < nb) → (0 ≤ t ∧ t < 200) → ((c = b ∧ s ≤ t ∧ t < s + l) → ld' c t = n0) ∧ (¬ (c = b ∧ s ≤ t ∧ t < s + l) → ld' c t = ld c t)) (ho : ∀ c t : Int32, ¬ (c = b ∧ s ≤ t ∧ t < s + l) → ∀ x : Int32, 0 ≤ x → x < W 0 17 → (hoY Z x c t ↔ hoY W x c t)) (hv : ∀ c t : Int32, (0 ≤ c ∧ c < nb) → (0 ≤ t ∧ t < 200) → (c = b ∧ s ≤ t ∧ t < s + l) → ∀ k, n0 ≤ k → hd' c t k = v) : hsS nb n0 hd ld hd' ld' b s l v := by
  intro c t hc ht
  refine ⟨hf c t hc ht, fun ci => ⟨hv c t hc ht ci, (hl c t hc ht).1 ci⟩, fun ci => ⟨fun k => ?_, (hl c t hc ht).2 ci⟩⟩
  by_cases hk : n0 ≤ k
  · obtain ⟨n1, n2⟩ := hN c t hc ht
    obtain ⟨m1, m2⟩ := hN' c t hc ht
    by_cases q : ∃ x : Int32, 0 ≤ x ∧ x < W 0 17 ∧ hoY W x c t
    · obtain ⟨x, x0, x1, x2⟩ := q
      rw [n1 x x0 x1 x2 k hk, m1 x x0 (by rw [e17]; exact x1) ((ho c t ci x x0 x1).mpr x2) k hk]
    · rw [n2 (fun x x0 x1 x2 => q ⟨x, x0, x1, x2⟩) k hk, m2 (fun x x0 x1 x2 => q ⟨x, x0, by rw [← e17]; exact x1, (ho c t ci x x0 (by rw [← e17]; exact x1)).mp x2⟩) k hk]
  · exact hf c t hc ht k hk
/-- a place given -/
theorem pv_put {m : Nat} {a b s : Int32} (hc : cpP C K L I R W) (hc' : cpP C K' L' J R (puY W a b s)) (hi : ciP C I R W m) (ha : 0 ≤ a ∧ a < W 0 17) (un : ¬ 0 ≤ W 20 a.toNatClampNeg) (hb : 0 ≤ b ∧ b < W 0 6) (hs : 0 ≤ s ∧ s ≤ 199) (hsl : s + W 10 a.toNatClampNeg ≤ 200) (fr : ∀ z : Int32, 0 ≤ z → z < W 10 a.toNatClampNeg → whC C I R b (s + z).toNatClampNeg = -9) (en : J (C + 1) 6 = I (C + 1) 6) (hV : ∀ c : Int32, 0 ≤ c → c < W 0 6 → (∀ j, chC C J R c j = if c = b ∧ s.toNatClampNeg ≤ j ∧ j < s.toNatClampNeg + (W 10 a.toNatClampNeg).toNatClampNeg then I (C + 1) 6 else chC C I R c j) ∧ (∀ j, paC C J R c j = paC C I R c j) ∧ pcC C J R c = pcC C I R c) : ciP C J R (puY W a b s) m ∧ hsS (W 0 6) (I (C + 1) 6) (hdC C I R) (ldC C I R) (hdC C J R) (ldC C J R) b s (W 10 a.toNatClampNeg) a := by
  have hl := hc.2.2.2.2.2.1
  have hp := hc.2.1.2.2.2
  have s200 : 0 ≤ s ∧ s ≤ 200 := ⟨hs.1, Int32.le_trans hs.2 (by decide)⟩
  have e17 : puY W a b s 0 17 = W 0 17 := pu_ow (by omega)
  have e6 : puY W a b s 0 6 = W 0 6 := pu_ow (by omega)
  have l1 := hc.2.2.2.2.2.2.1 a ha.1 ha.2
  have hci : ∀ c t : Int32, (0 ≤ c ∧ c < W 0 6) → (0 ≤ t ∧ t < 200) → ((c = b ∧ s ≤ t ∧ t < s + W 10 a.toNatClampNeg) → chC C J R c t.toNatClampNeg = I (C + 1) 6) ∧ (¬ (c = b ∧ s ≤ t ∧ t < s + W 10 a.toNatClampNeg) → chC C J R c t.toNatClampNeg = chC C I R c t.toNatClampNeg) := fun c t hcb ht => by
    have e := (hV c hcb.1 hcb.2).1 t.toNatClampNeg
    have q := ci_n s200 (hl a.toNatClampNeg) hsl ht
    refine ⟨fun ci => ?_, fun ci => ?_⟩
    · rw [e, if_pos ⟨ci.1, q.mpr ci.2⟩]
    · rw [e, if_neg (fun z => ci ⟨z.1, q.mp z.2⟩)]
  have hfree : ∀ c t : Int32, (c = b ∧ s ≤ t ∧ t < s + W 10 a.toNatClampNeg) → whC C I R c t.toNatClampNeg = -9 := fun c t ci => by
    obtain ⟨z, z0, z1, z2⟩ := (sh_in s200.1 hsl (hl _) s200.2).mp ci.2
    rw [ci.1, z2]
    exact fr z z0 z1
  have hno : ∀ c t : Int32, (c = b ∧ s ≤ t ∧ t < s + W 10 a.toNatClampNeg) → ∀ x : Int32, 0 ≤ x → x < W 0 17 → ¬ hoY W x c t := fun c t ci x x0 x1 x2 => by
    have := wh_ho hp hl x0 x1 x2
    rw [show whC C I R c t.toNatClampNeg = -9 from hfree c t ci] at this
    rw [← this] at x0
    exact absurd x0 (by decide)
  have ho : ∀ c t : Int32, ¬ (c = b ∧ s ≤ t ∧ t < s + W 10 a.toNatClampNeg) → ∀ x : Int32, 0 ≤ x → x < W 0 17 → (hoY (puY W a b s) x c t ↔ hoY W x c t) := fun c t ci x x0 x1 => by
    rw [ho_pu ha.1 x0]
    refine ⟨fun q => q.elim (fun z => absurd ⟨z.2.2.1.symm, z.2.2.2⟩ ci) (fun z => z.2), fun q => Or.inr ⟨fun e => un (by rw [← e]; exact q.1), q⟩⟩
  have hI : ciP C J R (puY W a b s) m := by
    refine ⟨fun c c0 c1 => ?_, fun x x0 x1 t ht x2 => ?_, by rw [e6]; exact hi.2.2⟩
    · rw [e6] at c1
      obtain ⟨i0, i1, i2⟩ := hi.1 c c0 c1
      obtain ⟨v1, v2, v3⟩ := hV c c0 c1
      refine ⟨fun t t0 t1 => ?_, fun x hx t t0 t1 q1 q2 => ?_, by rw [v3]; exact i2⟩
      · rw [en]
        by_cases ci : c = b ∧ s ≤ t ∧ t < s + W 10 a.toNatClampNeg
        · rw [(hci c t ⟨c0, c1⟩ ⟨t0, t1⟩).1 ci]
          exact Int32.le_refl _
        · rw [(hci c t ⟨c0, c1⟩ ⟨t0, t1⟩).2 ci]
          exact i0 t t0 t1
      · rw [v3] at hx
        rw [v2] at q1 q2 ⊢
        have i3 := i1 x hx t t0 t1 q1 q2
        by_cases ci : c = b ∧ s ≤ t ∧ t < s + W 10 a.toNatClampNeg
        · rw [(hci c t ⟨c0, c1⟩ ⟨t0, t1⟩).1 ci]
          exact Int32.le_trans i3 (i0 t t0 t1)
        · rw [(hci c t ⟨c0, c1⟩ ⟨t0, t1⟩).2 ci]
          exact i3
    · rw [e17] at x1
      by_cases xa : x = a
      · subst xa
        rw [pu_at20] at x2 ⊢
        rw [pu_at21]
        rcases (ho_pu ha.1 x0).mp x2 with q | q
        · rw [(hci b t hb ht).1 ⟨rfl, q.2.2.2⟩, (hci b s hb ⟨hs.1, Int32.lt_of_le_of_lt hs.2 (by decide)⟩).1 ⟨rfl, Int32.le_refl _, by (try clear hV hci hfree hno ho q); grind⟩]
        · exact absurd rfl q.1
      · have hn : ¬ x.toNatClampNeg = a.toNatClampNeg := fun q => xa (cl_inj x0 ha.1 q)
        rw [pu_ne hn (Or.inl rfl)] at x2 ⊢
        rw [pu_ne hn (Or.inr rfl)]
        rcases (ho_pu ha.1 x0).mp x2 with q | q
        · exact absurd q.1 xa
        · have pa := q.2.1
          obtain ⟨p1, p2, p3, p4⟩ := hp.1 x x0 x1 pa
          have lx := hc.2.2.2.2.2.2.1 x x0 x1
          have t0 : 0 ≤ W 21 x.toNatClampNeg ∧ W 21 x.toNatClampNeg < 200 := ⟨p2.1, by have := (hl x.toNatClampNeg).2; (try clear hV hci hfree hno ho q p4 hi hp hc hc'); grind⟩
          have q0 : hoY W x (W 20 x.toNatClampNeg) (W 21 x.toNatClampNeg) := ⟨pa, rfl, Int32.le_refl _, by have := (hl x.toNatClampNeg).2; (try clear hV hci hfree hno ho q p4 hi hp hc hc'); grind⟩
          rw [(hci _ t ⟨pa, p1⟩ ht).2 (fun ci => hno _ t ci x x0 x1 q.2), (hci _ _ ⟨pa, p1⟩ t0).2 (fun ci => hno _ _ ci x x0 x1 q0)]
          exact hi.2.1 x x0 x1 t ht q.2
  refine ⟨hI, ?_⟩
  have hN := hd_N hc hi
  have hN' := hd_N hc' hI
  rw [e6, en] at hN'
  refine cs_S hN hN' e17 (fun c t hcb ht k hk => ?_) (fun c t hcb ht => ⟨fun ci => (hci c t hcb ht).1 ci, fun ci => (hci c t hcb ht).2 ci⟩) ho (fun c t hcb ht ci k hk => (hN' c t hcb ht).1 a ha.1 (by rw [e17]; exact ha.2) ((ho_pu ha.1 ha.1).mpr (Or.inl ⟨rfl, hb.1, ci.1.symm, ci.2⟩)) k hk)
  obtain ⟨i0, i1, i2⟩ := hi.1 c hcb.1 hcb.2
  obtain ⟨v1, v2, v3⟩ := hV c hcb.1 hcb.2
  unfold hdC
  rw [v3, show paC C J R c = paC C I R c from funext v2]
  by_cases ci : c = b ∧ s ≤ t ∧ t < s + W 10 a.toNatClampNeg
  · rw [(hci c t hcb ht).1 ci, if_neg hk, hfree c t ci]
    by_cases hq : chC C I R c t.toNatClampNeg ≤ k
    · rw [if_pos hq]
      refine pq_no _ _ (fun x _ hx q => ?_)
      have := i1 x (by omega) t ht.1 ht.2 q.1 q.2.1
      exact absurd (Int32.lt_of_lt_of_le q.2.2.2 (Int32.le_trans this hq)) Int32.lt_irrefl
    · rw [if_neg hq]
  · rw [(hci c t hcb ht).2 ci, wh_eq hp hc'.2.1.2.2.2 hl hc'.2.2.2.2.2.1 e17 e6 hcb ht (ho c t ci)]
/-- a place taken back -/
theorem pv_un {m : Nat} {a : Int32} (hc : cpP C K L I R W) (hc' : cpP C K' L' J R' (unY W a)) (hi : ciP C I R W m) (ha : 0 ≤ a ∧ a < W 0 17) (pa : 0 ≤ W 20 a.toNatClampNeg) (en : J (C + 1) 6 = I (C + 1) 6) (hR5 : ∀ b c : Int32, 0 ≤ b → b < W 0 6 → 0 ≤ c → c < W 0 6 → R' (R' (C + 16) b.toNatClampNeg) 5 = R' (R' (C + 16) c.toNatClampNeg) 5 → b = c) (hV : ∀ c : Int32, 0 ≤ c → c < W 0 6 → (∀ j, chC C J R' c j = if c = W 20 a.toNatClampNeg ∧ (W 21 a.toNatClampNeg).toNatClampNeg ≤ j ∧ j < (W 21 a.toNatClampNeg).toNatClampNeg + (W 10 a.toNatClampNeg).toNatClampNeg then I (C + 1) 6 else chC C I R c j) ∧ (¬ c = W 20 a.toNatClampNeg → (∀ j, paC C J R' c j = paC C I R c j) ∧ pcC C J R' c = pcC C I R c)) (hD : (chC C I R (W 20 a.toNatClampNeg) (W 21 a.toNatClampNeg).toNatClampNeg = I (C + 1) 6 ∧ pcC C J R' (W 20 a.toNatClampNeg) = pcC C I R (W 20 a.toNatClampNeg) ∧ ∀ j, paC C J R' (W 20 a.toNatClampNeg) j = paC C I R (W 20 a.toNatClampNeg) j) ∨ (¬ chC C I R (W 20 a.toNatClampNeg) (W 21 a.toNatClampNeg).toNatClampNeg = I (C + 1) 6 ∧ pcC C J R' (W 20 a.toNatClampNeg) = pcC C I R (W 20 a.toNatClampNeg) + 1 ∧ (∀ j, j < 5 * pcC C I R (W 20 a.toNatClampNeg) → paC C J R' (W 20 a.toNatClampNeg) j = paC C I R (W 20 a.toNatClampNeg) j) ∧ paC C J R' (W 20 a.toNatClampNeg) (5 * pcC C I R (W 20 a.toNatClampNeg)) = a ∧ paC C J R' (W 20 a.toNatClampNeg) (5 * pcC C I R (W 20 a.toNatClampNeg) + 1) = W 21 a.toNatClampNeg ∧ paC C J R' (W 20 a.toNatClampNeg) (5 * pcC C I R (W 20 a.toNatClampNeg) + 2) = W 21 a.toNatClampNeg + W 10 a.toNatClampNeg - 1 ∧ paC C J R' (W 20 a.toNatClampNeg) (5 * pcC C I R (W 20 a.toNatClampNeg) + 3) = chC C I R (W 20 a.toNatClampNeg) (W 21 a.toNatClampNeg).toNatClampNeg ∧ paC C J R' (W 20 a.toNatClampNeg) (5 * pcC C I R (W 20 a.toNatClampNeg) + 4) = I (C + 1) 6)) : ciP C J R' (unY W a) (m + 1) ∧ hsS (W 0 6) (I (C + 1) 6) (hdC C I R) (ldC C I R) (hdC C J R') (ldC C J R') (W 20 a.toNatClampNeg) (W 21 a.toNatClampNeg) (W 10 a.toNatClampNeg) (-9) := by
  have hl := hc.2.2.2.2.2.1
  have hp := hc.2.1.2.2.2
  have l1 := hc.2.2.2.2.2.2.1 a ha.1 ha.2
  obtain ⟨pb, ps, psl, -⟩ := hp.1 a ha.1 ha.2 pa
  have e17 : unY W a 0 17 = W 0 17 := un_o (Or.inl (by omega))
  have e6 : unY W a 0 6 = W 0 6 := un_o (Or.inl (by omega))
  have hoa : ∀ c t : Int32, (c = W 20 a.toNatClampNeg ∧ W 21 a.toNatClampNeg ≤ t ∧ t < W 21 a.toNatClampNeg + W 10 a.toNatClampNeg) ↔ hoY W a c t := fun c t => ⟨fun q => ⟨pa, q.1.symm, q.2⟩, fun q => ⟨q.2.1.symm, q.2.2⟩⟩
  have hI2 := fun t ht q => hi.2.1 a ha.1 ha.2 t ht q
  generalize eb : W 20 a.toNatClampNeg = b at *
  generalize es : W 21 a.toNatClampNeg = s at *
  generalize el : W 10 a.toNatClampNeg = l at *
  have hla : 0 ≤ l ∧ l ≤ 4 := by rw [← el]; exact hl _
  have hci : ∀ c t : Int32, (0 ≤ c ∧ c < W 0 6) → (0 ≤ t ∧ t < 200) → ((c = b ∧ s ≤ t ∧ t < s + l) → chC C J R' c t.toNatClampNeg = I (C + 1) 6) ∧ (¬ (c = b ∧ s ≤ t ∧ t < s + l) → chC C J R' c t.toNatClampNeg = chC C I R c t.toNatClampNeg) := fun c t hcb ht => by
    have e := (hV c hcb.1 hcb.2).1 t.toNatClampNeg
    have q := ci_n ps hla psl ht
    refine ⟨fun ci => ?_, fun ci => ?_⟩
    · rw [e, if_pos ⟨ci.1, q.mpr ci.2⟩]
    · rw [e, if_neg (fun z => ci ⟨z.1, q.mp z.2⟩)]
  have one : ∀ c t : Int32, (c = b ∧ s ≤ t ∧ t < s + l) → ∀ x : Int32, 0 ≤ x → x < W 0 17 → hoY W x c t → x = a := fun c t ci x x0 x1 x2 => (wh_ho hp hl x0 x1 x2).symm.trans (wh_ho hp hl ha.1 ha.2 ((hoa c t).mp ci))
  have ho : ∀ c t : Int32, ¬ (c = b ∧ s ≤ t ∧ t < s + l) → ∀ x : Int32, 0 ≤ x → x < W 0 17 → (hoY (unY W a) x c t ↔ hoY W x c t) := fun c t ci x x0 x1 => by
    rw [ho_un ha.1 x0]
    exact ⟨fun q => q.2, fun q => ⟨fun e => ci ((hoa c t).mpr (by rw [← e]; exact q)), q⟩⟩
  have hle : ∀ t : Int32, (s ≤ t ∧ t ≤ s + l - 1) → (s ≤ t ∧ t < s + l) := fun t q => ⟨q.1, by have := q.2; (try clear hV hci one ho hI2 hoa hp hl hD hi hc hc' hR5); grind⟩
  have hle2 : ∀ t : Int32, (s ≤ t ∧ t < s + l) → t ≤ s + l - 1 := fun t q => by have := q.2; have := q.1; (try clear hV hci one ho hI2 hoa hp hl hD hi hc hc' hR5 hle); grind
  have hI : ciP C J R' (unY W a) (m + 1) := by
    refine ⟨fun c c0 c1 => ?_, fun x x0 x1 t ht x2 => ?_, by rw [e6]; exact hR5⟩
    · rw [e6] at c1
      obtain ⟨i0, i1, i2⟩ := hi.1 c c0 c1
      obtain ⟨v1, v2⟩ := hV c c0 c1
      have h0 : ∀ t : Int32, 0 ≤ t → t < 200 → chC C J R' c t.toNatClampNeg ≤ J (C + 1) 6 := fun t t0 t1 => by
        rw [en]
        by_cases ci : c = b ∧ s ≤ t ∧ t < s + l
        · rw [(hci c t ⟨c0, c1⟩ ⟨t0, t1⟩).1 ci]
          exact Int32.le_refl _
        · rw [(hci c t ⟨c0, c1⟩ ⟨t0, t1⟩).2 ci]
          exact i0 t t0 t1
      have hup : ∀ t : Int32, 0 ≤ t → t < 200 → chC C I R c t.toNatClampNeg ≤ chC C J R' c t.toNatClampNeg := fun t t0 t1 => by
        by_cases ci : c = b ∧ s ≤ t ∧ t < s + l
        · rw [(hci c t ⟨c0, c1⟩ ⟨t0, t1⟩).1 ci]
          exact i0 t t0 t1
        · rw [(hci c t ⟨c0, c1⟩ ⟨t0, t1⟩).2 ci]
          exact Int32.le_refl _
      by_cases cb : c = b
      · subst cb
        rcases hD with ⟨d1, d2, d3⟩ | ⟨d1, d2, d3, d4, d5, d6, d7, d8⟩
        · refine ⟨h0, fun x hx t t0 t1 q1 q2 => ?_, by rw [d2]; omega⟩
          rw [d2] at hx
          rw [d3] at q1 q2 ⊢
          exact Int32.le_trans (i1 x hx t t0 t1 q1 q2) (hup t t0 t1)
        · refine ⟨h0, fun x hx t t0 t1 q1 q2 => ?_, by rw [d2]; omega⟩
          rw [d2] at hx
          by_cases xe : x = pcC C I R c
          · subst xe
            rw [d5] at q1
            rw [d6] at q2
            rw [d8, (hci c t ⟨c0, c1⟩ ⟨t0, t1⟩).1 ⟨rfl, hle t ⟨q1, q2⟩⟩]
            exact Int32.le_refl _
          · rw [d3 _ (by omega)] at q1 q2 ⊢
            exact Int32.le_trans (i1 x (by omega) t t0 t1 q1 q2) (hup t t0 t1)
      · obtain ⟨v3, v4⟩ := v2 cb
        refine ⟨h0, fun x hx t t0 t1 q1 q2 => ?_, by rw [v4]; omega⟩
        rw [v4] at hx
        rw [v3] at q1 q2 ⊢
        exact Int32.le_trans (i1 x hx t t0 t1 q1 q2) (hup t t0 t1)
    · rw [e17] at x1
      have q := (ho_un ha.1 x0).mp x2
      have hn : ¬ x.toNatClampNeg = a.toNatClampNeg := fun z => q.1 (cl_inj x0 ha.1 z)
      have q2 := q.2
      rw [un_o (Or.inr hn)] at q2 ⊢
      rw [un_o (Or.inr hn)]
      have pa2 := q2.1
      obtain ⟨p1, p2, p3, p4⟩ := hp.1 x x0 x1 pa2
      have lx := hc.2.2.2.2.2.2.1 x x0 x1
      have t0 : 0 ≤ W 21 x.toNatClampNeg ∧ W 21 x.toNatClampNeg < 200 := ⟨p2.1, by have := (hl x.toNatClampNeg).2; (try clear hV hci one ho q hI2 hoa p4 hp hl hD hi hc hc' hR5 hle hle2); grind⟩
      have q0 : hoY W x (W 20 x.toNatClampNeg) (W 21 x.toNatClampNeg) := ⟨pa2, rfl, Int32.le_refl _, by have := (hl x.toNatClampNeg).2; (try clear hV hci one ho q hI2 hoa p4 hp hl hD hi hc hc' hR5 hle hle2); grind⟩
      rw [(hci _ t ⟨pa2, p1⟩ ht).2 (fun ci => q.1 (one _ t ci x x0 x1 q2)), (hci _ _ ⟨pa2, p1⟩ t0).2 (fun ci => q.1 (one _ _ ci x x0 x1 q0))]
      exact hi.2.1 x x0 x1 t ht q2
  refine ⟨hI, ?_⟩
  have hN := hd_N hc hi
  have hN' := hd_N hc' hI
  rw [e6, en] at hN'
  refine cs_S hN hN' e17 (fun c t hcb ht k hk => ?_) (fun c t hcb ht => ⟨fun ci => (hci c t hcb ht).1 ci, fun ci => (hci c t hcb ht).2 ci⟩) ho (fun c t hcb ht ci k hk => (hN' c t hcb ht).2 (fun x x0 x1 x2 => by
    rw [e17] at x1
    have q := (ho_un ha.1 x0).mp x2
    exact q.1 (one c t ci x x0 x1 q.2)) k hk)
  obtain ⟨i0, i1, i2⟩ := hi.1 c hcb.1 hcb.2
  obtain ⟨v1, v2⟩ := hV c hcb.1 hcb.2
  unfold hdC
  -- the past of this bench
  have hpq : (c = b → ¬ rwM (paC C J R' c) t k (pcC C I R c) ∨ pcC C J R' c = pcC C I R c) → pqF (paC C J R' c) t k (pcC C J R' c) 0 = pqF (paC C I R c) t k (pcC C I R c) 0 := fun hr => by
    by_cases cb : c = b
    · have hr9 := hr cb
      ((try clear hr))
      subst cb
      rcases hD with ⟨d1, d2, d3⟩ | ⟨d1, d2, d3, -⟩
      · rw [d2, show paC C J R' c = paC C I R c from funext d3]
      · have hr := hr9.resolve_right (by omega)
        rw [d2]
        have hcg : pqF (paC C J R' c) t k (pcC C I R c) 0 = pqF (paC C I R c) t k (pcC C I R c) 0 := pq_cg _ _ (fun j hj => d3 j (by omega))
        by_cases e : ∃ x, 0 ≤ x ∧ x < 0 + pcC C I R c ∧ rwM (paC C J R' c) t k x
        · rw [pq_a _ _ e, hcg]
        · rw [← hcg, pq_no (pcC C I R c) 0 (fun x h1 h2 q => e ⟨x, h1, h2, q⟩)]
          refine pq_no _ _ (fun x h1 h2 q => ?_)
          by_cases z : x = pcC C I R c
          · rw [z] at q
            exact hr q
          · exact e ⟨x, h1, by omega, q⟩
    · obtain ⟨v3, v4⟩ := v2 cb
      rw [v4, show paC C J R' c = paC C I R c from funext v3]
  by_cases ci : c = b ∧ s ≤ t ∧ t < s + l
  · have hch : chC C I R c t.toNatClampNeg = chC C I R b s.toNatClampNeg := by
      rw [ci.1]
      exact hI2 t ht (by rw [← ci.1]; exact (hoa c t).mp ci)
    rw [(hci c t hcb ht).1 ci, if_neg hk]
    by_cases hq : chC C I R c t.toNatClampNeg ≤ k
    · rw [if_pos hq, show whC C I R c t.toNatClampNeg = a from wh_ho hp hl ha.1 ha.2 ((hoa c t).mp ci)]
      obtain ⟨cb, ci2⟩ := ci
      subst cb
      rcases hD with ⟨d1, d2, d3⟩ | ⟨d1, d2, d3, d4, d5, d6, d7, d8⟩
      · exact absurd (by rw [← d1, ← hch]; exact hq) hk
      · rw [d2, pq_b _ 0 (fun ⟨x, h1, h2, q⟩ => by
          have h3 : x < pcC C I R c := by omega
          unfold rwM at q
          rw [d3 _ (by omega), d3 _ (by omega), d3 _ (by omega), d3 _ (by omega)] at q
          have := i1 x h3 t ht.1 ht.2 q.1 q.2.1
          exact absurd (Int32.lt_of_lt_of_le q.2.2.2 (Int32.le_trans this hq)) Int32.lt_irrefl) ?_, Nat.zero_add, d4]
        rw [Nat.zero_add]
        unfold rwM
        rw [d5, d6, d7, d8]
        exact ⟨ci2.1, hle2 t ci2, by rw [← hch]; exact hq, Int32.not_le.mp hk⟩
    · rw [if_neg hq]
      refine hpq (fun cb => ?_)
      rcases hD with ⟨d1, d2, d3⟩ | ⟨d1, d2, d3, d4, d5, d6, d7, d8⟩
      · exact Or.inr (by rw [cb]; exact d2)
      · refine Or.inl (fun q => ?_)
        rw [cb] at q
        unfold rwM at q
        rw [d7] at q
        exact hq (by rw [hch]; exact q.2.2.1)
  · rw [(hci c t hcb ht).2 ci, wh_eq hp hc'.2.1.2.2.2 hl hc'.2.2.2.2.2.1 e17 e6 hcb ht (ho c t ci), hpq (fun cb => ?_)]
    rcases hD with ⟨d1, d2, d3⟩ | ⟨d1, d2, d3, d4, d5, d6, d7, d8⟩
    · exact Or.inr (by rw [cb]; exact d2)
    · refine Or.inl (fun q => ci ⟨cb, hle t ?_⟩)
      rw [cb] at q
      unfold rwM at q
      rw [d5, d6] at q
      exact ⟨q.1, q.2.1⟩
end HF0
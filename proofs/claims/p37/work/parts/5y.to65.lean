section
/-! places given and taken back on the class's rows -/
section YY
variable {Y Z : Nat → Nat → Int32} {W T W' T' : Int32 → Nat → Int32}
/-- an ASK has the first x SHIFTS of a place -/
def ppY (Y : Nat → Nat → Int32) (a b s x : Int32) : Nat → Nat → Int32 := fun k j => if k = 20 ∧ j = a.toNatClampNeg then b else if k = 21 ∧ j = a.toNatClampNeg then s else if k = 10 ∧ j = a.toNatClampNeg then x else if k = 22 ∧ 4 * a.toNatClampNeg ≤ j ∧ j < 4 * a.toNatClampNeg + x.toNatClampNeg then sdY Y a b s (Int32.ofNat (j - 4 * a.toNatClampNeg)) else Y k j
theorem pp_o {a b s x : Int32} {k j : Nat} (h : (¬ k = 20 ∧ ¬ k = 21 ∧ ¬ k = 10 ∧ ¬ k = 22) ∨ (¬ j = a.toNatClampNeg ∧ ¬ k = 22)) : ppY Y a b s x k j = Y k j := by
  unfold ppY
  rw [if_neg (by omega), if_neg (by omega), if_neg (by omega), if_neg (by omega)]
theorem pp_20 {a b s x : Int32} : ppY Y a b s x 20 a.toNatClampNeg = b := by
  unfold ppY
  rw [if_pos (by omega)]
theorem pp_21 {a b s x : Int32} : ppY Y a b s x 21 a.toNatClampNeg = s := by
  unfold ppY
  rw [if_neg (by omega), if_pos (by omega)]
theorem pp_10 {a b s x : Int32} : ppY Y a b s x 10 a.toNatClampNeg = x := by
  unfold ppY
  rw [if_neg (by omega), if_neg (by omega), if_pos (by omega)]
theorem pp_22 {a b s x i : Int32} (ha : 0 ≤ a ∧ a < 30) (hi : 0 ≤ i ∧ i < 4) (hx : i < x) : ppY Y a b s x 22 (4 * a + i).toNatClampNeg = sdY Y a b s i := by
  have h := cl_lt hi.1 hx
  obtain ⟨n1, -, -⟩ := n4 ha hi
  unfold ppY
  rw [if_neg (by omega), if_neg (by omega), if_neg (by omega), n1, if_pos (by omega), on_sub hi.1]
theorem pp_22o {a b s x o i : Int32} (ha : 0 ≤ a ∧ a < 30) (ho : 0 ≤ o ∧ o < 30) (hi : 0 ≤ i ∧ i < 4) (hx : 0 ≤ x ∧ x ≤ 4) (hn : ¬ o = a) : ppY Y a b s x 22 (4 * o + i).toNatClampNeg = Y 22 (4 * o + i).toNatClampNeg := by
  have h := lt4 hi
  have h2 := cl_le0 hx.1 hx.2
  rw [show (4 : Int32).toNatClampNeg = 4 from rfl] at h2
  have hne : ¬ o.toNatClampNeg = a.toNatClampNeg := fun e => hn (cl_inj ho.1 ha.1 e)
  obtain ⟨n1, -, -⟩ := n4 ho hi
  unfold ppY
  rw [if_neg (by omega), if_neg (by omega), if_neg (by omega), n1, if_neg (by omega)]
theorem pu_pp {a b s : Int32} : puY Y a b s = ppY Y a b s (Y 10 a.toNatClampNeg) := by
  funext k j
  unfold puY ppY
  by_cases e : k = 10 ∧ j = a.toNatClampNeg
  · rw [if_neg (by omega), if_neg (by omega), if_neg (by omega), if_neg (by omega), if_neg (by omega), if_pos e, e.1, e.2]
  · rw [if_neg (c := k = 10 ∧ j = a.toNatClampNeg) e]
/-- a SHIFT of a row of SHIFTS -/
theorem in_rg {s x y : Int32} (h0 : 0 ≤ s) (hs : s ≤ 200) (hx : 0 ≤ x ∧ x ≤ 4) (hy : 0 ≤ y ∧ y < 200) : (s.toNatClampNeg ≤ y.toNatClampNeg ∧ y.toNatClampNeg < s.toNatClampNeg + x.toNatClampNeg) ↔ ∃ i : Int32, 0 ≤ i ∧ i < x ∧ y = s + i := by
  have a0 := Int32.le_iff_toInt_le.mp h0
  have a1 := Int32.le_iff_toInt_le.mp hs
  have b0 := Int32.le_iff_toInt_le.mp hx.1
  have b1 := Int32.le_iff_toInt_le.mp hx.2
  have c0 := Int32.le_iff_toInt_le.mp hy.1
  have c1 := Int32.lt_iff_toInt_lt.mp hy.2
  have w0 : (0 : Int32).toInt = 0 := rfl
  have w4 : (4 : Int32).toInt = 4 := rfl
  have w200 : (200 : Int32).toInt = 200 := rfl
  rw [w0] at a0 b0 c0
  rw [w200] at a1 c1
  rw [w4] at b1
  have e1 : y.toNatClampNeg = y.toInt.toNat := rfl
  have e2 : s.toNatClampNeg = s.toInt.toNat := rfl
  have e3 : x.toNatClampNeg = x.toInt.toNat := rfl
  have ed : (y - s).toInt = y.toInt - s.toInt := by
    rw [Int32.toInt_sub, in_bm (by omega) (by omega)]
  refine ⟨fun ⟨q1, q2⟩ => ⟨y - s, ?_, ?_, ?_⟩, fun ⟨i, i0, i1, i2⟩ => ?_⟩
  · rw [Int32.le_iff_toInt_le, ed, w0]
    omega
  · rw [Int32.lt_iff_toInt_lt, ed]
    omega
  · refine Int32.toInt_inj.mp ?_
    rw [Int32.toInt_add, ed, in_bm (by omega) (by omega)]
    omega
  · have d0 := Int32.le_iff_toInt_le.mp i0
    have d1 := Int32.lt_iff_toInt_lt.mp i1
    rw [w0] at d0
    have e4 : y.toInt = s.toInt + i.toInt := by
      rw [i2, Int32.toInt_add, in_bm (by omega) (by omega)]
    omega
theorem sh_at {s i : Int32} (h0 : 0 ≤ s) (hs : s ≤ 200) (hi : 0 ≤ i ∧ i ≤ 4) : (s + i).toNatClampNeg = s.toNatClampNeg + i.toNatClampNeg ∧ 0 ≤ s + i ∧ Int32.ofNat ((s + i).toNatClampNeg - s.toNatClampNeg) = i := by
  have a0 := Int32.le_iff_toInt_le.mp h0
  have a1 := Int32.le_iff_toInt_le.mp hs
  have b0 := Int32.le_iff_toInt_le.mp hi.1
  have b1 := Int32.le_iff_toInt_le.mp hi.2
  have w0 : (0 : Int32).toInt = 0 := rfl
  have w4 : (4 : Int32).toInt = 4 := rfl
  have w200 : (200 : Int32).toInt = 200 := rfl
  rw [w0] at a0 b0
  rw [w200] at a1
  rw [w4] at b1
  have e4 : (s + i).toInt = s.toInt + i.toInt := by
    rw [Int32.toInt_add, in_bm (by omega) (by omega)]
  have e5 : (s + i).toNatClampNeg = s.toNatClampNeg + i.toNatClampNeg := by
    show (s + i).toInt.toNat = s.toInt.toNat + i.toInt.toNat
    rw [e4]
    omega
  refine ⟨e5, by rw [Int32.le_iff_toInt_le, e4, w0]; omega, ?_⟩
  rw [e5, show s.toNatClampNeg + i.toNatClampNeg - s.toNatClampNeg = i.toNatClampNeg by omega]
  exact (on_cl hi.1).symm
theorem sh_lt {p l i : Int32} (hp : 0 ≤ p ∧ p ≤ 200) (hl : 0 ≤ l ∧ l ≤ 4) (hs : p + l ≤ 200) (hi : 0 ≤ i ∧ i ≤ l) : (i < l → (0 ≤ p + i ∧ p + i < 200) ∧ p + i ≤ 199) ∧ p + i ≤ 200 ∧ 0 ≤ p + i := by
  have a0 := Int32.le_iff_toInt_le.mp hp.1
  have a1 := Int32.le_iff_toInt_le.mp hp.2
  have b0 := Int32.le_iff_toInt_le.mp hl.1
  have b1 := Int32.le_iff_toInt_le.mp hl.2
  have c0 := Int32.le_iff_toInt_le.mp hi.1
  have c1 := Int32.le_iff_toInt_le.mp hi.2
  have d0 := Int32.le_iff_toInt_le.mp hs
  have w0 : (0 : Int32).toInt = 0 := rfl
  have w4 : (4 : Int32).toInt = 4 := rfl
  have w199 : (199 : Int32).toInt = 199 := rfl
  have w200 : (200 : Int32).toInt = 200 := rfl
  rw [w0] at a0 b0 c0
  rw [w200] at a1
  rw [w4] at b1
  have e1 : (p + l).toInt = p.toInt + l.toInt := by rw [Int32.toInt_add, in_bm (by omega) (by omega)]
  have e2 : (p + i).toInt = p.toInt + i.toInt := by rw [Int32.toInt_add, in_bm (by omega) (by omega)]
  rw [e1, w200] at d0
  refine ⟨fun q => ?_, by rw [Int32.le_iff_toInt_le, e2, w200]; omega, by rw [Int32.le_iff_toInt_le, e2, w0]; omega⟩
  have c2 := Int32.lt_iff_toInt_lt.mp q
  exact ⟨⟨by rw [Int32.le_iff_toInt_le, e2, w0]; omega, by rw [Int32.lt_iff_toInt_lt, e2, w200]; omega⟩, by rw [Int32.le_iff_toInt_le, e2, w199]; omega⟩
theorem pl_put (hp : plP W T Y) (hl : ∀ j, 0 ≤ Y 10 j ∧ Y 10 j ≤ 4) (hn : Y 0 17 ≤ 30) {a b s x : Int32} (ha : 0 ≤ a ∧ a < Y 0 17) (hb : 0 ≤ b ∧ b < Y 0 6) (hs : 0 ≤ s ∧ s ≤ 200) (hx : 0 ≤ x ∧ x ≤ 4) (hsx : s + x ≤ 200) (un : ¬ 0 ≤ Y 20 a.toNatClampNeg) (fr : ∀ i : Int32, 0 ≤ i → i < x → W b (s + i).toNatClampNeg = -9) (hW : ∀ c : Int32, 0 ≤ c → c < Y 0 6 → ∀ j, W' c j = if c = b ∧ s.toNatClampNeg ≤ j ∧ j < s.toNatClampNeg + x.toNatClampNeg then a else W c j) (hT : ∀ c : Int32, 0 ≤ c → c < Y 0 6 → ∀ j, T' c j = if c = b ∧ s.toNatClampNeg ≤ j ∧ j < s.toNatClampNeg + x.toNatClampNeg then sdY Y a b s (Int32.ofNat (j - s.toNatClampNeg)) else T c j) : plP W' T' (ppY Y a b s x) := by
  have a30 : 0 ≤ a ∧ a < 30 := ⟨ha.1, Int32.lt_of_lt_of_le ha.2 hn⟩
  have z17 : ppY Y a b s x 0 17 = Y 0 17 := pp_o (Or.inl ⟨by omega, by omega, by omega, by omega⟩)
  have z6 : ppY Y a b s x 0 6 = Y 0 6 := pp_o (Or.inl ⟨by omega, by omega, by omega, by omega⟩)
  have zo : ∀ o : Int32, 0 ≤ o → ¬ o = a → ∀ k, ¬ k = 22 → ppY Y a b s x k o.toNatClampNeg = Y k o.toNatClampNeg := fun o o0 on k hk => pp_o (Or.inr ⟨fun e => on (cl_inj o0 ha.1 e), hk⟩)
  refine ⟨fun o o0 o1 o2 => ?_, fun c y c0 c1 y0 y1 => ?_⟩
  · rw [z17] at o1
    rw [z6]
    by_cases e : o = a
    · subst e
      rw [pp_20, pp_21, pp_10]
      refine ⟨hb.2, hs, hsx, fun i i0 i1 => ?_⟩
      have i4 : 0 ≤ i ∧ i < 4 := ⟨i0, Int32.lt_of_lt_of_le i1 hx.2⟩
      obtain ⟨e1, e2, e3⟩ := sh_at hs.1 hs.2 ⟨i0, Int32.le_of_lt i4.2⟩
      have hlt := cl_lt i0 i1
      rw [hW b hb.1 hb.2, hT b hb.1 hb.2, if_pos ⟨rfl, by omega, by omega⟩, if_pos ⟨rfl, by omega, by omega⟩, e3, pp_22 a30 i4 i1]
      exact ⟨rfl, rfl⟩
    · rw [zo o o0 e 20 (by omega)] at o2 ⊢
      rw [zo o o0 e 21 (by omega), zo o o0 e 10 (by omega)]
      obtain ⟨p1, p2, p3, p4⟩ := hp.1 o o0 o1 o2
      refine ⟨p1, p2, p3, fun i i0 i1 => ?_⟩
      obtain ⟨q1, q2⟩ := p4 i i0 i1
      have i4 : 0 ≤ i ∧ i < 4 := ⟨i0, Int32.lt_of_lt_of_le i1 (hl o.toNatClampNeg).2⟩
      have o30 : 0 ≤ o ∧ o < 30 := ⟨o0, Int32.lt_of_lt_of_le o1 hn⟩
      have hno : ¬ (Y 20 o.toNatClampNeg = b ∧ s.toNatClampNeg ≤ (Y 21 o.toNatClampNeg + i).toNatClampNeg ∧ (Y 21 o.toNatClampNeg + i).toNatClampNeg < s.toNatClampNeg + x.toNatClampNeg) := fun ⟨r1, r2⟩ => by
        have hy : 0 ≤ Y 21 o.toNatClampNeg + i ∧ Y 21 o.toNatClampNeg + i < 200 := ((sh_lt p2 (hl o.toNatClampNeg) p3 ⟨i0, Int32.le_of_lt i1⟩).1 i1).1
        obtain ⟨k, k0, k1, k2⟩ := (in_rg hs.1 hs.2 hx hy).mp r2
        rw [r1, k2, fr k k0 k1] at q1
        rw [← q1] at o0
        exact absurd o0 (by decide)
      rw [hW _ o2 p1, hT _ o2 p1, if_neg hno, if_neg hno, pp_22o a30 o30 i4 hx e]
      exact ⟨q1, q2⟩
  · rw [z6] at c1
    rw [hW c c0 c1, hT c c0 c1]
    by_cases r : c = b ∧ s.toNatClampNeg ≤ y.toNatClampNeg ∧ y.toNatClampNeg < s.toNatClampNeg + x.toNatClampNeg
    · obtain ⟨i, i0, i1, i2⟩ := (in_rg hs.1 hs.2 hx ⟨y0, y1⟩).mp r.2
      refine Or.inr ⟨a, i, ha.1, by rw [z17]; exact ha.2, ?_, i0, ?_, ?_⟩
      · rw [pp_20]
        exact r.1.symm
      · rw [pp_10]
        exact i1
      · rw [pp_21]
        exact i2
    · rw [if_neg r, if_neg r]
      rcases hp.2 c y c0 c1 y0 y1 with q | ⟨o, i, o0, o1, o2, i0, i1, i2⟩
      · exact Or.inl q
      · have on : ¬ o = a := fun e => un (by rw [← e, o2]; exact c0)
        refine Or.inr ⟨o, i, o0, by rw [z17]; exact o1, ?_, i0, ?_, ?_⟩
        · rw [zo o o0 on 20 (by omega)]
          exact o2
        · rw [zo o o0 on 10 (by omega)]
          exact i1
        · rw [zo o o0 on 21 (by omega)]
          exact i2
theorem un_o {a : Int32} {k j : Nat} (h : (¬ k = 20 ∧ ¬ k = 21) ∨ ¬ j = a.toNatClampNeg) : unY Y a k j = Y k j := by
  unfold unY
  rw [if_neg (by omega)]
theorem un_a {a : Int32} {k : Nat} (h : k = 20 ∨ k = 21) : unY Y a k a.toNatClampNeg = -9 := by
  unfold unY
  rw [if_pos ⟨h, rfl⟩]
theorem pl_un (hp : plP W T Y) (hl : ∀ j, 0 ≤ Y 10 j ∧ Y 10 j ≤ 4) {a : Int32} (ha : 0 ≤ a ∧ a < Y 0 17) (pa : 0 ≤ Y 20 a.toNatClampNeg) (hW : ∀ c : Int32, 0 ≤ c → c < Y 0 6 → ∀ j, W' c j = if c = Y 20 a.toNatClampNeg ∧ (Y 21 a.toNatClampNeg).toNatClampNeg ≤ j ∧ j < (Y 21 a.toNatClampNeg).toNatClampNeg + (Y 10 a.toNatClampNeg).toNatClampNeg then -9 else W c j) (hT : ∀ c : Int32, 0 ≤ c → c < Y 0 6 → ∀ j, T' c j = if c = Y 20 a.toNatClampNeg ∧ (Y 21 a.toNatClampNeg).toNatClampNeg ≤ j ∧ j < (Y 21 a.toNatClampNeg).toNatClampNeg + (Y 10 a.toNatClampNeg).toNatClampNeg then 0 else T c j) : plP W' T' (unY Y a) := by
  obtain ⟨g1, g2, g3, g4⟩ := hp.1 a ha.1 ha.2 pa
  have gl := hl a.toNatClampNeg
  have gs : Y 21 a.toNatClampNeg ≤ 200 := g2.2
  have z17 : unY Y a 0 17 = Y 0 17 := un_o (Or.inl ⟨by omega, by omega⟩)
  have z6 : unY Y a 0 6 = Y 0 6 := un_o (Or.inl ⟨by omega, by omega⟩)
  have zo : ∀ o : Int32, 0 ≤ o → ¬ o = a → ∀ k, unY Y a k o.toNatClampNeg = Y k o.toNatClampNeg := fun o o0 on k => un_o (Or.inr (fun e => on (cl_inj o0 ha.1 e)))
  have z10 : ∀ j, unY Y a 10 j = Y 10 j := fun j => un_o (Or.inl ⟨by omega, by omega⟩)
  have z22 : ∀ j, unY Y a 22 j = Y 22 j := fun j => un_o (Or.inl ⟨by omega, by omega⟩)
  refine ⟨fun o o0 o1 o2 => ?_, fun c y c0 c1 y0 y1 => ?_⟩
  · rw [z17] at o1
    rw [z6]
    have e : ¬ o = a := fun e => by
      rw [e, un_a (Or.inl rfl)] at o2
      exact absurd o2 (by decide)
    rw [zo o o0 e 20] at o2 ⊢
    rw [zo o o0 e 21, z10]
    obtain ⟨p1, p2, p3, p4⟩ := hp.1 o o0 o1 o2
    refine ⟨p1, p2, p3, fun i i0 i1 => ?_⟩
    obtain ⟨q1, q2⟩ := p4 i i0 i1
    have hno : ¬ (Y 20 o.toNatClampNeg = Y 20 a.toNatClampNeg ∧ (Y 21 a.toNatClampNeg).toNatClampNeg ≤ (Y 21 o.toNatClampNeg + i).toNatClampNeg ∧ (Y 21 o.toNatClampNeg + i).toNatClampNeg < (Y 21 a.toNatClampNeg).toNatClampNeg + (Y 10 a.toNatClampNeg).toNatClampNeg) := fun ⟨r1, r2⟩ => by
      have hy : 0 ≤ Y 21 o.toNatClampNeg + i ∧ Y 21 o.toNatClampNeg + i < 200 := ((sh_lt p2 (hl o.toNatClampNeg) p3 ⟨i0, Int32.le_of_lt i1⟩).1 i1).1
      obtain ⟨k, k0, k1, k2⟩ := (in_rg g2.1 gs gl hy).mp r2
      have w := (g4 k k0 k1).1
      rw [← r1, ← k2, q1] at w
      exact e w
    rw [hW _ o2 p1, hT _ o2 p1, if_neg hno, if_neg hno, z22]
    exact ⟨q1, q2⟩
  · rw [z6] at c1
    rw [hW c c0 c1, hT c c0 c1]
    by_cases r : c = Y 20 a.toNatClampNeg ∧ (Y 21 a.toNatClampNeg).toNatClampNeg ≤ y.toNatClampNeg ∧ y.toNatClampNeg < (Y 21 a.toNatClampNeg).toNatClampNeg + (Y 10 a.toNatClampNeg).toNatClampNeg
    · rw [if_pos r, if_pos r]
      exact Or.inl ⟨rfl, rfl⟩
    · rw [if_neg r, if_neg r]
      rcases hp.2 c y c0 c1 y0 y1 with q | ⟨o, i, o0, o1, o2, i0, i1, i2⟩
      · exact Or.inl q
      · have on : ¬ o = a := fun e => r (by
          subst e
          exact ⟨o2.symm, (in_rg g2.1 gs gl ⟨y0, y1⟩).mpr ⟨i, i0, i1, i2⟩⟩)
        exact Or.inr ⟨o, i, o0, by rw [z17]; exact o1, by rw [zo o o0 on 20]; exact o2, i0, by rw [z10]; exact i1, by rw [zo o o0 on 21]; exact i2⟩
/-- what holds of the model's words at all times, where places alone change -/
theorem yoP_b (h : yoP Y) (hb : sbE Y Z) (hi : inP Z) : yoP Z := by
  obtain ⟨h1, h2, h3, h4, h5, h6, -, h8, h9, h10⟩ := h
  have e10 : Z 10 = Y 10 := sbE_r hb (by omega)
  have e17 : Z 0 17 = Y 0 17 := hb 0 17 (by unfold sb; omega)
  refine ⟨by rw [hb 0 41 (by unfold sb; omega)]; exact h1, by rw [e10]; exact h2, by rw [e17, e10]; exact h3, by rw [hb 0 9 (by unfold sb; omega)]; exact h4, by rw [e17]; exact h5, by rw [hb 0 6 (by unfold sb; omega)]; exact h6, hi, fun k q => ?_, fun b => by rw [sbE_r hb (k := 6) (by omega)]; exact h9 b, by rw [e17, sbE_r hb (k := 7) (by omega), sbE_r hb (k := 16) (by omega)]; exact h10⟩
  rw [sbE_r hb (k := 38) (by omega)] at q
  rw [sbE_r hb (k := 36) (by omega)]
  exact h8 k q
theorem inP_pu (h : inP Y) {a b s : Int32} (hs : 0 ≤ s ∧ s ≤ 200 ∧ s + Y 10 a.toNatClampNeg ≤ 200) (hb : b ≤ 5) : inP (puY Y a b s) := fun j hj hp => by
  unfold puY at hp ⊢
  by_cases e : j = a.toNatClampNeg
  · subst e
    rw [if_neg (by omega), if_pos (by omega), if_neg (by omega), if_neg (by omega), if_neg (by omega), if_pos (by omega)]
    exact ⟨hs, hb⟩
  · rw [if_neg (by omega), if_neg (by omega), if_neg (by omega)] at hp
    rw [if_neg (by omega), if_neg (by omega), if_neg (by omega), if_neg (by omega), if_neg (by omega), if_neg (by omega), if_neg (by omega), if_neg (by omega), if_neg (by omega)]
    exact h j hj hp
theorem inP_un (h : inP Y) {a : Int32} : inP (unY Y a) := fun j hj hp => by
  unfold unY at hp ⊢
  by_cases e : j = a.toNatClampNeg
  · rw [if_pos ⟨Or.inl rfl, e⟩] at hp
    exact absurd hp (by decide)
  · rw [if_neg (by omega)] at hp
    rw [if_neg (by omega), if_neg (by omega), if_neg (by omega)]
    exact h j hj hp
end YY
end
section
/-! the class: laying, lifting -/
/-- a bench's rows lie behind it; they, what is kept of the past and the texts' codes are apart -/
def seP (C : Nat) (R : Nat → Nat → Nat) (Y : Nat → Nat → Int32) : Prop := (∀ b : Int32, 0 ≤ b → b < Y 0 6 → R (R (C + 16) b.toNatClampNeg) 2 = (R (C + 16) b.toNatClampNeg) + 1 ∧ R (R (C + 16) b.toNatClampNeg) 3 = (R (C + 16) b.toNatClampNeg) + 2 ∧ R (R (C + 16) b.toNatClampNeg) 4 = (R (C + 16) b.toNatClampNeg) + 3) ∧ (∀ b c : Int32, 0 ≤ b → b < Y 0 6 → 0 ≤ c → c < Y 0 6 → (R (C + 16) b.toNatClampNeg) = R (C + 16) c.toNatClampNeg → b = c) ∧ (∀ k b : Int32, 0 ≤ k → k < Y 0 41 → 0 ≤ b → b < Y 0 6 → (R (R (C + 8) k.toNatClampNeg) 2 < (R (C + 16) b.toNatClampNeg) + 1 ∨ (R (C + 16) b.toNatClampNeg) + 3 < R (R (C + 8) k.toNatClampNeg) 2) ∧ ¬ R (R (C + 8) k.toNatClampNeg) 2 = R (R (C + 16) b.toNatClampNeg) 5) ∧ (∀ b c : Int32, 0 ≤ b → b < Y 0 6 → 0 ≤ c → c < Y 0 6 → R (R (C + 16) b.toNatClampNeg) 5 < R (C + 16) c.toNatClampNeg + 1 ∨ R (C + 16) c.toNatClampNeg + 3 < R (R (C + 16) b.toNatClampNeg) 5)
section YZ
variable {d n t C : Nat} {K L : Nat → Nat} {I I0 J J0 J1 J2 : Nat → Nat → Int32} {R : Nat → Nat → Nat} {P : Option Value → AH → Prop}
variable {Y Z : Nat → Nat → Int32}
theorem se_b (h : seP C R Y) (hb : sbE Y Z) : seP C R Z := by
  unfold seP at h ⊢
  rw [hb 0 6 (by unfold sb; omega), hb 0 41 (by unfold sb; omega)]
  exact h
/-- rows of two benches are apart -/
theorem se_ne (hT : cT C K L I R) (hc : cpP C K L I R Y) (h : seP C R Y) {b c : Int32} (hb : 0 ≤ b ∧ b < Y 0 6) (hd : 0 ≤ c ∧ c < Y 0 6) (hn : ¬ b = c) : (R (C + 16) b.toNatClampNeg) + 3 < R (C + 16) c.toNatClampNeg ∨ R (C + 16) c.toNatClampNeg + 3 < (R (C + 16) b.toNatClampNeg) := by
  obtain ⟨k1, -⟩ := hc.2.1.2.2.1 b hb.1 hb.2
  obtain ⟨k2, -⟩ := hc.2.1.2.2.1 c hd.1 hd.2
  obtain ⟨b1, ⟨-, w1, -⟩, ⟨-, w2, -⟩, ⟨-, w3, -⟩, -⟩ := hT.g_bnc _ k1
  obtain ⟨c1, ⟨-, v1, -⟩, ⟨-, v2, -⟩, ⟨-, v3, -⟩, -⟩ := hT.g_bnc _ k2
  obtain ⟨e1, e2, e3⟩ := h.1 b hb.1 hb.2
  obtain ⟨d1, d2, d3⟩ := h.1 c hd.1 hd.2
  have hne : ¬ (R (C + 16) b.toNatClampNeg) = R (C + 16) c.toNatClampNeg := fun e => hn (h.2.1 b c hb.1 hb.2 hd.1 hd.2 e)
  rw [e1] at w1
  rw [e2] at w2
  rw [e3] at w3
  rw [d1] at v1
  rw [d2] at v2
  rw [d3] at v3
  generalize (R (C + 16) b.toNatClampNeg) = p at *
  generalize R (C + 16) c.toNatClampNeg = q at *
  have f1 : ∀ x, K x = 20 → ¬ p = x := fun x hx e => by rw [← e, k1] at hx; cases hx
  have f2 : ∀ x, K x = 20 → ¬ q = x := fun x hx e => by rw [← e, k2] at hx; cases hx
  have := f1 _ v1
  have := f1 _ v2
  have := f1 _ v3
  have := f2 _ w1
  have := f2 _ w2
  have := f2 _ w3
  omega
/-- where places alone change, the class's heap is the model's again -/
theorem cp_mk {K' L' : Nat → Nat} {R' : Nat → Nat → Nat} (hT : cT C K L I R) (hc : cpP C K L I R Y) (hb : sbE Y Z) (hin : inP Z) (g1 : ∀ x, ¬ K x = 0 → K' x = K x ∧ L' x = L x) (g2 : ∀ x j, ¬ K x = 0 → ¬ (K x = 3 ∧ j = 5) → ¬ x = C + 23 → ¬ x = C + 28 → ¬ x = C + 38 → R' x j = R x j) (f1 : ∀ k j, (k = 1 ∨ k = 2 ∨ k = 3 ∨ k = 7 ∨ k = 14) → J (C + k) j = I (C + k) j) (f2 : ∀ x j, K x = 1 → ¬ j = 13 → ¬ j = 14 → J x j = I x j) (f3 : ∀ x j, K x = 3 → ¬ j = 6 → J x j = I x j) (f4 : ∀ x j, K x = 11 → J x j = I x j) (f5 : ∀ k : Int32, 0 ≤ k → k < Y 0 41 → ∀ j, J (R (R (C + 8) k.toNatClampNeg) 2) j = I (R (R (C + 8) k.toNatClampNeg) 2) j) (h2 : ∀ i : Int32, 0 ≤ i → i < Y 0 17 → J (R (C + 15) i.toNatClampNeg) 13 = Z 20 i.toNatClampNeg ∧ J (R (C + 15) i.toNatClampNeg) 14 = Z 21 i.toNatClampNeg) (h3 : plP (whC C J R) (snC C J R) Z) : cpP C K' L' J R' Z := by
  obtain ⟨⟨p1, p2, p3⟩, ⟨q1, q2, q3, q4⟩, ⟨r1, r2, r3, r4⟩, ⟨x1, x2⟩, hy⟩ := hc
  have hS := hT.s
  have k16 : ¬ K (C + 16) = 0 := by rw [k_16 hS]; decide
  have k15 : ¬ K (C + 15) = 0 := by rw [k_15 hS]; decide
  have k8 : ¬ K (C + 8) = 0 := by rw [k_8 hS]; decide
  have R16 : ∀ j, R' (C + 16) j = R (C + 16) j := fun j => g2 _ _ k16 (fun e => by rw [k_16 hS] at e; cases e.1) (by omega) (by omega) (by omega)
  have R15 : ∀ j, R' (C + 15) j = R (C + 15) j := fun j => g2 _ _ k15 (fun e => by rw [k_15 hS] at e; cases e.1) (by omega) (by omega) (by omega)
  have R8 : ∀ j, R' (C + 8) j = R (C + 8) j := fun j => g2 _ _ k8 (fun e => by rw [k_8 hS] at e; cases e.1) (by omega) (by omega) (by omega)
  have z6 : Z 0 6 = Y 0 6 := hb 0 6 (by unfold sb; omega)
  have z17 : Z 0 17 = Y 0 17 := hb 0 17 (by unfold sb; omega)
  have z41 : Z 0 41 = Y 0 41 := hb 0 41 (by unfold sb; omega)
  have z9 : Z 0 9 = Y 0 9 := hb 0 9 (by unfold sb; omega)
  have z0 : Z 0 0 = Y 0 0 := hb 0 0 (by unfold sb; omega)
  have kb : ∀ b : Int32, 0 ≤ b → b < Y 0 6 → ∀ j, j = 2 ∨ j = 3 → R' (R (C + 16) b.toNatClampNeg) j = R (R (C + 16) b.toNatClampNeg) j := fun b b0 b1 j hj => by
    have hk := (q3 b b0 b1).1
    have := (hT.g_bnc _ hk).1
    exact g2 _ _ (by rw [hk]; decide) (by omega) (by omega) (by omega) (by omega)
  refine ⟨⟨by rw [f1 _ _ (by omega), z0]; exact p1, fun j => by rw [f1 _ _ (by omega), sbE_r hb (k := 1) (by omega)]; exact p2 j, fun s s0 s1 => by rw [f1 _ _ (by omega), liY_b hb]; exact p3 s s0 s1⟩, ⟨by rw [f1 _ _ (by omega), z6]; exact q1, by rw [f1 _ _ (by omega), z9]; exact q2, fun b b0 b1 => ?_, ?_⟩, ⟨by rw [f1 _ _ (by omega), z17]; exact r1, fun i i0 i1 => ?_, fun i i0 i1 => ?_, fun i i0 i1 => ?_⟩, ⟨by rw [f1 _ _ (by omega), z41]; exact x1, fun k k0 k1 => ?_⟩, yoP_b hy hb hin⟩
  · rw [z6] at b1
    obtain ⟨k1, k2, k3, k4⟩ := q3 b b0 b1
    rw [R16, (g1 _ (by rw [k1]; decide)).1, f3 _ _ k1 (by decide), f3 _ _ k1 (by decide), sbE_r hb (k := 5) (by omega), sbE_r hb (k := 6) (by omega)]
    exact ⟨k1, k2, k3, k4⟩
  · refine plP_eq h3 (fun b b0 b1 => ?_) (fun b b0 b1 => ?_)
    · rw [z6] at b1
      unfold whC
      rw [R16, kb b b0 b1 2 (Or.inl rfl)]
    · rw [z6] at b1
      unfold snC
      rw [R16, kb b b0 b1 3 (Or.inr rfl)]
  · rw [z17] at i1
    obtain ⟨k1, k2, k3⟩ := r2 i i0 i1
    rw [R15, (g1 _ (by rw [k1]; decide)).1, f2 _ _ k1 (by decide) (by decide)]
    exact ⟨k1, k2, k3⟩
  · rw [z17] at i1
    obtain ⟨k1, k2, k3⟩ := r2 i i0 i1
    rw [R15, f2 _ _ k1 (by decide) (by decide), cmY_b hb, hsY_b hb]
    exact r3 i i0 i1
  · rw [z17] at i1
    obtain ⟨k1, k2, k3⟩ := r2 i i0 i1
    obtain ⟨l1, l2, l3, -, l5⟩ := r4 i i0 i1
    have e : ∀ j, ¬ j = 13 → ¬ j = 14 → J (R (C + 15) i.toNatClampNeg) j = I (R (C + 15) i.toNatClampNeg) j := fun j j1 j2 => f2 _ _ k1 j1 j2
    have er : ∀ k, 1 ≤ k ∧ k ≤ 19 → Z k = Y k := fun k hk => sbE_r hb (by omega)
    unfold alP
    rw [R15, e 0 (by decide) (by decide), e 1 (by decide) (by decide), e 2 (by decide) (by decide), e 3 (by decide) (by decide), e 5 (by decide) (by decide), e 6 (by decide) (by decide), e 7 (by decide) (by decide), e 8 (by decide) (by decide), e 9 (by decide) (by decide), e 10 (by decide) (by decide), e 11 (by decide) (by decide), e 15 (by decide) (by decide), e 16 (by decide) (by decide), er 7 (by omega), er 8 (by omega), er 9 (by omega), er 10 (by omega), er 11 (by omega), er 12 (by omega), er 13 (by omega), er 14 (by omega), er 15 (by omega), er 16 (by omega), er 17 (by omega), er 18 (by omega), er 19 (by omega)]
    exact ⟨l1, l2, l3, h2 i i0 i1, l5⟩
  · rw [z41] at k1
    have hx := x2 k k0 k1
    have hk := hx.1
    have hcd := (hT.g_txt _ hk).2.2.1
    have er : R' (R (C + 8) k.toNatClampNeg) 2 = R (R (C + 8) k.toNatClampNeg) 2 := by
      have := (hT.g_txt _ hk).1
      exact g2 _ _ (by rw [hk]; decide) (fun e => by rw [hk] at e; cases e.1) (by omega) (by omega) (by omega)
    rw [R8, (g1 _ (by rw [hk]; decide)).1, er, (g1 _ (by rw [hcd]; decide)).2, f4 _ _ hk, f4 _ _ hk, f4 _ _ hk, funext (f5 k k0 k1), wt_b hb, sbE_r hb (k := 30) (by omega), sbE_r hb (k := 31) (by omega)]
    refine ⟨hx.1, hx.2.1, hx.2.2.1, hx.2.2.2.1, hx.2.2.2.2.1, fun fc => ?_⟩
    rw [wv_b hb]
    exact hx.2.2.2.2.2 fc
/-- the heap with x SHIFTS of a place laid -/
def lyI (I : Nat → Nat → Int32) (B p : Nat) (b s i : Int32) (x : Int32) (g : Nat → Int32) : Nat → Nat → Int32 := fun y j => if y = p ∧ j = 13 then b else if y = p ∧ j = 14 then s else if y = B + 1 ∧ s.toNatClampNeg ≤ j ∧ j < s.toNatClampNeg + x.toNatClampNeg then i else if y = B + 2 ∧ s.toNatClampNeg ≤ j ∧ j < s.toNatClampNeg + x.toNatClampNeg then g j else I y j
theorem ly_k {B p : Nat} {b s i x : Int32} {g : Nat → Int32} {y j : Nat} (h1 : ¬ (y = p ∧ (j = 13 ∨ j = 14))) (h2 : ¬ y = B + 1) (h3 : ¬ y = B + 2) : lyI I B p b s i x g y j = I y j := by
  unfold lyI
  rw [if_neg (by omega), if_neg (by omega), if_neg (by omega), if_neg (by omega)]
theorem ly_1 {B p : Nat} {b s i x : Int32} {g : Nat → Int32} {j : Nat} (h1 : ¬ B + 1 = p) : lyI I B p b s i x g (B + 1) j = if s.toNatClampNeg ≤ j ∧ j < s.toNatClampNeg + x.toNatClampNeg then i else I (B + 1) j := by
  unfold lyI
  rw [if_neg (by omega), if_neg (by omega)]
  by_cases e : s.toNatClampNeg ≤ j ∧ j < s.toNatClampNeg + x.toNatClampNeg
  · rw [if_pos ⟨rfl, e⟩, if_pos e]
  · rw [if_neg (fun q => e q.2), if_neg (by omega), if_neg e]
theorem ly_2 {B p : Nat} {b s i x : Int32} {g : Nat → Int32} {j : Nat} (h1 : ¬ B + 2 = p) : lyI I B p b s i x g (B + 2) j = if s.toNatClampNeg ≤ j ∧ j < s.toNatClampNeg + x.toNatClampNeg then g j else I (B + 2) j := by
  unfold lyI
  rw [if_neg (by omega), if_neg (by omega), if_neg (by omega)]
  by_cases e : s.toNatClampNeg ≤ j ∧ j < s.toNatClampNeg + x.toNatClampNeg
  · rw [if_pos ⟨rfl, e⟩, if_pos e]
  · rw [if_neg (fun q => e q.2), if_neg e]
theorem ly_step {B p : Nat} {b s i x : Int32} {g : Nat → Int32} (hs : 0 ≤ s ∧ s ≤ 200) (hx : 0 ≤ x ∧ x < 4) (n1 : ¬ B + 1 = p) (n2 : ¬ B + 2 = p) (hJ : ∀ y j, J y j = lyI I B p b s i x g y j) (y j : Nat) : a_ui (a_ui J (B + 1) (s + x).toNatClampNeg i) (B + 2) (s + x).toNatClampNeg (g (s + x).toNatClampNeg) y j = lyI I B p b s i (x + 1) g y j := by
  obtain ⟨e1, -, -⟩ := sh_at hs.1 hs.2 ⟨hx.1, Int32.le_of_lt hx.2⟩
  have e2 : (x + 1).toNatClampNeg = x.toNatClampNeg + 1 := (lp_st hx.1 hx.2).2.2.2
  rw [ui_ap, ui_ap, hJ]
  unfold lyI
  rw [e1, e2]
  generalize s.toNatClampNeg = u
  generalize x.toNatClampNeg = w
  clear hJ e1 e2
  have f12 : ¬ B + 1 = B + 2 := by omega
  have f21 : ¬ B + 2 = B + 1 := by omega
  by_cases c1 : y = B + 1
  · subst c1
    simp only [n1, f12, false_and, if_false, true_and]
    grind
  · by_cases c2 : y = B + 2
    · subst c2
      simp only [n2, f21, false_and, if_false, true_and]
      by_cases c3 : j = u + w
      · subst c3
        rw [if_pos rfl, if_pos ⟨by omega, by omega⟩]
      · grind
    · simp only [c1, c2, false_and, if_false]
/-- the class's rows with x SHIFTS laid are the model's places -/
theorem ly_pl (hT : cT C K L I R) (hc : cpP C K L I R Y) (hse : seP C R Y) {a : Nat} {i : Int32} (ap : aaP C K I Y i a) {b s x : Int32} (hb : 0 ≤ b ∧ b < Y 0 6) (hs : 0 ≤ s ∧ s ≤ 200) (hx : 0 ≤ x ∧ x ≤ 4) (hsx : s + x ≤ 200) (un : ¬ 0 ≤ Y 20 i.toNatClampNeg) (fr : ∀ z : Int32, 0 ≤ z → z < x → whC C I R b (s + z).toNatClampNeg = -9) (hJ : ∀ y j, J y j = lyI I (R (C + 16) b.toNatClampNeg) a b s i x (fun j => sdY Y i b s (Int32.ofNat (j - s.toNatClampNeg))) y j) : plP (whC C J R) (snC C J R) (ppY Y i b s x) := by
  have hy := hc.2.2.2.2
  obtain ⟨ai, ⟨ha, an0, a4n⟩, -, -⟩ := ap
  have rows : ∀ c : Int32, 0 ≤ c → c < Y 0 6 → R (R (C + 16) c.toNatClampNeg) 2 = R (C + 16) c.toNatClampNeg + 1 ∧ R (R (C + 16) c.toNatClampNeg) 3 = R (C + 16) c.toNatClampNeg + 2 ∧ ¬ R (C + 16) c.toNatClampNeg + 1 = a ∧ ¬ R (C + 16) c.toNatClampNeg + 2 = a := fun c c0 c1 => by
    obtain ⟨e1, e2, -⟩ := hse.1 c c0 c1
    have kc := (hc.2.1.2.2.1 c c0 c1).1
    obtain ⟨-, ⟨-, w1, -⟩, ⟨-, w2, -⟩, -⟩ := hT.g_bnc _ kc
    refine ⟨e1, e2, fun e => ?_, fun e => ?_⟩
    · rw [e1, e, ha] at w1
      cases w1
    · rw [e2, e, ha] at w2
      cases w2
  refine pl_put hc.2.1.2.2.2 hy.2.1 hy.2.2.2.2.1.2 ai hb hs hx hsx un fr (fun c c0 c1 j => ?_) (fun c c0 c1 j => ?_)
  · obtain ⟨e1, e2, n1, n2⟩ := rows c c0 c1
    unfold whC
    rw [hJ, e1]
    by_cases e : c = b
    · subst e
      rw [ly_1 n1]
      by_cases q : s.toNatClampNeg ≤ j ∧ j < s.toNatClampNeg + x.toNatClampNeg
      · rw [if_pos q, if_pos ⟨rfl, q⟩]
      · rw [if_neg q, if_neg (fun w => q w.2)]
    · have := se_ne hT hc hse ⟨c0, c1⟩ hb e
      rw [if_neg (fun w => e w.1), ly_k (fun w => n1 w.1) (by omega) (by omega)]
  · obtain ⟨e1, e2, n1, n2⟩ := rows c c0 c1
    unfold snC
    rw [hJ, e2]
    by_cases e : c = b
    · subst e
      rw [ly_2 n2]
      by_cases q : s.toNatClampNeg ≤ j ∧ j < s.toNatClampNeg + x.toNatClampNeg
      · rw [if_pos q, if_pos ⟨rfl, q⟩]
      · rw [if_neg q, if_neg (fun w => q w.2)]
    · have := se_ne hT hc hse ⟨c0, c1⟩ hb e
      rw [if_neg (fun w => e w.1), ly_k (fun w => n2 w.1) (by omega) (by omega)]
theorem le_lay_26 (hT0 : cT C K L I R) (hc : cpP C K L I R Y) (hse : seP C R Y) {a : Nat} {i : Int32} (ap : aaP C K I Y i a) {b s w : Int32} (hb : 0 ≤ b ∧ b < Y 0 6) (hs : 0 ≤ s ∧ s ≤ 200) (hsl : s + Y 10 i.toNatClampNeg ≤ 200) (un : ¬ 0 ≤ Y 20 i.toNatClampNeg) (fr : ∀ z : Int32, 0 ≤ z → z < Y 10 i.toNatClampNeg → whC C I R b (s + z).toNatClampNeg = -9) (hw : ∀ z : Int32, 0 ≤ z → z < Y 10 i.toNatClampNeg → ((w >>> (z &&& 31)) &&& 1 = 0 ↔ ¬ 0 ≤ wtA Y 87 i b (s + z))) (hP : ∀ J, dL C K L R I J → (∀ y j, J y j = lyI I (R (C + 16) b.toNatClampNeg) a b s i (Y 10 i.toNatClampNeg) (fun j => sdY Y i b s (Int32.ofNat (j - s.toNatClampNeg))) y j) → P none (n, t, K, L, J, R)) : ∀ x : Int32, x ≤ 4 → ∀ J u1 u2 u3 u4, 0 ≤ x → x ≤ Y 10 i.toNatClampNeg → dL C K L R I J → (∀ y j, J y j = lyI I (R (C + 16) b.toNatClampNeg) a b s i x (fun j => sdY Y i b s (Int32.ofNat (j - s.toNatClampNeg))) y j) → a_at (d + 3) (a_xm a_m115) 26 [some (a_rf (C + 14)), some (a_rf a), some (.int b), some (.int s), some (.int w), some (a_rf (R (C + 16) b.toNatClampNeg)), some (.int x), u1, u2, u3, u4] [] (n, t, K, L, J, R) P := by
  have hy := hc.2.2.2.2
  have y10 := hy.2.1 i.toNatClampNeg
  obtain ⟨ai, ⟨ha, an0, a4n⟩, am, al⟩ := id ap
  have i30 : 0 ≤ i ∧ i < 30 := ⟨ai.1, Int32.lt_of_lt_of_le ai.2 hy.2.2.2.2.1.2⟩
  obtain ⟨kb, kb0, kb5, kb6⟩ := hc.2.1.2.2.1 b hb.1 hb.2
  obtain ⟨eB2, eB3, -⟩ := hse.1 b hb.1 hb.2
  obtain ⟨bB, ⟨w1, w2, w3⟩, ⟨s1, s2, s3⟩, -⟩ := hT0.g_bnc _ kb
  have aB1 : ¬ (R (C + 16) b.toNatClampNeg) + 1 = a := fun e => by rw [eB2, e, ha] at w2; cases w2
  have aB2 : ¬ (R (C + 16) b.toNatClampNeg) + 2 = a := fun e => by rw [eB3, e, ha] at s2; cases s2
  refine up_ind 4 (fun x x4 ih => ?_)
  intro J u1 u2 u3 u4 h0 h1 hJL hJ
  have hT := hJL.1
  have hS := hT.s
  have e2 : J a 2 = Y 10 i.toNatClampNeg := by rw [dL_at hJL hT0 ha 2 (by decide) (by decide)]; exact al.1.2.2.1
  have e4 : J a 4 = i := by rw [dL_at hJL hT0 ha 4 (by decide) (by decide)]; exact a4n
  have a0 : (a = 0) = False := eq_false an0
  have b0 : ((R (C + 16) b.toNatClampNeg) = 0) = False := eq_false kb0
  generalize ez : Y 10 i.toNatClampNeg = z at y10 h1 hP ih e2 hsl fr hw
  have hexit : ¬ x < z → P none (n, t, K, L, J, R) := fun w => by
    have e := (lp_end h1 w).2
    subst e
    exact hP J hJL hJ
  have hcall : x < z → a_does (d + 3) 108 [a_rf (C + 14), a_rf a, .int b, .int (s + x)] (n, t, K, L, J, R) (fun r h' => a_at (d + 3) (a_xm a_m115) 55 [some (a_rf (C + 14)), some (a_rf a), some (.int b), some (.int s), some (.int w), some (a_rf (R (C + 16) b.toNatClampNeg)), some (.int x), u1, u2, u3, u4] (r.toList ++ []) h' P) := fun c => by
    obtain ⟨t1, t2, t3, t4⟩ := lp_st h0 c
    have hx4 : 0 ≤ x ∧ x < 4 := ⟨h0, Int32.lt_of_lt_of_le c y10.2⟩
    have hx5 : 0 ≤ x ∧ x ≤ 4 := ⟨h0, Int32.le_of_lt hx4.2⟩
    have hsx : s + x ≤ 200 := (sh_lt hs y10 hsl ⟨h0, h1⟩).2.1
    obtain ⟨n1, n2, n3⟩ := sh_at hs.1 hs.2 hx5
    have hsx2 : 0 ≤ s + x ∧ s + x < 200 := ((sh_lt hs y10 hsl ⟨h0, h1⟩).1 c).1
    have hpl := ly_pl hT0 hc hse ap hb hs hx5 hsx un (fun q q0 q1 => fr q q0 (Int32.lt_trans q1 c)) hJ
    have z6 : ppY Y i b s x 0 6 = Y 0 6 := pp_o (Or.inl ⟨by omega, by omega, by omega, by omega⟩)
    have z9 : ppY Y i b s x 0 9 = Y 0 9 := pp_o (Or.inl ⟨by omega, by omega, by omega, by omega⟩)
    have z17 : ppY Y i b s x 0 17 = Y 0 17 := pp_o (Or.inl ⟨by omega, by omega, by omega, by omega⟩)
    have r6 : ppY Y i b s x 6 = Y 6 := funext (fun j => pp_o (Or.inl ⟨by omega, by omega, by omega, by omega⟩))
    have r5 : ppY Y i b s x 5 = Y 5 := funext (fun j => pp_o (Or.inl ⟨by omega, by omega, by omega, by omega⟩))
    have hl : ∀ j, 0 ≤ ppY Y i b s x 10 j ∧ ppY Y i b s x 10 j ≤ 4 := fun j => by
      by_cases e : j = i.toNatClampNeg
      · rw [e, pp_10]
        exact hx5
      · rw [pp_o (Or.inr ⟨e, by omega⟩)]
        exact hy.2.1 j
    have hB : bhP C K J R (ppY Y i b s x) := by
      refine ⟨?_, ?_, fun c c0 c1 => ?_, hpl⟩
      · rw [z6, hJL.2 _ _ (by omega) (by omega) (by omega)]
        exact hc.2.1.1
      · rw [z9, hJL.2 _ _ (by omega) (by omega) (by omega)]
        exact hc.2.1.2.1
      · rw [z6] at c1
        obtain ⟨k1, k2, k3, k4⟩ := hc.2.1.2.2.1 c c0 c1
        have kk : ∀ j, J (R (C + 16) c.toNatClampNeg) j = I (R (C + 16) c.toNatClampNeg) j := fun j => by
          have := (hT0.g_bnc _ k1).1
          exact hJL.2 _ _ (by omega) (by omega) (fun q => by rw [k1] at q; rcases q.2 with q | q; cases q; cases q.1)
        rw [kk, kk, r5, r6]
        exact ⟨k1, k2, k3, k4⟩
    have ef : fhY (ppY Y i b s x) (J a 4) b (s + x) = fhY Y i b (s + x) := by
      rw [e4]
      refine fhY_c hy.2.2.2.2.1 hy.2.1 r6 z17 z9 (fun o o0 o1 on => ?_)
      have hne : ¬ o.toNatClampNeg = i.toNatClampNeg := fun e => on (cl_inj o0 ai.1 e)
      exact ⟨pp_o (Or.inr ⟨hne, by omega⟩), pp_o (Or.inr ⟨hne, by omega⟩), pp_o (Or.inr ⟨hne, by omega⟩), fun _ q q0 q1 => pp_22o i30 ⟨o0, o1⟩ ⟨q0, Int32.lt_of_lt_of_le q1 (hy.2.1 _).2⟩ hx5 on⟩
    refine ce_freeHosts (d := d + 1) hT hB hl (by rw [z9]; exact hy.2.2.2.1) (by rw [z17]; exact hy.2.2.2.2.1) ha (by rw [z6]; exact hb) hsx2 ?_
    rw [ef]
    have hsd : sdY Y i b s x = sfB (fhY Y i b (s + x)) (if 0 ≤ wtA Y 87 i b (s + x) then 2 else 1) := rfl
    have hf8 := fhY_8 (Y := Y) hy.2.2.2.2.2.2.2.2.1 (a := i) (b := b) (s := s + x)
    have hwx := hw x h0 c
    have hg : ∀ u1 u2 u3 u4 v, v = sdY Y i b s x → a_does (d + 3) 52 [a_rf (R (C + 16) b.toNatClampNeg), .int (s + x), .int i, .int v] (n, t, K, L, J, R) (fun r h' => a_at (d + 3) (a_xm a_m115) 114 [some (a_rf (C + 14)), some (a_rf a), some (.int b), some (.int s), some (.int w), some (a_rf (R (C + 16) b.toNatClampNeg)), some (.int x), u1, u2, u3, u4] (r.toList ++ []) h' P) := fun u1 u2 u3 u4 v hv => by
      refine cp_settle kb hT hsx2 ?_
      rw [eB2, eB3]
      have hg := ih (by clear ih hP hexit hJ fr hw hv; grind) (a_ui (a_ui J ((R (C + 16) b.toNatClampNeg) + 1) (s + x).toNatClampNeg i) ((R (C + 16) b.toNatClampNeg) + 2) (s + x).toNatClampNeg v) u1 u2 u3 u4 t2 t3 (dL_arr (dL_arr hJL (by rw [← eB2]; exact w1) (by rw [← eB2]; exact w2)) (by rw [← eB3]; exact s1) (by rw [← eB3]; exact s2)) (fun y j => by
        have hst := ly_step (I := I) (b := b) (i := i) (g := fun j => sdY Y i b s (Int32.ofNat (j - s.toNatClampNeg))) hs hx4 aB1 aB2 hJ y j
        rw [← hst, hv]
        show _ = a_ui (a_ui J ((R (C + 16) b.toNatClampNeg) + 1) (s + x).toNatClampNeg i) ((R (C + 16) b.toNatClampNeg) + 2) (s + x).toNatClampNeg (sdY Y i b s (Int32.ofNat ((s + x).toNatClampNeg - s.toNatClampNeg))) y j
        rw [n3])
      clear ih hP hexit hJ fr hw hpl hB hc ap al am
      simp only [q115_114, q115_117, as_nil, as_i, as_r, Nat.reduceAdd, Nat.reduceLeDiff, z_eq0, z_eq1, z_or, z_em, Classical.not_not, not_false_eq_true, not_true_eq_false, true_and, and_true, false_and, and_false, and_self, true_implies, false_implies, implies_true, Option.toList_some, Option.toList_none, List.cons_append, List.nil_append, Nat.add_eq_zero_iff, a_nl_i, a_nl_r, a_nl_n, true_or, or_true, eq_self, a_isRA_22, a_isRA_24, a_isRA_32, a_isA_20, ok_4, ok_5, ok_6, ok_7, ok_9, ok_20, ok_21, ok_30, ok_50, ok_180, ok_192, ok_200]
      exact hg
    generalize fhY Y i b (s + x) = f at hsd hf8 ⊢
    clear ih hP hexit hJ fr hw hpl hB hl ef hc ap al am hJL
    by_cases cw : (w >>> (x &&& 31)) &&& 1 = 0
    · rw [if_neg (hwx.mp cw), sf_1 hf8] at hsd
      have o0 : (f &&& -f) ||| 0 = f &&& -f := Int32.or_zero
      have hg := hg (some (.int f)) (some (.int (f &&& -f))) (some (.int (f &&& ((f &&& -f) ^^^ -1)))) (some (.int 0)) _ (o0.trans hsd.symm)
      simp only [q115_55, q115_57, q115_59, q115_61, q115_62, q115_63, q115_65, q115_67, q115_69, q115_70, q115_71, q115_72, q115_74, q115_76, q115_78, q115_79, q115_80, q115_81, q115_84, q115_86, q115_88, q115_89, q115_90, q115_93, q115_94, q115_96, q115_98, q115_99, q115_101, q115_102, q115_103, q115_106, q115_108, q115_110, q115_111, k_14 hS, z_14, as_nil, as_i, as_r, Nat.reduceAdd, Nat.reduceLeDiff, z_eq0, z_eq1, z_or, z_em, Classical.not_not, not_false_eq_true, not_true_eq_false, true_and, and_true, false_and, and_false, and_self, true_implies, false_implies, implies_true, Option.toList_some, Option.toList_none, List.cons_append, List.nil_append, Nat.add_eq_zero_iff, a_nl_i, a_nl_r, a_nl_n, true_or, or_true, eq_self, a_isRA_22, a_isRA_24, a_isRA_32, a_isA_20, ok_4, ok_5, ok_6, ok_7, ok_9, ok_20, ok_21, ok_30, ok_50, ok_180, ok_192, ok_200, ha, a0, cw, e4, b0]
      try simp only [true_and, and_true, true_implies, false_implies, implies_true, not_true_eq_false, not_false_eq_true]
      first
        | exact hg
        | exact ⟨kb, hg⟩
    · have cw2 : 0 ≤ wtA Y 87 i b (s + x) := Classical.byContradiction (fun q => cw (hwx.mpr q))
      rw [if_pos cw2, sf_2 hf8] at hsd
      have hg := hg (some (.int f)) (some (.int (f &&& -f))) (some (.int (f &&& ((f &&& -f) ^^^ -1)))) (some (.int ((f &&& ((f &&& -f) ^^^ -1)) &&& -(f &&& ((f &&& -f) ^^^ -1))))) _ hsd.symm
      simp only [q115_55, q115_57, q115_59, q115_61, q115_62, q115_63, q115_65, q115_67, q115_69, q115_70, q115_71, q115_72, q115_74, q115_76, q115_78, q115_79, q115_80, q115_81, q115_84, q115_86, q115_88, q115_89, q115_90, q115_93, q115_94, q115_96, q115_98, q115_99, q115_101, q115_102, q115_103, q115_106, q115_108, q115_110, q115_111, k_14 hS, z_14, as_nil, as_i, as_r, Nat.reduceAdd, Nat.reduceLeDiff, z_eq0, z_eq1, z_or, z_em, Classical.not_not, not_false_eq_true, not_true_eq_false, true_and, and_true, false_and, and_false, and_self, true_implies, false_implies, implies_true, Option.toList_some, Option.toList_none, List.cons_append, List.nil_append, Nat.add_eq_zero_iff, a_nl_i, a_nl_r, a_nl_n, true_or, or_true, eq_self, a_isRA_22, a_isRA_24, a_isRA_32, a_isA_20, ok_4, ok_5, ok_6, ok_7, ok_9, ok_20, ok_21, ok_30, ok_50, ok_180, ok_192, ok_200, ha, a0, cw, e4, b0]
      try simp only [true_and, and_true, true_implies, false_implies, implies_true, not_true_eq_false, not_false_eq_true]
      first
        | exact hg
        | exact ⟨kb, hg⟩
  have h200 : x < z → 0 ≤ s + x ∧ s + x < 200 := fun c => by
    exact ((sh_lt hs y10 hsl ⟨h0, h1⟩).1 c).1
  clear ih hP fr hw hJ hc ap al am hJL
  rw [q115_26]
  repeat' first
    | with_reducible apply And.intro
    | with_reducible assumption
    | with_reducible intro _
    | refine hexit ?_
    | refine hcall ?_
    | simp only [q115_28, q115_29, q115_32, q115_35, q115_36, q115_38, q115_39, q115_42, q115_45, q115_46, q115_47, q115_48, q115_49, q115_51, q115_52, q115_120, k_14 hS, z_14, sp_isShiftC, as_nil, as_i, as_r, Nat.reduceAdd, Nat.reduceLeDiff, z_eq0, z_eq1, z_or, z_em, Classical.not_not, not_false_eq_true, not_true_eq_false, true_and, and_true, false_and, and_false, and_self, true_implies, false_implies, implies_true, Option.toList_some, Option.toList_none, List.cons_append, List.nil_append, Nat.add_eq_zero_iff, a_nl_i, a_nl_r, a_nl_n, true_or, or_true, eq_self, a_isRA_22, a_isRA_24, a_isRA_32, a_isA_20, ok_4, ok_5, ok_6, ok_7, ok_9, ok_20, ok_21, ok_30, ok_50, ok_180, ok_192, ok_200, ha, a0, e2]
  all_goals ((try clear hexit); (try clear hcall); (try clear hS); (try clear hT); (try clear hT0); grind [ui_ap])
/-- other asks stay as they are -/
def aZ (K : Nat → Nat) (a : Nat) (I J : Nat → Nat → Int32) : Prop := ∀ x j, K x = 1 → ¬ x = a → J x j = I x j
theorem ce_lay (hT : cT C K L I R) (hc : cpP C K L I R Y) (hse : seP C R Y) {a : Nat} {i : Int32} (ap : aaP C K I Y i a) (haa : (R (C + 15) i.toNatClampNeg) = a) {b s w : Int32} (hb : 0 ≤ b ∧ b < Y 0 6) (hs : 0 ≤ s ∧ s ≤ 199) (hsl : s + Y 10 i.toNatClampNeg ≤ 200) (un : ¬ 0 ≤ Y 20 i.toNatClampNeg) (fr : ∀ z : Int32, 0 ≤ z → z < Y 10 i.toNatClampNeg → whC C I R b (s + z).toNatClampNeg = -9) (hw : ∀ z : Int32, 0 ≤ z → z < Y 10 i.toNatClampNeg → ((w >>> (z &&& 31)) &&& 1 = 0 ↔ ¬ 0 ≤ wtA Y 87 i b (s + z))) (hP : ∀ J, dL C K L R I J → cpP C K L J R (puY Y i b s) → (∀ x j, K x = 20 → ¬ x = (R (C + 16) b.toNatClampNeg) + 1 → ¬ x = (R (C + 16) b.toNatClampNeg) + 2 → J x j = I x j) → aZ K a I J → P none (n, t, K, L, J, R)) : a_does (d + 4) 115 [a_rf (C + 14), a_rf a, .int b, .int s, .int w] (n, t, K, L, I, R) P := by
  have hS := hT.s
  obtain ⟨ai, ⟨ha, an0, a4n⟩, am, al⟩ := id ap
  obtain ⟨a1, a2, a4, a3⟩ := hT.g_ask a ha
  have a0 : (a = 0) = False := eq_false an0
  have gA := hT.g_asksR
  have gB := hT.g_benchesR
  have gX := hT.g_textsR
  have hy := hc.2.2.2.2
  have y10 := hy.2.1 i.toNatClampNeg
  have s200 : 0 ≤ s ∧ s ≤ 200 := ⟨hs.1, Int32.le_trans hs.2 (by decide)⟩
  obtain ⟨kb, kb0, kb5, kb6⟩ := hc.2.1.2.2.1 b hb.1 hb.2
  obtain ⟨eB2, eB3, -⟩ := hse.1 b hb.1 hb.2
  obtain ⟨bB, ⟨w1, w2, w3⟩, ⟨s1, s2, s3⟩, -⟩ := hT.g_bnc _ kb
  have aB1 : ¬ (R (C + 16) b.toNatClampNeg) + 1 = a := fun e => by rw [eB2, e, ha] at w2; cases w2
  have aB2 : ¬ (R (C + 16) b.toNatClampNeg) + 2 = a := fun e => by rw [eB3, e, ha] at s2; cases s2
  have b6 : b < 6 := Int32.lt_of_lt_of_le hb.2 hy.2.2.2.2.2.1.2
  have hbc : 0 ≤ b ∧ b < I (C + 14) 5 ∧ b < 6 := ⟨hb.1, by rw [hc.2.1.1]; exact hb.2, b6⟩
  have hpl : 0 ≤ b → 0 ≤ s ∧ s ≤ 199 ∧ s + I a 2 ≤ 200 := fun _ => ⟨hs.1, hs.2, by rw [al.1.2.2.1]; exact hsl⟩
  have hL0 := dL_place (w := b) (v := s) (dL_refl hT) a1 ha hpl
  have hl := le_lay_26 (d := d) (n := n) (t := t) (P := P) (w := w) hT hc hse ap hb s200 hsl un fr hw (fun J hJL hJ => by
    have B1 : K ((R (C + 16) b.toNatClampNeg) + 1) = 20 := by rw [← eB2]; exact w2
    have B2 : K ((R (C + 16) b.toNatClampNeg) + 2) = 20 := by rw [← eB3]; exact s2
    have f20 : ∀ x j, K x = 20 → ¬ x = (R (C + 16) b.toNatClampNeg) + 1 → ¬ x = (R (C + 16) b.toNatClampNeg) + 2 → J x j = I x j := fun x j kx n1 n2 => by
      rw [hJ, ly_k (fun q => by rw [q.1, ha] at kx; cases kx) n1 n2]
    have fk : ∀ x j, ¬ K x = 20 → ¬ (x = a ∧ (j = 13 ∨ j = 14)) → J x j = I x j := fun x j kx n1 => by
      rw [hJ, ly_k n1 (fun e => kx (by rw [e]; exact B1)) (fun e => kx (by rw [e]; exact B2))]
    have cin : ∀ k, k ≤ 43 → ∀ j, J (C + k) j = I (C + k) j := fun k hk j => by
      rw [hJ, ly_k (by omega) (by omega) (by omega)]
    refine hP J hJL (cp_mk hT hc puY_b (inP_pu hy.2.2.2.2.2.2.1 ⟨hs.1, Int32.le_trans hs.2 (by decide), hsl⟩ (by clear hJ hP fr hw; grind)) (fun _ _ => ⟨rfl, rfl⟩) (fun _ _ _ _ _ _ _ => rfl) (fun k j hk => cin k (by omega) j) (fun x j kx n1 n2 => fk x j (by rw [kx]; decide) (by omega)) (fun x j kx _ => fk x j (by rw [kx]; decide) (fun q => by rw [q.1, ha] at kx; cases kx)) (fun x j kx => fk x j (by rw [kx]; decide) (fun q => by rw [q.1, ha] at kx; cases kx)) (fun k k0 k1 j => ?_) (fun o o0 o1 => ?_) ?_) f20 (fun x j kx hx => fk x j (by rw [kx]; decide) (fun q => hx q.1))
    · have hk := (hc.2.2.2.1.2 k k0 k1).1
      obtain ⟨q, -⟩ := hse.2.2.1 k b k0 k1 hb.1 hb.2
      exact f20 _ _ (hT.g_txt _ hk).2.2.1 (by omega) (by omega)
    · have ao := hc.2.2.1.2.1 o o0 o1
      by_cases e : o = i
      · have ea : R (C + 15) o.toNatClampNeg = a := by rw [e]; exact haa
        rw [ea, hJ, hJ, e, pu_pp, pp_20, pp_21]
        unfold lyI
        rw [if_pos ⟨rfl, rfl⟩, if_neg (by omega), if_pos ⟨rfl, rfl⟩]
        exact ⟨rfl, rfl⟩
      · have ea : ¬ R (C + 15) o.toNatClampNeg = a := fun q => e (by rw [← ao.2.2, q]; exact a4n)
        have hne : ¬ o.toNatClampNeg = i.toNatClampNeg := fun q => e (cl_inj o0 ai.1 q)
        rw [fk _ _ (by rw [ao.1]; decide) (fun q => ea q.1), fk _ _ (by rw [ao.1]; decide) (fun q => ea q.1), pu_pp, pp_o (Or.inr ⟨hne, by omega⟩), pp_o (Or.inr ⟨hne, by omega⟩)]
        exact (hc.2.2.1.2.2.2 o o0 o1).2.2.2.1
    · rw [pu_pp]
      exact ly_pl hT hc hse ap hb s200 y10 hsl un fr hJ) 0 (by decide) (a_ui (a_ui I a 13 b) a 14 s) none none none none (by decide) y10.1 hL0 (fun y j => by
    unfold lyI
    rw [ui_ap, ui_ap, show (0 : Int32).toNatClampNeg = 0 from rfl]
    by_cases e1 : y = a ∧ j = 13
    · rw [if_neg (by omega), if_pos e1, if_pos e1]
    · by_cases e2 : y = a ∧ j = 14
      · rw [if_pos e2, if_neg e1, if_pos e2]
      · rw [if_neg e2, if_neg e1, if_neg e1, if_neg e2, if_neg (by omega), if_neg (by omega)])
  clear hP fr hw hL0 hpl
  rw [a_enter1 (M := a_m115) rfl (a_cat_rf (a_cat_rf (a_cat_int (a_cat_int (a_cat_int a_cat_nil))))) (show 5 ≤ 11 by decide)]
  show a_at _ (a_xm a_m115) 0 [some (a_rf (C + 14)), some (a_rf a), some (.int b), some (.int s), some (.int w), none, none, none, none, none, none] [] _ _
  simp only [q115_0, q115_1, q115_2, q115_5, q115_7, q115_9, q115_12, q115_13, q115_14, q115_15, q115_18, q115_19, q115_20, q115_23, q115_24, k_14 hS, z_14, sp_benchAt hS gB, as_nil, as_i, as_r, Nat.reduceAdd, Nat.reduceLeDiff, z_eq0, z_eq1, z_or, z_em, Classical.not_not, not_false_eq_true, not_true_eq_false, true_and, and_true, false_and, and_false, and_self, true_implies, false_implies, implies_true, Option.toList_some, Option.toList_none, List.cons_append, List.nil_append, Nat.add_eq_zero_iff, a_nl_i, a_nl_r, a_nl_n, true_or, or_true, eq_self, a_isRA_22, a_isRA_24, a_isRA_32, a_isA_20, ok_4, ok_5, ok_6, ok_7, ok_9, ok_20, ok_21, ok_30, ok_50, ok_180, ok_192, ok_200, ha, a0, hbc, kb, kb0]
  try simp only [true_and, and_true, true_implies, false_implies, implies_true, not_true_eq_false, not_false_eq_true]
  exact hl
end YZ
end
section
/-! the class: lifting, the past, placing, taking back -/
section YA0
variable {d n t C c : Nat} {K L : Nat → Nat} {I I0 J J0 J1 J2 : Nat → Nat → Int32} {R : Nat → Nat → Nat} {P : Option Value → AH → Prop}
variable {Y Z : Nat → Nat → Int32}
/-- the cells that the class's coupling looks at stay: it stays -/
theorem cp_fr (hT : cT C K L I R) (hc : cpP C K L I R Y) (f1 : ∀ k j, (k = 1 ∨ k = 2 ∨ k = 3 ∨ k = 7 ∨ k = 14) → J (C + k) j = I (C + k) j) (f2 : ∀ x j, K x = 1 → J x j = I x j) (f3 : ∀ x j, K x = 3 → ¬ j = 6 → J x j = I x j) (f4 : ∀ x j, K x = 11 → J x j = I x j) (f5 : ∀ k : Int32, 0 ≤ k → k < Y 0 41 → ∀ j, J (R (R (C + 8) k.toNatClampNeg) 2) j = I (R (R (C + 8) k.toNatClampNeg) 2) j) (f6 : ∀ b : Int32, 0 ≤ b → b < Y 0 6 → ∀ j, J (R (R (C + 16) b.toNatClampNeg) 2) j = I (R (R (C + 16) b.toNatClampNeg) 2) j ∧ J (R (R (C + 16) b.toNatClampNeg) 3) j = I (R (R (C + 16) b.toNatClampNeg) 3) j) : cpP C K L J R Y :=
  cp_mk hT hc (fun _ _ _ => rfl) hc.2.2.2.2.2.2.2.2.2.2.1 (fun _ _ => ⟨rfl, rfl⟩) (fun _ _ _ _ _ _ _ => rfl) f1 (fun x j kx _ _ => f2 x j kx) f3 f4 f5 (fun o o0 o1 => by
    have ao := hc.2.2.1.2.1 o o0 o1
    rw [f2 _ _ ao.1, f2 _ _ ao.1]
    exact (hc.2.2.1.2.2.2 o o0 o1).2.2.2.1) (plP_eq hc.2.1.2.2.2 (fun b b0 b1 => funext (fun j => (f6 b b0 b1 j).1)) (fun b b0 b1 => funext (fun j => (f6 b b0 b1 j).2)))
theorem le_watchOf_6 (hT0 : cT C K L I R) (hc : cpP C K L I R Y) {a : Nat} {i : Int32} (ap : aaP C K I Y i a) {b s : Int32} (hs : 0 ≤ s ∧ s ≤ 199) (hsl : s + Y 10 i.toNatClampNeg ≤ 200) (hP : ∀ w J, dC C K L R I J → (∀ z : Int32, 0 ≤ z → z < Y 10 i.toNatClampNeg → ((w >>> (z &&& 31)) &&& 1 = 0 ↔ ¬ 0 ≤ wtA Y 87 i b (s + z))) → P (some (.int w)) (n, t, K, L, J, R)) : ∀ x : Int32, x ≤ 4 → ∀ J w, dC C K L R I J → 0 ≤ x → x ≤ Y 10 i.toNatClampNeg → (∀ k, k < 32 → (bq w k = true ↔ (k < x.toNatClampNeg ∧ 0 ≤ wtA Y 87 i b (s + Int32.ofNat k)))) → a_at (d + 4) (a_xm a_m114) 6 [some (a_rf (C + 14)), some (a_rf a), some (.int b), some (.int s), some (.int w), some (.int x)] [] (n, t, K, L, J, R) P := by
  have y10 := hc.2.2.2.2.2.1 i.toNatClampNeg
  have y41 := hc.2.2.2.2.1
  refine up_ind 4 (fun x x4 ih => ?_)
  intro J w hJ h0 h1 hw
  have hT := hJ.1
  have hcJ := cpP_C hT0 hc hJ
  have apJ := aaP_C hT0 ap hJ
  have hS := hT.s
  obtain ⟨ai, ⟨ha, an0, a4n⟩, am, al⟩ := id apJ
  have a0 : (a = 0) = False := eq_false an0
  have e2 : J a 2 = Y 10 i.toNatClampNeg := al.1.2.2.1
  generalize ez : Y 10 i.toNatClampNeg = z at y10 h1 ih e2 hP hsl
  have hexit : ¬ x < z → P (some (.int w)) (n, t, K, L, J, R) := fun q => by
    have e := (lp_end h1 q).2
    subst e
    refine hP w J hJ (fun y y0 y1 => ?_)
    have hlt := cl_lt y0 y1
    have h32 : y.toNatClampNeg < 32 := by
      have := lt4 (i := y) ⟨y0, Int32.lt_of_lt_of_le y1 y10.2⟩
      omega
    have hb := hw _ h32
    rw [← on_cl y0] at hb
    have hbit : (w >>> (y &&& 31)) &&& 1 = 0 ↔ bq w y.toNatClampNeg = false := by
      have hq := bq_at h32 w
      rw [← on_cl y0] at hq
      exact hq
    rw [hbit]
    refine ⟨fun e c => ?_, fun c => ?_⟩
    · rw [hb.mpr ⟨hlt, c⟩] at e
      cases e
    · cases e : bq w y.toNatClampNeg with
      | false => rfl
      | true => exact absurd (hb.mp e).2 c
  have hcall : x < z → a_does (d + 4) 86 [a_rf (C + 7), .int 87, a_rf a, .int b, .int (s + x)] (n, t, K, L, J, R) (fun r h' => a_at (d + 4) (a_xm a_m114) 30 [some (a_rf (C + 14)), some (a_rf a), some (.int b), some (.int s), some (.int w), some (.int x)] (r.toList ++ []) h' P) := fun q => by
    obtain ⟨t1, t2, t3, t4⟩ := lp_st h0 q
    have hx4 : 0 ≤ x ∧ x < 4 := ⟨h0, Int32.lt_of_lt_of_le q y10.2⟩
    have hx := lt4 hx4
    obtain ⟨n1, n2, n3⟩ := sh_at hs.1 (Int32.le_trans hs.2 (by decide)) (i := x) ⟨h0, Int32.le_of_lt hx4.2⟩
    refine ce_leastA (d := d + 1) hT hcJ apJ ⟨n2, ((sh_lt ⟨hs.1, Int32.le_trans hs.2 (by decide)⟩ y10 hsl ⟨h0, Int32.le_of_lt q⟩).1 q).2⟩ (fun J2 c2 => ?_)
    have hS2 := c2.1.s
    have eo : Int32.ofNat x.toNatClampNeg = x := (on_cl h0).symm
    by_cases cw : 0 ≤ wtA Y 87 i b (s + x)
    · have cw' : ¬ wtA Y 87 i b (s + x) = -9 := by rw [wtA_rng y41]; exact fun q => q cw
      have hg := ih (by clear ih hP hexit hw; grind) J2 (w ||| ((1 : Int32) <<< (x &&& 31))) (dC_C hJ c2) t2 t3 (fun k hk => by
        have hset := bq_set (k := x.toNatClampNeg) (i := k) (by omega) hk w
        rw [eo] at hset
        rw [hset, t4, Bool.or_eq_true, hw k hk]
        refine ⟨fun r => ?_, fun r => ?_⟩
        · rcases r with r | r
          · exact ⟨by omega, r.2⟩
          · have r := of_decide_eq_true r
            rw [r, eo]
            exact ⟨by omega, cw⟩
        · by_cases e : k = x.toNatClampNeg
          · exact Or.inr (decide_eq_true e)
          · exact Or.inl ⟨by omega, r.2⟩)
      clear ih hP hexit hw hc ap hcJ apJ al am
      simp only [q114_30, q114_32, q114_35, q114_37, q114_38, q114_40, q114_41, q114_42, q114_44, q114_47, as_nil, as_i, as_r, Nat.reduceAdd, Nat.reduceLeDiff, z_eq0, z_eq1, z_or, z_em, Classical.not_not, not_false_eq_true, not_true_eq_false, true_and, and_true, false_and, and_false, and_self, true_implies, false_implies, implies_true, Option.toList_some, Option.toList_none, List.cons_append, List.nil_append, Nat.add_eq_zero_iff, a_nl_i, a_nl_r, a_nl_n, true_or, or_true, eq_self, a_isRA_22, a_isRA_24, a_isRA_32, a_isA_20, ok_4, ok_5, ok_6, ok_7, ok_9, ok_20, ok_21, ok_30, ok_50, ok_180, ok_192, ok_200, cw']
      first
        | exact hg
        | grind
    · have cw' : wtA Y 87 i b (s + x) = -9 := by rw [wtA_rng y41]; exact cw
      have hg := ih (by clear ih hP hexit hw; grind) J2 w (dC_C hJ c2) t2 t3 (fun k hk => by
        rw [t4, hw k hk]
        refine ⟨fun r => ⟨by omega, r.2⟩, fun r => ⟨?_, r.2⟩⟩
        by_cases e : k = x.toNatClampNeg
        · rw [e, eo] at r
          exact absurd r.2 cw
        · omega)
      clear ih hP hexit hw hc ap hcJ apJ al am
      simp only [q114_30, q114_32, q114_35, q114_37, q114_38, q114_40, q114_41, q114_42, q114_44, q114_47, as_nil, as_i, as_r, Nat.reduceAdd, Nat.reduceLeDiff, z_eq0, z_eq1, z_or, z_em, Classical.not_not, not_false_eq_true, not_true_eq_false, true_and, and_true, false_and, and_false, and_self, true_implies, false_implies, implies_true, Option.toList_some, Option.toList_none, List.cons_append, List.nil_append, Nat.add_eq_zero_iff, a_nl_i, a_nl_r, a_nl_n, true_or, or_true, eq_self, a_isRA_22, a_isRA_24, a_isRA_32, a_isA_20, ok_4, ok_5, ok_6, ok_7, ok_9, ok_20, ok_21, ok_30, ok_50, ok_180, ok_192, ok_200, cw']
      first
        | exact hg
        | grind
  clear ih hP hw hc ap hcJ apJ al am
  rw [q114_6]
  repeat' first
    | with_reducible apply And.intro
    | with_reducible assumption
    | with_reducible intro _
    | refine hexit ?_
    | refine hcall ?_
    | simp only [q114_8, q114_9, q114_12, q114_15, q114_16, q114_19, q114_21, q114_22, q114_23, q114_24, q114_26, q114_27, q114_50, q114_52, k_14 hS, z_14, r_14_1 hS, k_7 hS, z_7, as_nil, as_i, as_r, Nat.reduceAdd, Nat.reduceLeDiff, z_eq0, z_eq1, z_or, z_em, Classical.not_not, not_false_eq_true, not_true_eq_false, true_and, and_true, false_and, and_false, and_self, true_implies, false_implies, implies_true, Option.toList_some, Option.toList_none, List.cons_append, List.nil_append, Nat.add_eq_zero_iff, a_nl_i, a_nl_r, a_nl_n, true_or, or_true, eq_self, a_isRA_22, a_isRA_24, a_isRA_32, a_isA_20, ok_4, ok_5, ok_6, ok_7, ok_9, ok_20, ok_21, ok_30, ok_50, ok_180, ok_192, ok_200, ha, a0, e2]
  all_goals ((try clear hexit); (try clear hcall); (try clear hS); (try clear hT); (try clear hT0); grind [ui_ap])
theorem ce_watchOf (hT : cT C K L I R) (hc : cpP C K L I R Y) {a : Nat} {i : Int32} (ap : aaP C K I Y i a) {b s : Int32} (hs : 0 ≤ s ∧ s ≤ 199) (hsl : s + Y 10 i.toNatClampNeg ≤ 200) (hP : ∀ w J, dC C K L R I J → (∀ z : Int32, 0 ≤ z → z < Y 10 i.toNatClampNeg → ((w >>> (z &&& 31)) &&& 1 = 0 ↔ ¬ 0 ≤ wtA Y 87 i b (s + z))) → P (some (.int w)) (n, t, K, L, J, R)) : a_does (d + 5) 114 [a_rf (C + 14), a_rf a, .int b, .int s] (n, t, K, L, I, R) P := by
  have hS := hT.s
  have hl := le_watchOf_6 (d := d) (n := n) (t := t) (P := P) hT hc ap (b := b) hs hsl hP 0 (by decide) I 0 (dC_refl hT) (by decide) (hc.2.2.2.2.2.1 i.toNatClampNeg).1 (fun k hk => by
    rw [bq_0, show (0 : Int32).toNatClampNeg = 0 from rfl]
    exact ⟨fun q => absurd q Bool.false_ne_true, fun q => absurd q.1 (Nat.not_lt_zero k)⟩)
  clear hP hc ap
  rw [a_enter1 (M := a_m114) rfl (a_cat_rf (a_cat_rf (a_cat_int (a_cat_int a_cat_nil)))) (show 4 ≤ 6 by decide)]
  show a_at _ (a_xm a_m114) 0 [some (a_rf (C + 14)), some (a_rf a), some (.int b), some (.int s), none, none] [] _ _
  simp only [q114_0, q114_1, q114_3, q114_4, as_nil, as_i, as_r, Nat.reduceAdd, Nat.reduceLeDiff, z_eq0, z_eq1, z_or, z_em, Classical.not_not, not_false_eq_true, not_true_eq_false, true_and, and_true, false_and, and_false, and_self, true_implies, false_implies, implies_true, Option.toList_some, Option.toList_none, List.cons_append, List.nil_append, Nat.add_eq_zero_iff, a_nl_i, a_nl_r, a_nl_n, true_or, or_true, eq_self, a_isRA_22, a_isRA_24, a_isRA_32, a_isA_20, ok_4, ok_5, ok_6, ok_7, ok_9, ok_20, ok_21, ok_30, ok_50, ok_180, ok_192, ok_200]
  exact hl
/-- the heap with x SHIFTS of a place lifted -/
def lfI (I : Nat → Nat → Int32) (B : Nat) (s x : Int32) : Nat → Nat → Int32 := fun y j => if y = B + 1 ∧ s.toNatClampNeg ≤ j ∧ j < s.toNatClampNeg + x.toNatClampNeg then -9 else if y = B + 2 ∧ s.toNatClampNeg ≤ j ∧ j < s.toNatClampNeg + x.toNatClampNeg then 0 else I y j
theorem lf_step {B : Nat} {s x : Int32} (hs : 0 ≤ s ∧ s ≤ 200) (hx : 0 ≤ x ∧ x < 4) (hJ : ∀ y j, J y j = lfI I B s x y j) (y j : Nat) : a_ui (a_ui J (B + 1) (s + x).toNatClampNeg (-9)) (B + 2) (s + x).toNatClampNeg 0 y j = lfI I B s (x + 1) y j := by
  obtain ⟨e1, -, -⟩ := sh_at hs.1 hs.2 ⟨hx.1, Int32.le_of_lt hx.2⟩
  have e2 : (x + 1).toNatClampNeg = x.toNatClampNeg + 1 := (lp_st hx.1 hx.2).2.2.2
  rw [ui_ap, ui_ap, hJ]
  unfold lfI
  rw [e1, e2]
  generalize s.toNatClampNeg = u
  generalize x.toNatClampNeg = w
  clear hJ e1 e2
  have f12 : ¬ B + 1 = B + 2 := by omega
  have f21 : ¬ B + 2 = B + 1 := by omega
  by_cases c1 : y = B + 1
  · subst c1
    simp only [f12, false_and, if_false, true_and]
    grind
  · by_cases c2 : y = B + 2
    · subst c2
      simp only [f21, false_and, if_false, true_and]
      grind
    · simp only [c1, c2, false_and, if_false]
theorem le_lift_14 (hT0 : cT C K L I R) {a B : Nat} (ha : K a = 1) (kb : K B = 3) (eB2 : R B 2 = B + 1) (eB3 : R B 3 = B + 2) {s z : Int32} (hs : 0 ≤ s ∧ s ≤ 200) (hz : 0 ≤ z ∧ z ≤ 4) (hsz : s + z ≤ 200) (e14 : I a 14 = s) (e2 : I a 2 = z) (hP : ∀ J, dL C K L R I J → (∀ y j, J y j = lfI I B s z y j) → P none (n, t, K, L, (a_ui (a_ui J a 13 (-9)) a 14 (-9)), R)) : ∀ x : Int32, x ≤ 4 → ∀ J y, 0 ≤ x → x ≤ z → y = s + x → dL C K L R I J → (∀ y j, J y j = lfI I B s x y j) → a_at (d + 3) (a_xm a_m51) 14 [some (a_rf (C + 14)), some (a_rf a), some (a_rf B), some (.int y)] [] (n, t, K, L, J, R) P := by
  obtain ⟨bB, ⟨w1, w2, w3⟩, ⟨s1, s2, s3⟩, -⟩ := hT0.g_bnc _ kb
  have a1 := (hT0.g_ask a ha).1
  have aB1 : ¬ a = B + 1 := fun e => by rw [eB2, ← e, ha] at w2; cases w2
  have aB2 : ¬ a = B + 2 := fun e => by rw [eB3, ← e, ha] at s2; cases s2
  refine up_ind 4 (fun x x4 ih => ?_)
  intro J y h0 h1 ey hJL hJ
  have hT := hJL.1
  have hS := hT.s
  have f2 : J a 2 = z := by rw [dL_at hJL hT0 ha 2 (by decide) (by decide)]; exact e2
  have f14 : J a 14 = s := by
    rw [hJ]
    unfold lfI
    rw [if_neg (by omega), if_neg (by omega)]
    exact e14
  have a0 : (a = 0) = False := eq_false (by omega)
  have b0 : (B = 0) = False := eq_false (by omega)
  have hexit : ¬ y ≤ s + z - 1 → P none (n, t, K, L, (a_ui (a_ui J a 13 (-9)) a 14 (-9)), R) := fun w => by
    have e : x = z := by clear ih hP hJ; grind
    subst e
    exact hP J hJL hJ
  have hlt : y ≤ s + z - 1 → x < z := fun w => by clear ih hP hJ hexit; grind
  have hy : y ≤ s + z - 1 → 0 ≤ y ∧ y < 200 := fun w => by
    rw [ey]
    exact ((sh_lt hs hz hsz ⟨h0, h1⟩).1 (hlt w)).1
  have hcall : y ≤ s + z - 1 → a_does (d + 3) 52 [a_rf B, .int y, .int (-9), .int 0] (n, t, K, L, J, R) (fun r h' => a_at (d + 3) (a_xm a_m51) 41 [some (a_rf (C + 14)), some (a_rf a), some (a_rf B), some (.int y)] (r.toList ++ []) h' P) := fun w => by
    have c := hlt w
    obtain ⟨t1, t2, t3, t4⟩ := lp_st h0 c
    have hy2 := hy w
    refine cp_settle kb hT hy2 ?_
    rw [eB2, eB3, ey]
    have hg := ih (by clear ih hP hexit hJ; grind) (a_ui (a_ui J (B + 1) (s + x).toNatClampNeg (-9)) (B + 2) (s + x).toNatClampNeg 0) (s + x + 1) t2 t3 (by clear ih hP hexit hJ; grind) (dL_arr (dL_arr hJL (by rw [← eB2]; exact w1) (by rw [← eB2]; exact w2)) (by rw [← eB3]; exact s1) (by rw [← eB3]; exact s2)) (fun y j => lf_step hs ⟨h0, Int32.lt_of_lt_of_le c hz.2⟩ hJ y j)
    clear ih hP hexit hJ
    simp only [q51_41, q51_44, as_nil, as_i, as_r, Nat.reduceAdd, Nat.reduceLeDiff, z_eq0, z_eq1, z_or, z_em, Classical.not_not, not_false_eq_true, not_true_eq_false, true_and, and_true, false_and, and_false, and_self, true_implies, false_implies, implies_true, Option.toList_some, Option.toList_none, List.cons_append, List.nil_append, Nat.add_eq_zero_iff, a_nl_i, a_nl_r, a_nl_n, true_or, or_true, eq_self, a_isRA_22, a_isRA_24, a_isRA_32, a_isA_20, ok_4, ok_5, ok_6, ok_7, ok_9, ok_20, ok_21, ok_30, ok_50, ok_180, ok_192, ok_200]
    exact hg
  clear ih hP hJ hJL
  rw [q51_14]
  repeat' first
    | with_reducible apply And.intro
    | with_reducible assumption
    | with_reducible intro _
    | refine hexit ?_
    | refine hcall ?_
    | simp only [q51_15, q51_18, q51_19, q51_20, q51_23, q51_26, q51_27, q51_30, q51_33, q51_34, q51_35, q51_37, q51_38, q51_47, q51_48, q51_50, q51_53, q51_54, q51_56, q51_59, k_14 hS, z_14, sp_last, sp_isShiftC, as_nil, as_i, as_r, Nat.reduceAdd, Nat.reduceLeDiff, z_eq0, z_eq1, z_or, z_em, Classical.not_not, not_false_eq_true, not_true_eq_false, true_and, and_true, false_and, and_false, and_self, true_implies, false_implies, implies_true, Option.toList_some, Option.toList_none, List.cons_append, List.nil_append, Nat.add_eq_zero_iff, a_nl_i, a_nl_r, a_nl_n, true_or, or_true, eq_self, a_isRA_22, a_isRA_24, a_isRA_32, a_isA_20, ok_4, ok_5, ok_6, ok_7, ok_9, ok_20, ok_21, ok_30, ok_50, ok_180, ok_192, ok_200, ha, a0, b0, f2, f14]
  all_goals ((try clear hexit); (try clear hcall); (try clear hS); (try clear hT); (try clear hT0); grind [ui_ap])
theorem ce_lift (hT : cT C K L I R) (hc : cpP C K L I R Y) (hse : seP C R Y) {a : Nat} {i : Int32} (ap : aaP C K I Y i a) (haa : (R (C + 15) i.toNatClampNeg) = a) (pa : 0 ≤ Y 20 i.toNatClampNeg) (hP : ∀ J, dL C K L R I J → cpP C K L J R (unY Y i) → (∀ x j, K x = 20 → ¬ x = (R (C + 16) (Y 20 i.toNatClampNeg).toNatClampNeg) + 1 → ¬ x = (R (C + 16) (Y 20 i.toNatClampNeg).toNatClampNeg) + 2 → J x j = I x j) → aZ K a I J → P none (n, t, K, L, J, R)) : a_does (d + 4) 51 [a_rf (C + 14), a_rf a] (n, t, K, L, I, R) P := by
  have hS := hT.s
  obtain ⟨ai, ⟨ha, an0, a4n⟩, am, al⟩ := id ap
  obtain ⟨a1, a2, a4, a3⟩ := hT.g_ask a ha
  have a0 : (a = 0) = False := eq_false an0
  have gA := hT.g_asksR
  have gB := hT.g_benchesR
  have gX := hT.g_textsR
  have hy := hc.2.2.2.2
  have y10 := hy.2.1 i.toNatClampNeg
  have e13 : I a 13 = Y 20 i.toNatClampNeg := al.2.2.2.1.1
  have e14 : I a 14 = Y 21 i.toNatClampNeg := al.2.2.2.1.2
  have i30 : i.toNatClampNeg < 30 := a_lt30 ⟨ai.1, Int32.lt_of_lt_of_le ai.2 hy.2.2.2.2.1.2⟩
  obtain ⟨⟨p21, p200, psl⟩, p5⟩ := hy.2.2.2.2.2.2.1 _ i30 pa
  have p6 : Y 20 i.toNatClampNeg < Y 0 6 := (hc.2.1.2.2.2.1 i ai.1 ai.2 pa).1
  have s200 : 0 ≤ Y 21 i.toNatClampNeg ∧ Y 21 i.toNatClampNeg ≤ 200 := ⟨p21, p200⟩
  obtain ⟨kb, kb0, kb5, kb6⟩ := hc.2.1.2.2.1 _ pa p6
  obtain ⟨eB2, eB3, -⟩ := hse.1 _ pa p6
  obtain ⟨bB, ⟨w1, w2, w3⟩, ⟨s1, s2, s3⟩, -⟩ := hT.g_bnc _ kb
  have B1 : K ((R (C + 16) (Y 20 i.toNatClampNeg).toNatClampNeg) + 1) = 20 := by rw [← eB2]; exact w2
  have B2 : K ((R (C + 16) (Y 20 i.toNatClampNeg).toNatClampNeg) + 2) = 20 := by rw [← eB3]; exact s2
  have b6 : Y 20 i.toNatClampNeg < 6 := Int32.lt_of_lt_of_le p6 hy.2.2.2.2.2.1.2
  have hbc : 0 ≤ Y 20 i.toNatClampNeg ∧ Y 20 i.toNatClampNeg < I (C + 14) 5 ∧ Y 20 i.toNatClampNeg < 6 := ⟨pa, by rw [hc.2.1.1]; exact p6, b6⟩
  have rows : ∀ c : Int32, 0 ≤ c → c < Y 0 6 → R (R (C + 16) c.toNatClampNeg) 2 = R (C + 16) c.toNatClampNeg + 1 ∧ R (R (C + 16) c.toNatClampNeg) 3 = R (C + 16) c.toNatClampNeg + 2 ∧ ¬ R (C + 16) c.toNatClampNeg + 1 = a ∧ ¬ R (C + 16) c.toNatClampNeg + 2 = a := fun c c0 c1 => by
    obtain ⟨e1, e2, -⟩ := hse.1 c c0 c1
    have kc := (hc.2.1.2.2.1 c c0 c1).1
    obtain ⟨-, ⟨-, w1, -⟩, ⟨-, w2, -⟩, -⟩ := hT.g_bnc _ kc
    refine ⟨e1, e2, fun e => ?_, fun e => ?_⟩
    · rw [e1, e, ha] at w1
      cases w1
    · rw [e2, e, ha] at w2
      cases w2
  have hl := le_lift_14 (d := d) (n := n) (t := t) (P := P) hT ha kb eB2 eB3 s200 y10 psl e14 al.1.2.2.1 (fun J hJL hJ => by
    have hJa : ∀ x j, ¬ (x = a ∧ (j = 13 ∨ j = 14)) → a_ui (a_ui J a 13 (-9)) a 14 (-9) x j = lfI I (R (C + 16) (Y 20 i.toNatClampNeg).toNatClampNeg) (Y 21 i.toNatClampNeg) (Y 10 i.toNatClampNeg) x j := fun x j q => by
      rw [ui_ap, if_neg (by omega), ui_ap, if_neg (by omega), hJ]
    have f20 : ∀ x j, K x = 20 → ¬ x = (R (C + 16) (Y 20 i.toNatClampNeg).toNatClampNeg) + 1 → ¬ x = (R (C + 16) (Y 20 i.toNatClampNeg).toNatClampNeg) + 2 → a_ui (a_ui J a 13 (-9)) a 14 (-9) x j = I x j := fun x j kx n1 n2 => by
      rw [hJa x j (fun q => by rw [q.1, ha] at kx; cases kx)]
      unfold lfI
      rw [if_neg (fun q => n1 q.1), if_neg (fun q => n2 q.1)]
    have fk : ∀ x j, ¬ K x = 20 → ¬ (x = a ∧ (j = 13 ∨ j = 14)) → a_ui (a_ui J a 13 (-9)) a 14 (-9) x j = I x j := fun x j kx n1 => by
      rw [hJa x j n1]
      unfold lfI
      rw [if_neg (fun q => kx (by rw [q.1]; exact B1)), if_neg (fun q => kx (by rw [q.1]; exact B2))]
    have cin : ∀ k, k ≤ 43 → ∀ j, a_ui (a_ui J a 13 (-9)) a 14 (-9) (C + k) j = I (C + k) j := fun k hk j => by
      rw [hJa _ _ (by omega)]
      unfold lfI
      rw [if_neg (by omega), if_neg (by omega)]
    refine hP _ (dL_place hJL a1 ha (fun q => absurd q (by decide))) (cp_mk hT hc unY_b (inP_un hy.2.2.2.2.2.2.1) (fun _ _ => ⟨rfl, rfl⟩) (fun _ _ _ _ _ _ _ => rfl) (fun k j hk => cin k (by omega) j) (fun x j kx n1 n2 => fk x j (by rw [kx]; decide) (by omega)) (fun x j kx _ => fk x j (by rw [kx]; decide) (fun q => by rw [q.1, ha] at kx; cases kx)) (fun x j kx => fk x j (by rw [kx]; decide) (fun q => by rw [q.1, ha] at kx; cases kx)) (fun k k0 k1 j => ?_) (fun o o0 o1 => ?_) ?_) f20 (fun x j kx hx => fk x j (by rw [kx]; decide) (fun q => hx q.1))
    · have hk := (hc.2.2.2.1.2 k k0 k1).1
      obtain ⟨q, -⟩ := hse.2.2.1 k _ k0 k1 pa p6
      exact f20 _ _ (hT.g_txt _ hk).2.2.1 (by omega) (by omega)
    · have ao := hc.2.2.1.2.1 o o0 o1
      by_cases e : o = i
      · have ea : R (C + 15) o.toNatClampNeg = a := by rw [e]; exact haa
        rw [ea, e, un_a (Or.inl rfl), un_a (Or.inr rfl), ui_ap, ui_ap, if_neg (by omega), if_pos ⟨rfl, rfl⟩, ui_ap, if_pos ⟨rfl, rfl⟩]
        exact ⟨rfl, rfl⟩
      · have ea : ¬ R (C + 15) o.toNatClampNeg = a := fun q => e (by rw [← ao.2.2, q]; exact a4n)
        have hne : ¬ o.toNatClampNeg = i.toNatClampNeg := fun q => e (cl_inj o0 ai.1 q)
        rw [fk _ _ (by rw [ao.1]; decide) (fun q => ea q.1), fk _ _ (by rw [ao.1]; decide) (fun q => ea q.1), un_o (Or.inr hne), un_o (Or.inr hne)]
        exact (hc.2.2.1.2.2.2 o o0 o1).2.2.2.1
    · refine pl_un hc.2.1.2.2.2 hy.2.1 ai pa (fun c c0 c1 j => ?_) (fun c c0 c1 j => ?_)
      · obtain ⟨e1, e2, n1, n2⟩ := rows c c0 c1
        unfold whC
        rw [e1, hJa _ _ (fun q => n1 q.1)]
        unfold lfI
        by_cases e : c = Y 20 i.toNatClampNeg
        · subst e
          by_cases q : (Y 21 i.toNatClampNeg).toNatClampNeg ≤ j ∧ j < (Y 21 i.toNatClampNeg).toNatClampNeg + (Y 10 i.toNatClampNeg).toNatClampNeg
          · rw [if_pos ⟨rfl, q⟩, if_pos ⟨rfl, q⟩]
          · rw [if_neg (fun w => q w.2), if_neg (by omega), if_neg (fun w => q w.2)]
        · have := se_ne hT hc hse ⟨c0, c1⟩ ⟨pa, p6⟩ e
          rw [if_neg (by omega), if_neg (by omega), if_neg (fun w => e w.1)]
      · obtain ⟨e1, e2, n1, n2⟩ := rows c c0 c1
        unfold snC
        rw [e2, hJa _ _ (fun q => n2 q.1)]
        unfold lfI
        by_cases e : c = Y 20 i.toNatClampNeg
        · subst e
          by_cases q : (Y 21 i.toNatClampNeg).toNatClampNeg ≤ j ∧ j < (Y 21 i.toNatClampNeg).toNatClampNeg + (Y 10 i.toNatClampNeg).toNatClampNeg
          · rw [if_neg (by omega), if_pos ⟨rfl, q⟩, if_pos ⟨rfl, q⟩]
          · rw [if_neg (by omega), if_neg (fun w => q w.2), if_neg (fun w => q w.2)]
        · have := se_ne hT hc hse ⟨c0, c1⟩ ⟨pa, p6⟩ e
          rw [if_neg (by omega), if_neg (by omega), if_neg (fun w => e w.1)]) 0 (by decide) I (Y 21 i.toNatClampNeg) (by decide) y10.1 (Int32.add_zero _).symm (dL_refl hT) (fun y j => by
    unfold lfI
    rw [show (0 : Int32).toNatClampNeg = 0 from rfl, if_neg (by omega), if_neg (by omega)])
  clear hP rows
  rw [a_enter1 (M := a_m51) rfl (a_cat_rf (a_cat_rf a_cat_nil)) (show 2 ≤ 4 by decide)]
  show a_at _ (a_xm a_m51) 0 [some (a_rf (C + 14)), some (a_rf a), none, none] [] _ _
  simp only [q51_0, q51_1, q51_2, q51_5, q51_8, q51_9, q51_10, q51_13, k_14 hS, z_14, sp_benchAt hS gB, as_nil, as_i, as_r, Nat.reduceAdd, Nat.reduceLeDiff, z_eq0, z_eq1, z_or, z_em, Classical.not_not, not_false_eq_true, not_true_eq_false, true_and, and_true, false_and, and_false, and_self, true_implies, false_implies, implies_true, Option.toList_some, Option.toList_none, List.cons_append, List.nil_append, Nat.add_eq_zero_iff, a_nl_i, a_nl_r, a_nl_n, true_or, or_true, eq_self, a_isRA_22, a_isRA_24, a_isRA_32, a_isA_20, ok_4, ok_5, ok_6, ok_7, ok_9, ok_20, ok_21, ok_30, ok_50, ok_180, ok_192, ok_200, ha, a0, hbc, kb, kb0, e13, e14]
  try simp only [true_and, and_true, true_implies, false_implies, implies_true, not_true_eq_false, not_false_eq_true]
  exact hl
/-- dates change their own row alone -/
theorem ce_date {b : Nat} (hb : K b = 3) (hT0 : cT C K L I R) {f e w : Int32} (hf : 0 ≤ f ∧ f ≤ 200) (hP : ∀ J, dL C K L R I J → (∀ y j, ¬ y = R b 4 → J y j = I y j) → P none (n, t, K, L, J, R)) : a_does (d + 1) 50 [a_rf b, .int f, .int e, .int w] (n, t, K, L, I, R) P := by
  have key : ∀ s : Int32, s ≤ 200 → ∀ J, 0 ≤ s → dL C K L R I J → (∀ y j, ¬ y = R b 4 → J y j = I y j) → a_at d (a_xm a_m50) 3 [some (a_rf b), some (.int f), some (.int e), some (.int w), some (.int s)] [] (n, t, K, L, J, R) P := by
    refine up_ind 200 (fun s hk ih => ?_)
    intro J q0 hL hJ
    have hT := hL.1
    have hS := hT.s
    obtain ⟨b1, ⟨w1, w2, w3⟩, ⟨s1, s2, s3⟩, ⟨h1, h2, h3⟩, ⟨p1, p2, p3⟩, q1⟩ := hT.g_bnc b hb
    have b0 : (b = 0) = False := eq_false (by omega)
    have w0 : (R b 2 = 0) = False := eq_false (by omega)
    have s0 : (R b 3 = 0) = False := eq_false (by omega)
    have h0 : (R b 4 = 0) = False := eq_false (by omega)
    have p0 : (R b 5 = 0) = False := eq_false (by omega)
    have hw : ∀ k v, dL C K L R I (a_ui J (R b 4) k v) := fun k v => dL_arr hL h1 h2
    have hw2 : ∀ k v, ∀ y j, ¬ y = R b 4 → a_ui J (R b 4) k v y j = I y j := fun k v y j q => by rw [ui_ap, if_neg (fun z => q z.1)]; exact hJ y j q
    rw [q50_3]
    repeat' first
      | with_reducible apply And.intro
      | with_reducible assumption
      | with_reducible intro _
      | with_reducible apply hP
      | with_reducible apply ih
      | with_reducible apply hw
      | with_reducible apply hw2
      | simp only [q50_5, q50_6, q50_9, q50_11, q50_14, q50_17, q50_18, q50_21, q50_23, q50_24, q50_25, q50_28, q50_31, as_nil, as_i, as_r, Nat.reduceAdd, Nat.reduceLeDiff, z_eq0, z_eq1, z_or, z_em, Classical.not_not, not_false_eq_true, not_true_eq_false, true_and, and_true, false_and, and_false, and_self, true_implies, false_implies, implies_true, Option.toList_some, Option.toList_none, List.cons_append, List.nil_append, Nat.add_eq_zero_iff, a_nl_i, a_nl_r, a_nl_n, true_or, or_true, eq_self, a_isRA_22, a_isRA_24, a_isRA_32, a_isA_20, ok_4, ok_5, ok_6, ok_7, ok_9, ok_20, ok_21, ok_30, ok_50, ok_180, ok_192, ok_200, hb, b0, w0, w2, w3, s0, s2, s3, h0, h2, h3, p0, p2]
    all_goals grind [ui_ap]
  have hS := hT0.s
  rw [a_enter1 (M := a_m50) rfl (a_cat_rf (a_cat_int (a_cat_int (a_cat_int a_cat_nil)))) (show 4 ≤ 5 by decide)]
  show a_at _ (a_xm a_m50) 0 [some (a_rf b), some (.int f), some (.int e), some (.int w), none] [] _ _
  simp only [q50_0, q50_1, as_nil, as_i, as_r, Nat.reduceAdd, Nat.reduceLeDiff, z_eq0, z_eq1, z_or, z_em, Classical.not_not, not_false_eq_true, not_true_eq_false, true_and, and_true, false_and, and_false, and_self, true_implies, false_implies, implies_true, Option.toList_some, Option.toList_none, List.cons_append, List.nil_append, Nat.add_eq_zero_iff, a_nl_i, a_nl_r, a_nl_n, true_or, or_true, eq_self, a_isRA_22, a_isRA_24, a_isRA_32, a_isA_20, ok_4, ok_5, ok_6, ok_7, ok_9, ok_20, ok_21, ok_30, ok_50, ok_180, ok_192, ok_200]
  exact key f hf.2 I hf.1 (dL_refl hT0) (fun _ _ _ => rfl)
theorem ce_place (hT : cT C K L I R) (hc : cpP C K L I R Y) (hse : seP C R Y) {a : Nat} {i : Int32} (ap : aaP C K I Y i a) (haa : (R (C + 15) i.toNatClampNeg) = a) {b s : Int32} (hb : 0 ≤ b ∧ b < Y 0 6) (hs : 0 ≤ s ∧ s ≤ 199) (hsl : s + Y 10 i.toNatClampNeg ≤ 200) (un : ¬ 0 ≤ Y 20 i.toNatClampNeg) (fr : ∀ z : Int32, 0 ≤ z → z < Y 10 i.toNatClampNeg → whC C I R b (s + z).toNatClampNeg = -9) (hP : ∀ J, dL C K L R I J → cpP C K L J R (puY Y i b s) → aZ K a I J → P none (n, t, K, L, J, R)) : a_does (d + 6) 113 [a_rf (C + 14), a_rf a, .int b, .int s] (n, t, K, L, I, R) P := by
  have hS := hT.s
  obtain ⟨ai, ⟨ha, an0, a4n⟩, am, al⟩ := id ap
  obtain ⟨a1, a2, a4, a3⟩ := hT.g_ask a ha
  have a0 : (a = 0) = False := eq_false an0
  have gA := hT.g_asksR
  have gB := hT.g_benchesR
  have gX := hT.g_textsR
  have hy := hc.2.2.2.2
  obtain ⟨kb, kb0, kb5, kb6⟩ := hc.2.1.2.2.1 b hb.1 hb.2
  have b6 : b < 6 := Int32.lt_of_lt_of_le hb.2 hy.2.2.2.2.2.1.2
  obtain ⟨eB2, eB3, eB4⟩ := hse.1 b hb.1 hb.2
  rw [a_enter1 (M := a_m113) rfl (a_cat_rf (a_cat_rf (a_cat_int (a_cat_int a_cat_nil)))) (show 4 ≤ 5 by decide)]
  show a_at _ (a_xm a_m113) 0 [some (a_rf (C + 14)), some (a_rf a), some (.int b), some (.int s), none] [] _ _
  simp only [q113_0, q113_1, q113_2, q113_3, q113_4, q113_5, q113_6, q113_7, q113_8, k_14 hS, z_14, as_nil, as_i, as_r, Nat.reduceAdd, Nat.reduceLeDiff, z_eq0, z_eq1, z_or, z_em, Classical.not_not, not_false_eq_true, not_true_eq_false, true_and, and_true, false_and, and_false, and_self, true_implies, false_implies, implies_true, Option.toList_some, Option.toList_none, List.cons_append, List.nil_append, Nat.add_eq_zero_iff, a_nl_i, a_nl_r, a_nl_n, true_or, or_true, eq_self, a_isRA_22, a_isRA_24, a_isRA_32, a_isA_20, ok_4, ok_5, ok_6, ok_7, ok_9, ok_20, ok_21, ok_30, ok_50, ok_180, ok_192, ok_200, ha, a0]
  try simp only [true_and, and_true, true_implies, false_implies, implies_true, not_true_eq_false, not_false_eq_true]
  refine ce_watchOf (d := d) hT hc ap hs hsl (fun w J hJ hw => ?_)
  have hT1 := hJ.1
  have hS1 := hT1.s
  have hc1 := cpP_C hT hc hJ
  have ap1 := aaP_C hT ap hJ
  simp only [q113_11, k_14 hS, z_14, as_nil, as_i, as_r, Nat.reduceAdd, Nat.reduceLeDiff, z_eq0, z_eq1, z_or, z_em, Classical.not_not, not_false_eq_true, not_true_eq_false, true_and, and_true, false_and, and_false, and_self, true_implies, false_implies, implies_true, Option.toList_some, Option.toList_none, List.cons_append, List.nil_append, Nat.add_eq_zero_iff, a_nl_i, a_nl_r, a_nl_n, true_or, or_true, eq_self, a_isRA_22, a_isRA_24, a_isRA_32, a_isA_20, ok_4, ok_5, ok_6, ok_7, ok_9, ok_20, ok_21, ok_30, ok_50, ok_180, ok_192, ok_200, ha, a0]
  try simp only [true_and, and_true, true_implies, false_implies, implies_true, not_true_eq_false, not_false_eq_true]
  have fr1 : ∀ z : Int32, 0 ≤ z → z < Y 10 i.toNatClampNeg → whC C J R b (s + z).toNatClampNeg = -9 := fun z z0 z1 => by
    rw [← fr z z0 z1]
    have g := (hT.g_bnc _ kb).2.1.1
    exact hJ.2 _ _ (by omega) (by omega)
  refine ce_lay (d := d + 1) hT1 hc1 hse ap1 haa hb hs hsl un fr1 hw (fun J2 hJ2 hc2 f20 ha2 => ?_)
  have hT2 := hJ2.1
  have hS2 := hT2.s
  have hL2 := dL_L (dL_C (dL_refl hT) hJ) hJ2
  have e2 : J2 a 2 = I a 2 := dL_at hL2 hT ha 2 (by decide) (by decide)
  have hbc : 0 ≤ b ∧ b < J2 (C + 14) 5 ∧ b < 6 := ⟨hb.1, by rw [hc2.2.1.1, puY_b 0 6 (by unfold sb; omega)]; exact hb.2, b6⟩
  have a0 : (a = 0) = False := eq_false an0
  have hfin : a_does (d + 5) 50 [a_rf (R (C + 16) b.toNatClampNeg), .int s, .int (s + J2 a 2 - 1), .int (J2 (C + 1) 6)] (n, t, K, L, J2, R) (fun r h' => a_at (d + 5) (a_xm a_m113) 47 [some (a_rf (C + 14)), some (a_rf a), some (.int b), some (.int s), some (a_rf (R (C + 16) b.toNatClampNeg))] (r.toList ++ []) h' P) := by
    refine ce_date (d := d + 4) kb hT2 ⟨hs.1, Int32.le_trans hs.2 (by decide)⟩ (fun J3 hJ3 hd => ?_)
    have hp := hP J3 (dL_L hL2 hJ3) (cp_fr hT2 hc2 (fun k j hk => hd _ _ (by rw [eB4]; have := (hT.g_bnc _ kb).1; omega)) (fun x j kx => hd _ _ (fun e => by rw [e, ((hT.g_bnc _ kb).2.2.2.1).2.1] at kx; cases kx)) (fun x j kx _ => hd _ _ (fun e => by rw [e, ((hT.g_bnc _ kb).2.2.2.1).2.1] at kx; cases kx)) (fun x j kx => hd _ _ (fun e => by rw [e, ((hT.g_bnc _ kb).2.2.2.1).2.1] at kx; cases kx)) (fun k k0 k1 j => hd _ _ (by
      rw [puY_b 0 41 (by unfold sb; omega)] at k1
      have q := (hse.2.2.1 k b k0 k1 hb.1 hb.2).1
      rw [eB4]
      omega)) (fun o o0 o1 j => by
      rw [puY_b 0 6 (by unfold sb; omega)] at o1
      obtain ⟨d2, d3, d4⟩ := hse.1 o o0 o1
      rw [d2, d3]
      by_cases e : o = b
      · subst e
        exact ⟨hd _ _ (by rw [eB4]; omega), hd _ _ (by rw [eB4]; omega)⟩
      · have := se_ne hT hc hse ⟨o0, o1⟩ hb e
        exact ⟨hd _ _ (by rw [eB4]; omega), hd _ _ (by rw [eB4]; omega)⟩)) (fun x j kx hx => by
      have g1 := (hT.g_ask x kx).1
      rw [hd x j (fun e => by rw [e, ((hT.g_bnc _ kb).2.2.2.1).2.1] at kx; cases kx), ha2 x j kx hx]
      exact hJ.2 x j (by omega) (by omega))
    clear hP hc hc1 hc2 ap ap1 al am hw fr fr1 hse f20 hd
    simp only [q113_47, as_nil, as_i, as_r, Nat.reduceAdd, Nat.reduceLeDiff, z_eq0, z_eq1, z_or, z_em, Classical.not_not, not_false_eq_true, not_true_eq_false, true_and, and_true, false_and, and_false, and_self, true_implies, false_implies, implies_true, Option.toList_some, Option.toList_none, List.cons_append, List.nil_append, Nat.add_eq_zero_iff, a_nl_i, a_nl_r, a_nl_n, true_or, or_true, eq_self, a_isRA_22, a_isRA_24, a_isRA_32, a_isA_20, ok_4, ok_5, ok_6, ok_7, ok_9, ok_20, ok_21, ok_30, ok_50, ok_180, ok_192, ok_200, ha, a0]
    exact hp
  clear hP hc hc1 ap ap1 al am hw fr fr1 hse f20
  simp only [q113_14, q113_15, q113_16, q113_19, q113_21, q113_23, q113_26, q113_28, q113_29, q113_30, q113_31, q113_34, q113_35, q113_36, q113_37, q113_38, q113_41, q113_44, k_14 hS, z_14, r_14_0 hS, k_1 hS, z_1, sp_benchAt hS gB, as_nil, as_i, as_r, Nat.reduceAdd, Nat.reduceLeDiff, z_eq0, z_eq1, z_or, z_em, Classical.not_not, not_false_eq_true, not_true_eq_false, true_and, and_true, false_and, and_false, and_self, true_implies, false_implies, implies_true, Option.toList_some, Option.toList_none, List.cons_append, List.nil_append, Nat.add_eq_zero_iff, a_nl_i, a_nl_r, a_nl_n, true_or, or_true, eq_self, a_isRA_22, a_isRA_24, a_isRA_32, a_isA_20, ok_4, ok_5, ok_6, ok_7, ok_9, ok_20, ok_21, ok_30, ok_50, ok_180, ok_192, ok_200, ha, a0, hbc, kb, kb0]
  try simp only [true_and, and_true, true_implies, false_implies, implies_true, not_true_eq_false, not_false_eq_true]
  exact hfin
end YA0
end
section
/-! the class: the past, taking back -/
section YB0
variable {d n t C c : Nat} {K L : Nat → Nat} {I I0 J J0 J1 J2 : Nat → Nat → Int32} {R : Nat → Nat → Nat} {P : Option Value → AH → Prop}
variable {Y Z : Nat → Nat → Int32}
/-- what keeping the past leaves as it was -/
def rmP (n b : Nat) (I : Nat → Nat → Int32) (R : Nat → Nat → Nat) (J : Nat → Nat → Int32) (R' : Nat → Nat → Nat) : Prop := (∀ x j, x < n → ¬ (x = b ∧ j = 5) → R' x j = R x j) ∧ (R' b 5 = R b 5 ∨ R' b 5 = n) ∧ ∀ x j, x < n → ¬ (x = b ∧ j = 6) → ¬ x = R b 5 → J x j = I x j
theorem ce_hasRoom {b : Nat} (hb : K b = 3) (hH : cH C c (n + 1) t K L I R) (hj : ∃ j, j < 6 ∧ R (C + 16) j = b) (hP0 : P (some (.int 0)) (n + 1, t, K, L, I, R)) (hP : ∀ n' t' K' L' J R', cH C c (n' + 1) t' K' L' J R' → dQ C (n + 1) K L I R (n' + 1) K' L' J R' → (∀ x j, x < n + 1 → J x j = I x j) → rmP (n + 1) b I R J R' → I b 6 < 16384 → 5 * (I b 6 + 1).toNatClampNeg ≤ L' (R' b 5) → P (some (.int 1)) (n' + 1, t', K', L', J, R')) : a_does (d + 1) 48 [a_rf b] (n + 1, t, K, L, I, R) P := by
  have hT := hH.1
  have hS := hT.s
  obtain ⟨b1, ⟨w1, w2, w3⟩, ⟨s1, s2, s3⟩, ⟨h1, h2, h3⟩, ⟨p1, p2, p3⟩, q1⟩ := hT.g_bnc b hb
  have b0 : (b = 0) = False := eq_false (by omega)
  have w0 : (R b 2 = 0) = False := eq_false (by omega)
  have s0 : (R b 3 = 0) = False := eq_false (by omega)
  have h0 : (R b 4 = 0) = False := eq_false (by omega)
  have p0 : (R b 5 = 0) = False := eq_false (by omega)
  obtain ⟨m, m1, m2, m3⟩ := p3
  have fr := hH.2.1
  have bl : b < n + 1 := kn_lt fr hb (by decide)
  have pl : R b 5 < n + 1 := kn_lt fr p2 (by decide)
  have pn : ¬ R b 5 = n + 1 := by omega
  have bn : ¬ b = n + 1 := by omega
  rw [a_enter1 (M := a_m48) rfl (a_cat_rf a_cat_nil) (show 1 ≤ 2 by decide)]
  show a_at _ (a_xm a_m48) 0 [some (a_rf b), none] [] _ _
  simp only [q48_0, q48_1, q48_4, q48_7, q48_10, q48_11, q48_12, q48_13, q48_16, q48_17, q48_18, q48_19, q48_20, q48_21, q48_24, q48_25, as_nil, as_i, as_r, Nat.reduceAdd, Nat.reduceLeDiff, z_eq0, z_eq1, z_or, z_em, Classical.not_not, not_false_eq_true, not_true_eq_false, true_and, and_true, false_and, and_false, and_self, true_implies, false_implies, implies_true, Option.toList_some, Option.toList_none, List.cons_append, List.nil_append, Nat.add_eq_zero_iff, a_nl_i, a_nl_r, a_nl_n, true_or, or_true, eq_self, a_isRA_22, a_isRA_24, a_isRA_32, a_isA_20, ok_4, ok_5, ok_6, ok_7, ok_9, ok_20, ok_21, ok_30, ok_50, ok_180, ok_192, ok_200, hb, b0, w0, w2, w3, s0, s2, s3, h0, h2, h3, p0, p2]
  refine ⟨fun c1 => ?_, fun c1 => ?_⟩
  · have hm := mul5 q1.1 c1 (show L (R b 5) ≤ 163840 by omega)
    refine ⟨fun c2 => ?_, fun c2 => ?_⟩
    · simp only [q48_58, q48_59, as_nil, as_i, as_r, Nat.reduceAdd, Nat.reduceLeDiff, z_eq0, z_eq1, z_or, z_em, Classical.not_not, not_false_eq_true, not_true_eq_false, true_and, and_true, false_and, and_false, and_self, true_implies, false_implies, implies_true, Option.toList_some, Option.toList_none, List.cons_append, List.nil_append, Nat.add_eq_zero_iff, a_nl_i, a_nl_r, a_nl_n, true_or, or_true, eq_self, a_isRA_22, a_isRA_24, a_isRA_32, a_isA_20, ok_4, ok_5, ok_6, ok_7, ok_9, ok_20, ok_21, ok_30, ok_50, ok_180, ok_192, ok_200, hb, b0, w0, w2, w3, s0, s2, s3, h0, h2, h3, p0, p2]
      exact hP n t K L I R hH dQ_refl (fun _ _ _ => rfl) ⟨fun _ _ _ _ => rfl, Or.inl rfl, fun _ _ _ _ _ => rfl⟩ c1 (hm.mp c2)
    · have c3 : ¬ 5 * (I b 6 + 1).toNatClampNeg ≤ L (R b 5) := fun q => c2 (hm.mpr q)
      have ep : (I b 6 + 1).toNatClampNeg = (I b 6).toNatClampNeg + 1 := by
        have e0 := Int32.le_iff_toInt_le.mp q1.1
        have e1 := Int32.lt_iff_toInt_lt.mp c1
        have c1 : (16384 : Int32).toInt = 16384 := rfl
        simp at e0
        have e2 : (I b 6 + 1).toInt = (I b 6).toInt + 1 := by
          rw [Int32.toInt_add]
          simp [Int.bmod_def]
          omega
        show (I b 6 + 1).toInt.toNat = (I b 6).toInt.toNat + 1
        rw [e2]
        omega
      have el : (I b 6).toNatClampNeg < 16384 := by
        have e0 := Int32.le_iff_toInt_le.mp q1.1
        have e1 := Int32.lt_iff_toInt_lt.mp c1
        have c1 : (16384 : Int32).toInt = 16384 := rfl
        simp at e0
        show (I b 6).toInt.toNat < 16384
        omega
      obtain ⟨d1, d2, d3, d4⟩ := dbl (show L (R b 5) ≤ 81920 by omega)
      have f1 : a_up K (n + 1) 20 (R b 5) = 20 := by rw [up_ne pn]; exact p2
      have f2 : a_up K (n + 1) 20 b = 3 := by rw [up_ne bn]; exact hb
      have f3 : a_zr R (n + 1) b 5 = R b 5 := zr_ne bn
      have f4 : a_up L (n + 1) (2 * L (R b 5)) (R b 5) = L (R b 5) := up_ne pn
      have f5 : a_up K (n + 1) 20 (n + 1) = 20 := up_eq
      have f6 : a_up L (n + 1) (2 * L (R b 5)) (n + 1) = 2 * L (R b 5) := up_eq
      have f7 : (n + 1 = 0) = False := eq_false (by omega)
      simp only [q48_28, q48_29, q48_32, q48_33, q48_34, q48_35, q48_37, q48_38, q48_39, q48_42, q48_43, q48_44, q48_45, q48_46, q48_49, q48_50, q48_53, q48_54, q48_55, q48_58, q48_59, as_nil, as_i, as_r, Nat.reduceAdd, Nat.reduceLeDiff, z_eq0, z_eq1, z_or, z_em, Classical.not_not, not_false_eq_true, not_true_eq_false, true_and, and_true, false_and, and_false, and_self, true_implies, false_implies, implies_true, Option.toList_some, Option.toList_none, List.cons_append, List.nil_append, Nat.add_eq_zero_iff, a_nl_i, a_nl_r, a_nl_n, true_or, or_true, eq_self, a_isRA_22, a_isRA_24, a_isRA_32, a_isA_20, ok_4, ok_5, ok_6, ok_7, ok_9, ok_20, ok_21, ok_30, ok_50, ok_180, ok_192, ok_200, hb, b0, w0, w2, w3, s0, s2, s3, h0, h2, h3, p0, p2, d1, d2, d3, d4, f1, f2, f3, f4, f5, f6, f7, a_copy_eq, a_kd_eq, a_ln_eq, cn00, lt00, Nat.zero_add]
      have e9 : 2 * L (R b 5) = 160 * m := by omega
      have hJJ : ∀ x j, x < n + 1 → a_ci (a_zi I (n + 1)) (R b 5) (n + 1) 0 0 (L (R b 5)) x j = I x j := fun x j hx => by rw [ci_ne (by omega), zi_ne (by omega)]
      have hf := hP (n + 1) (t + 160 * m) (a_up K (n + 1) 20) (a_up L (n + 1) (160 * m)) (a_ci (a_zi I (n + 1)) (R b 5) (n + 1) 0 0 (L (R b 5))) (a_ur (a_zr R (n + 1)) b 5 (n + 1)) (cH_past hH hb m1 m2 (by omega) hj hJJ) ⟨by omega, fun x hx => up_ne (by omega), fun x hx => up_ne (by omega), fun x j hx hk => by rw [ur_ap, if_neg (fun e => hk (by rw [e.1]; exact hb)), zr_ne (by omega)], fun x j hx _ _ _ => hJJ x j hx⟩ hJJ ⟨fun x j hx hk => by rw [ur_ap, if_neg hk, zr_ne (by omega)], Or.inr (by rw [ur_ap, if_pos ⟨rfl, rfl⟩]), fun x j hx _ _ => hJJ x j hx⟩ c1 (by rw [ur_ap, if_pos ⟨rfl, rfl⟩, up_eq]; omega)
      rw [e9]
      try simp only [not_false_eq_true, true_and, and_true]
      repeat' first
        | with_reducible apply And.intro
        | exact hf
        | decide
        | omega
  · try simp only [q48_10, q48_11, as_nil, as_i, as_r, Nat.reduceAdd, Nat.reduceLeDiff, z_eq0, z_eq1, z_or, z_em, Classical.not_not, not_false_eq_true, not_true_eq_false, true_and, and_true, false_and, and_false, and_self, true_implies, false_implies, implies_true, Option.toList_some, Option.toList_none, List.cons_append, List.nil_append, Nat.add_eq_zero_iff, a_nl_i, a_nl_r, a_nl_n, true_or, or_true, eq_self, a_isRA_22, a_isRA_24, a_isRA_32, a_isA_20, ok_4, ok_5, ok_6, ok_7, ok_9, ok_20, ok_21, ok_30, ok_50, ok_180, ok_192, ok_200, hb, b0, w0, w2, w3, s0, s2, s3, h0, h2, h3, p0, p2]
    first
      | exact hP0
      | exact ⟨by decide, hP0⟩
theorem ce_remember {a b : Nat} (hb : K b = 3) (ha : K a = 1) (hH : cH C c (n + 1) t K L I R) (hj : ∃ j, j < 6 ∧ R (C + 16) j = b) (hs : 0 ≤ I a 14 ∧ I a 14 < 200) {w : Int32} (hP : ∀ n' t' K' L' J R', cH C c (n' + 1) t' K' L' J R' → dQ C (n + 1) K L I R (n' + 1) K' L' J R' → rmP (n + 1) b I R J R' → P none (n' + 1, t', K', L', J, R')) : a_does (d + 2) 47 [a_rf b, a_rf a, .int w] (n + 1, t, K, L, I, R) P := by
  have hT := hH.1
  have hS := hT.s
  obtain ⟨b1, ⟨w1, w2, w3⟩, ⟨s1, s2, s3⟩, ⟨h1, h2, h3⟩, ⟨p1, p2, p3⟩, q1⟩ := hT.g_bnc b hb
  have b0 : (b = 0) = False := eq_false (by omega)
  have w0 : (R b 2 = 0) = False := eq_false (by omega)
  have s0 : (R b 3 = 0) = False := eq_false (by omega)
  have h0 : (R b 4 = 0) = False := eq_false (by omega)
  have p0 : (R b 5 = 0) = False := eq_false (by omega)
  obtain ⟨a1, a2, a4, a3⟩ := hT.g_ask a ha
  have a0 : (a = 0) = False := eq_false (by omega)
  have fr := hH.2.1
  have bl : b < n + 1 := kn_lt fr hb (by decide)
  have al : a < n + 1 := kn_lt fr ha (by decide)
  have hn := hP n t K L I R hH dQ_refl ⟨fun _ _ _ _ => rfl, Or.inl rfl, fun _ _ _ _ _ => rfl⟩
  rw [a_enter1 (M := a_m47) rfl (a_cat_rf (a_cat_rf (a_cat_int a_cat_nil))) (show 3 ≤ 5 by decide)]
  show a_at _ (a_xm a_m47) 0 [some (a_rf b), some (a_rf a), some (.int w), none, none] [] _ _
  simp only [q47_0, q47_1, q47_4, q47_5, q47_8, q47_9, q47_10, q47_11, q47_12, q47_15, q47_16, as_nil, as_i, as_r, Nat.reduceAdd, Nat.reduceLeDiff, z_eq0, z_eq1, z_or, z_em, Classical.not_not, not_false_eq_true, not_true_eq_false, true_and, and_true, false_and, and_false, and_self, true_implies, false_implies, implies_true, Option.toList_some, Option.toList_none, List.cons_append, List.nil_append, Nat.add_eq_zero_iff, a_nl_i, a_nl_r, a_nl_n, true_or, or_true, eq_self, a_isRA_22, a_isRA_24, a_isRA_32, a_isA_20, ok_4, ok_5, ok_6, ok_7, ok_9, ok_20, ok_21, ok_30, ok_50, ok_180, ok_192, ok_200, hb, b0, w0, w2, w3, s0, s2, s3, h0, h2, h3, p0, p2, ha, a0]
  refine ⟨hs, fun c1 => ?_, fun c1 => ?_⟩
  · simp only [q47_22, as_nil, as_i, as_r, Nat.reduceAdd, Nat.reduceLeDiff, z_eq0, z_eq1, z_or, z_em, Classical.not_not, not_false_eq_true, not_true_eq_false, true_and, and_true, false_and, and_false, and_self, true_implies, false_implies, implies_true, Option.toList_some, Option.toList_none, List.cons_append, List.nil_append, Nat.add_eq_zero_iff, a_nl_i, a_nl_r, a_nl_n, true_or, or_true, eq_self, a_isRA_22, a_isRA_24, a_isRA_32, a_isA_20, ok_4, ok_5, ok_6, ok_7, ok_9, ok_20, ok_21, ok_30, ok_50, ok_180, ok_192, ok_200]
    exact hn
  · refine ce_hasRoom hb hH hj ?_ (fun n' t' K' L' J R' hH' hQ hJ hrm hp hl => ?_)
    · simp only [q47_19, q47_22, as_nil, as_i, as_r, Nat.reduceAdd, Nat.reduceLeDiff, z_eq0, z_eq1, z_or, z_em, Classical.not_not, not_false_eq_true, not_true_eq_false, true_and, and_true, false_and, and_false, and_self, true_implies, false_implies, implies_true, Option.toList_some, Option.toList_none, List.cons_append, List.nil_append, Nat.add_eq_zero_iff, a_nl_i, a_nl_r, a_nl_n, true_or, or_true, eq_self, a_isRA_22, a_isRA_24, a_isRA_32, a_isA_20, ok_4, ok_5, ok_6, ok_7, ok_9, ok_20, ok_21, ok_30, ok_50, ok_180, ok_192, ok_200]
      first
        | exact hn
        | exact ⟨fun h => absurd rfl h, fun _ => hn⟩
    · clear hn
      have hb' : K' b = 3 := by rw [hQ.2.1 b bl]; exact hb
      have ha' : K' a = 1 := by rw [hQ.2.1 a al]; exact ha
      have hT' := hH'.1
      have e6 := hJ b 6 bl
      obtain ⟨-, -, -, -, ⟨r1, r2, -⟩, r6⟩ := hT'.g_bnc b hb'
      have p0' : (R' b 5 = 0) = False := eq_false (by omega)
      rw [← e6] at hp
      rw [← e6] at hl
      have hi : J b 6 < J b 6 + 1 := by clear hP hT hT' hH hH' hQ hJ hrm; grind
      have hi2 : J b 6 + 1 ≤ 16384 := by clear hP hT hT' hH hH' hQ hJ hrm; grind
      have m0 := past_ok0 r6.1 hi hi2 hl
      have m1 := past_ok (e := 1) r6.1 hi hi2 hl (by decide)
      have m2 := past_ok (e := 2) r6.1 hi hi2 hl (by decide)
      have m3 := past_ok (e := 3) r6.1 hi hi2 hl (by decide)
      have m4 := past_ok (e := 4) r6.1 hi hi2 hl (by decide)
      have n1 : ¬ b = R' b 5 := fun e => by rw [← e, hb'] at r2; cases r2
      have n2 : ¬ a = R' b 5 := fun e => by rw [← e, ha'] at r2; cases r2
      have n3 : ¬ a = b := fun e => by rw [e, hb] at ha; cases ha
      simp only [q47_19, q47_22, q47_23, q47_24, q47_27, q47_28, q47_29, q47_31, q47_32, q47_35, q47_37, q47_38, q47_41, q47_42, q47_43, q47_46, q47_48, q47_49, q47_50, q47_51, q47_54, q47_55, q47_56, q47_59, q47_61, q47_62, q47_63, q47_64, q47_67, q47_68, q47_69, q47_72, q47_74, q47_75, q47_76, q47_77, q47_78, q47_79, q47_82, q47_84, q47_85, q47_86, q47_87, q47_88, q47_89, q47_90, q47_93, q47_94, q47_95, q47_98, sp_last, as_nil, as_i, as_r, Nat.reduceAdd, Nat.reduceLeDiff, z_eq0, z_eq1, z_or, z_em, Classical.not_not, not_false_eq_true, not_true_eq_false, true_and, and_true, false_and, and_false, and_self, true_implies, false_implies, implies_true, Option.toList_some, Option.toList_none, List.cons_append, List.nil_append, Nat.add_eq_zero_iff, a_nl_i, a_nl_r, a_nl_n, true_or, or_true, eq_self, a_isRA_22, a_isRA_24, a_isRA_32, a_isA_20, ok_4, ok_5, ok_6, ok_7, ok_9, ok_20, ok_21, ok_30, ok_50, ok_180, ok_192, ok_200, ui_ap, cc_ne, cc_n0, cc_0n, Nat.reduceEqDiff, reduceIte, if_true, if_false, hb', ha', b0, a0, p0', r2, n1, n2, n3, m0, m1, m2, m3, m4]
      have z : 0 ≤ J b 6 + 1 := by clear hP hT hT' hH hH' hQ hJ hrm; grind
      have hq : ∀ J2, cT C K' L' J2 R' → dQ C (n' + 1) K' L' J R' (n' + 1) K' L' J2 R' → (∀ x j, ¬ (x = b ∧ j = 6) → ¬ x = R' b 5 → J2 x j = J x j) → P none (n' + 1, t', K', L', J2, R') := fun J2 q1 q2 q3 => hP n' t' K' L' J2 R' (cH_J hH' q1) (dQ_Q hQ q2) ⟨hrm.1, hrm.2.1, fun x j hx p1 p2 => (q3 x j p1 (fun e => by rcases hrm.2.1 with q | q <;> omega)).trans (hrm.2.2 x j hx p1 p2)⟩
      repeat' first
        | with_reducible apply And.intro
        | with_reducible assumption
        | with_reducible apply hq
        | (intro x j p1 p2; simp only [ui_ap, p2, false_and, if_false]; rw [if_neg p1]; done)
        | with_reducible intro _
        | with_reducible apply sT_past
        | with_reducible apply sT_arr
        | with_reducible apply dQ_3 (h1 := b1) (h2 := hb')
        | with_reducible apply dQ_20 (h1 := r1) (h2 := r2)
        | with_reducible exact dQ_refl
        | (simp only [ui_ap, n1, n2, n3, false_and, if_false, b0]; done)
theorem ce_clear (hH : cH C c (n + 1) t K L I R) (hc : cpP C K L I R Y) (hse : seP C R Y) {a : Nat} {i : Int32} (ap : aaP C K I Y i a) (haa : (R (C + 15) i.toNatClampNeg) = a) (hP : ∀ n' t' K' L' J R', cH C c (n' + 1) t' K' L' J R' → dQ C (n + 1) K L I R (n' + 1) K' L' J R' → cpP C K' L' J R' (unY Y i) → seP C R' Y → (∀ j, R' (C + 15) j = R (C + 15) j) → aZ K a I J → P none (n' + 1, t', K', L', J, R')) (pa : 0 ≤ Y 20 i.toNatClampNeg) : a_does (d + 5) 45 [a_rf (C + 14), a_rf a] (n + 1, t, K, L, I, R) P := by
  have hT := hH.1
  have hS := hT.s
  obtain ⟨ai, ⟨ha, an0, a4n⟩, am, al⟩ := id ap
  obtain ⟨a1, a2, a4, a3⟩ := hT.g_ask a ha
  have a0 : (a = 0) = False := eq_false an0
  have gA := hT.g_asksR
  have gB := hT.g_benchesR
  have gX := hT.g_textsR
  have fr := hH.2.1
  have al0 : a < n + 1 := kn_lt fr ha (by decide)
  have hy := hc.2.2.2.2
  have y10 := hy.2.1 i.toNatClampNeg
  have e13 : I a 13 = Y 20 i.toNatClampNeg := al.2.2.2.1.1
  have e14 : I a 14 = Y 21 i.toNatClampNeg := al.2.2.2.1.2
  have i30 : i.toNatClampNeg < 30 := a_lt30 ⟨ai.1, Int32.lt_of_lt_of_le ai.2 hy.2.2.2.2.1.2⟩
  obtain ⟨⟨p21, p200, psl⟩, p5⟩ := hy.2.2.2.2.2.2.1 _ i30 pa
  have p6 : Y 20 i.toNatClampNeg < Y 0 6 := (hc.2.1.2.2.2.1 i ai.1 ai.2 pa).1
  have ps : 0 ≤ Y 21 i.toNatClampNeg ∧ Y 21 i.toNatClampNeg ≤ 199 ∧ Y 21 i.toNatClampNeg ≤ 200 := by
    have := hy.2.2.1 i ai.1 ai.2
    clear hP hse gA gB gX
    grind
  obtain ⟨kb, kb0, kb5, kb6⟩ := hc.2.1.2.2.1 _ pa p6
  obtain ⟨eB2, eB3, eB4⟩ := hse.1 _ pa p6
  obtain ⟨bB, ⟨w1, w2, w3⟩, ⟨s1, s2, s3⟩, ⟨h1', h2', h3'⟩, ⟨pp1, pp2, -⟩, -⟩ := hT.g_bnc _ kb
  have b6 : Y 20 i.toNatClampNeg < 6 := Int32.lt_of_lt_of_le p6 hy.2.2.2.2.2.1.2
  have hbc : 0 ≤ Y 20 i.toNatClampNeg ∧ Y 20 i.toNatClampNeg < I (C + 14) 5 ∧ Y 20 i.toNatClampNeg < 6 := ⟨pa, by rw [hc.2.1.1]; exact p6, b6⟩
  have hj : ∃ j, j < 6 ∧ R (C + 16) j = (R (C + 16) (Y 20 i.toNatClampNeg).toNatClampNeg) := ⟨_, show (Y 20 i.toNatClampNeg).toNatClampNeg < (6 : Int32).toNatClampNeg from cl_lt pa b6, rfl⟩
  have bl := kn_lt fr kb (by decide)
  have kz : ∀ x, ¬ K x = 0 → x < n + 1 := fun x hx => Classical.byContradiction (fun q => hx (fr x (by omega)))
  rw [a_enter1 (M := a_m45) rfl (a_cat_rf (a_cat_rf a_cat_nil)) (show 2 ≤ 3 by decide)]
  show a_at _ (a_xm a_m45) 0 [some (a_rf (C + 14)), some (a_rf a), none] [] _ _
  simp only [q45_0, q45_1, q45_2, q45_5, q45_8, q45_9, q45_10, q45_13, q45_14, q45_15, q45_16, q45_19, q45_22, k_14 hS, z_14, r_14_0 hS, k_1 hS, z_1, sp_benchAt hS gB, as_nil, as_i, as_r, Nat.reduceAdd, Nat.reduceLeDiff, z_eq0, z_eq1, z_or, z_em, Classical.not_not, not_false_eq_true, not_true_eq_false, true_and, and_true, false_and, and_false, and_self, true_implies, false_implies, implies_true, Option.toList_some, Option.toList_none, List.cons_append, List.nil_append, Nat.add_eq_zero_iff, a_nl_i, a_nl_r, a_nl_n, true_or, or_true, eq_self, a_isRA_22, a_isRA_24, a_isRA_32, a_isA_20, ok_4, ok_5, ok_6, ok_7, ok_9, ok_20, ok_21, ok_30, ok_50, ok_180, ok_192, ok_200, ha, a0, e13, hbc, kb, kb0]
  try simp only [true_and, and_true, true_implies, false_implies, implies_true, not_true_eq_false, not_false_eq_true]
  refine ce_remember (d := d + 2) kb ha hH hj (by rw [e14]; exact ⟨ps.1, by clear hP hse gA gB gX; grind⟩) (fun n' t' K' L' J R' hH' hQ hrm => ?_)
  obtain ⟨rm1, rm2, rm3⟩ := hrm
  have kk : ∀ x, ¬ K x = 0 → K' x = K x ∧ L' x = L x := fun x hx => ⟨hQ.2.1 x (kz x hx), hQ.2.2.1 x (kz x hx)⟩
  have ha' : K' a = 1 := by rw [(kk a (by rw [ha]; decide)).1]; exact ha
  have hb' : K' (R (C + 16) (Y 20 i.toNatClampNeg).toNatClampNeg) = 3 := by rw [(kk _ (by rw [kb]; decide)).1]; exact kb
  have hT' := hH'.1
  have hS' := hT'.s
  have n5 : ∀ x, ¬ K x = 20 → ¬ x = R (R (C + 16) (Y 20 i.toNatClampNeg).toNatClampNeg) 5 := fun x hx e => hx (by rw [e]; exact pp2)
  have jJ : ∀ x j, ¬ K x = 0 → ¬ K x = 20 → ¬ (K x = 3 ∧ j = 6) → J x j = I x j := fun x j k0 k20 k3 => rm3 x j (kz x k0) (fun q => k3 (by rw [q.1]; exact ⟨kb, q.2⟩)) (n5 x k20)
  have R16 : ∀ j, R' (C + 16) j = R (C + 16) j := fun j => rm1 _ _ (by have := hH.2.2.1; omega) (by omega)
  have hc1 : cpP C K' L' J R' Y := by
    refine cp_mk hT hc (fun _ _ _ => rfl) hy.2.2.2.2.2.2.1 kk (fun x j k0 k3 _ _ _ => rm1 x j (kz x k0) (fun q => k3 (by rw [q.1]; exact ⟨kb, q.2⟩))) (fun k j hk => rm3 _ _ (by have := hH.2.2.1; omega) (by omega) (by omega)) (fun x j kx _ _ => jJ x j (by rw [kx]; decide) (by rw [kx]; decide) (by rw [kx]; omega)) (fun x j kx k6 => jJ x j (by rw [kx]; decide) (by rw [kx]; decide) (by omega)) (fun x j kx => jJ x j (by rw [kx]; decide) (by rw [kx]; decide) (by rw [kx]; omega)) (fun k k0 k1 j => ?_) (fun o o0 o1 => ?_) (plP_eq hc.2.1.2.2.2 (fun b b0 b1 => ?_) (fun b b0 b1 => ?_))
    · have hk := (hc.2.2.2.1.2 k k0 k1).1
      have h20 := (hT.g_txt _ hk).2.2.1
      obtain ⟨-, q⟩ := hse.2.2.1 k _ k0 k1 pa p6
      exact rm3 _ _ (kz _ (by rw [h20]; decide)) (fun e => by rw [e.1, kb] at h20; cases h20) q
    · have ao := hc.2.2.1.2.1 o o0 o1
      rw [jJ _ _ (by rw [ao.1]; decide) (by rw [ao.1]; decide) (by rw [ao.1]; omega), jJ _ _ (by rw [ao.1]; decide) (by rw [ao.1]; decide) (by rw [ao.1]; omega)]
      exact (hc.2.2.1.2.2.2 o o0 o1).2.2.2.1
    · obtain ⟨d2, d3, d4⟩ := hse.1 b b0 b1
      have k1 := (hc.2.1.2.2.1 b b0 b1).1
      have h20 := (hT.g_bnc _ k1).2.1.2.1
      have q := hse.2.2.2 _ b pa p6 b0 b1
      unfold whC
      funext j
      refine rm3 _ _ (kz _ (by rw [h20]; decide)) (fun e => by rw [e.1, kb] at h20; cases h20) (by rw [d2]; omega)
    · obtain ⟨d2, d3, d4⟩ := hse.1 b b0 b1
      have k1 := (hc.2.1.2.2.1 b b0 b1).1
      have h20 := (hT.g_bnc _ k1).2.2.1.2.1
      have q := hse.2.2.2 _ b pa p6 b0 b1
      unfold snC
      funext j
      refine rm3 _ _ (kz _ (by rw [h20]; decide)) (fun e => by rw [e.1, kb] at h20; cases h20) (by rw [d3]; omega)
  have hse1 : seP C R' Y := by
    have rB : ∀ b : Int32, 0 ≤ b → b < Y 0 6 → ∀ j, ¬ j = 5 → R' (R (C + 16) b.toNatClampNeg) j = R (R (C + 16) b.toNatClampNeg) j := fun b b0 b1 j hj => rm1 _ _ (kz _ (by rw [(hc.2.1.2.2.1 b b0 b1).1]; decide)) (fun q => hj q.2)
    have rB5 : ∀ b : Int32, 0 ≤ b → b < Y 0 6 → R' (R (C + 16) b.toNatClampNeg) 5 = R (R (C + 16) b.toNatClampNeg) 5 ∨ R' (R (C + 16) b.toNatClampNeg) 5 = n + 1 := fun b b0 b1 => by
      by_cases e : (R (C + 16) b.toNatClampNeg) = (R (C + 16) (Y 20 i.toNatClampNeg).toNatClampNeg)
      · rw [e]
        exact rm2
      · exact Or.inl (rm1 _ _ (kz _ (by rw [(hc.2.1.2.2.1 b b0 b1).1]; decide)) (fun q => e q.1))
    have rX : ∀ k : Int32, 0 ≤ k → k < Y 0 41 → R' (C + 8) k.toNatClampNeg = (R (C + 8) k.toNatClampNeg) ∧ R' (R (C + 8) k.toNatClampNeg) 2 = R (R (C + 8) k.toNatClampNeg) 2 ∧ R (R (C + 8) k.toNatClampNeg) 2 < n + 1 := fun k k0 k1 => by
      have hk := (hc.2.2.2.1.2 k k0 k1).1
      have h20 := (hT.g_txt _ hk).2.2.1
      exact ⟨rm1 _ _ (by have := hH.2.2.1; omega) (by omega), rm1 _ _ (kz _ (by rw [hk]; decide)) (by omega), kz _ (by rw [h20]; decide)⟩
    have low : ∀ b : Int32, 0 ≤ b → b < Y 0 6 → (R (C + 16) b.toNatClampNeg) + 3 < n + 1 := fun b b0 b1 => by
      have k1 := (hc.2.1.2.2.1 b b0 b1).1
      have h20 := (hT.g_bnc _ k1).2.2.2.1.2.1
      rw [(hse.1 b b0 b1).2.2] at h20
      exact kz _ (by rw [h20]; decide)
    refine ⟨fun b b0 b1 => ?_, fun b c b0 b1 c0 c1 e => ?_, fun k b k0 k1 b0 b1 => ?_, fun b c b0 b1 c0 c1 => ?_⟩
    · rw [R16, rB b b0 b1 2 (by omega), rB b b0 b1 3 (by omega), rB b b0 b1 4 (by omega)]
      exact hse.1 b b0 b1
    · rw [R16, R16] at e
      exact hse.2.1 b c b0 b1 c0 c1 e
    · obtain ⟨x1, x2, x3⟩ := rX k k0 k1
      rw [x1, x2, R16]
      obtain ⟨q1, q2⟩ := hse.2.2.1 k b k0 k1 b0 b1
      refine ⟨q1, fun e => ?_⟩
      rcases rB5 b b0 b1 with q | q
      · rw [q] at e
        exact q2 e
      · omega
    · rw [R16, R16]
      have := low c c0 c1
      rcases rB5 b b0 b1 with q | q
      · rw [q]
        exact hse.2.2.2 b c b0 b1 c0 c1
      · omega
  have ap1 : aaP C K' J Y i a := by
    have ao := aa_of hc1 ai.1 ai.2
    rw [rm1 _ _ (by have := hH.2.2.1; omega) (by omega), haa] at ao
    exact ao
  have R15 : ∀ j, R' (C + 15) j = R (C + 15) j := fun j => rm1 _ _ (by have := hH.2.2.1; omega) (by omega)
  have f14 : J a 14 = Y 21 i.toNatClampNeg := ap1.2.2.2.2.2.2.1.2
  have hlift : ∀ J2, dL C K' L' R' J J2 → (∀ x j, K x = 1 → J2 x j = J x j) → cpP C K' L' J2 R' Y → a_does (d + 4) 51 [a_rf (C + 14), a_rf a] (n' + 1, t', K', L', J2, R') (fun r h' => a_at (d + 4) (a_xm a_m45) 49 [some (a_rf (C + 14)), some (a_rf a), some (a_rf (R (C + 16) (Y 20 i.toNatClampNeg).toNatClampNeg))] (r.toList ++ []) h' P) := fun J2 hJ2 hk2 hc2 => by
    have ap2 : aaP C K' J2 Y i a := by
      have ao := aa_of hc2 ai.1 ai.2
      rw [R15, haa] at ao
      exact ao
    refine ce_lift (d := d) hJ2.1 hc2 hse1 ap2 (by rw [R15]; exact haa) pa (fun J3 hJ3 hc3 _ haz => ?_)
    have hp := hP n' t' K' L' J3 R' (cH_J hH' hJ3.1) (dQ_Q hQ (dQ_L (dL_L hJ2 hJ3))) hc3 hse1 R15 (fun x j kx hx => by
      have k2 := (kk x (by rw [kx]; decide)).1
      rw [haz x j (by rw [k2]; exact kx) hx, hk2 x j kx]
      exact jJ x j (by rw [kx]; decide) (by rw [kx]; decide) (by rw [kx]; omega))
    clear hP hc hc1 hc2 hc3 ap ap1 ap2 al am hse hse1
    simp only [q45_49, as_nil, as_i, as_r, Nat.reduceAdd, Nat.reduceLeDiff, z_eq0, z_eq1, z_or, z_em, Classical.not_not, not_false_eq_true, not_true_eq_false, true_and, and_true, false_and, and_false, and_self, true_implies, false_implies, implies_true, Option.toList_some, Option.toList_none, List.cons_append, List.nil_append, Nat.add_eq_zero_iff, a_nl_i, a_nl_r, a_nl_n, true_or, or_true, eq_self, a_isRA_22, a_isRA_24, a_isRA_32, a_isA_20, ok_4, ok_5, ok_6, ok_7, ok_9, ok_20, ok_21, ok_30, ok_50, ok_180, ok_192, ok_200]
    exact hp
  have hdate : a_does (d + 4) 50 [a_rf (R (C + 16) (Y 20 i.toNatClampNeg).toNatClampNeg), .int (J a 14), .int (J a 14 + J a 2 - 1), .int (J (C + 1) 6)] (n' + 1, t', K', L', J, R') (fun r h' => a_at (d + 4) (a_xm a_m45) 44 [some (a_rf (C + 14)), some (a_rf a), some (a_rf (R (C + 16) (Y 20 i.toNatClampNeg).toNatClampNeg))] (r.toList ++ []) h' P) := by
    refine ce_date (d := d + 3) hb' hT' (by rw [f14]; exact ⟨ps.1, ps.2.2⟩) (fun J2 hJ2 hd => ?_)
    have e4 : R' (R (C + 16) (Y 20 i.toNatClampNeg).toNatClampNeg) 4 = (R (C + 16) (Y 20 i.toNatClampNeg).toNatClampNeg) + 3 := by rw [rm1 _ _ bl (by omega)]; exact eB4
    have k4 : K' ((R (C + 16) (Y 20 i.toNatClampNeg).toNatClampNeg) + 3) = 20 := by rw [← e4]; exact (hT'.g_bnc _ hb').2.2.2.1.2.1
    have hl := hlift J2 hJ2 (fun x j kx => hd _ _ (fun e => by
      have k2 := (kk x (by rw [kx]; decide)).1
      rw [kx, e, e4, k4] at k2
      cases k2)) (cp_fr hT' hc1 (fun k j hk => hd _ _ (by rw [e4]; omega)) (fun x j kx => hd _ _ (fun e => by rw [e, e4, k4] at kx; cases kx)) (fun x j kx _ => hd _ _ (fun e => by rw [e, e4, k4] at kx; cases kx)) (fun x j kx => hd _ _ (fun e => by rw [e, e4, k4] at kx; cases kx)) (fun k k0 k1 j => hd _ _ (by
      have q := (hse1.2.2.1 k _ k0 k1 pa p6).1
      rw [R16] at q
      rw [e4]
      omega)) (fun o o0 o1 j => by
      obtain ⟨d2, d3, d4⟩ := hse1.1 o o0 o1
      rw [d2, d3]
      by_cases e : o = Y 20 i.toNatClampNeg
      · subst e
        rw [R16]
        exact ⟨hd _ _ (by rw [e4]; omega), hd _ _ (by rw [e4]; omega)⟩
      · have := se_ne hT' hc1 hse1 ⟨o0, o1⟩ ⟨pa, p6⟩ e
        rw [R16, R16] at this
        rw [R16]
        exact ⟨hd _ _ (by rw [e4]; omega), hd _ _ (by rw [e4]; omega)⟩))
    clear hP hc hc1 ap ap1 al am hse hse1 hlift hd
    have hS2 := hJ2.1.s
    simp only [q45_44, q45_45, q45_46, k_14 hS, z_14, as_nil, as_i, as_r, Nat.reduceAdd, Nat.reduceLeDiff, z_eq0, z_eq1, z_or, z_em, Classical.not_not, not_false_eq_true, not_true_eq_false, true_and, and_true, false_and, and_false, and_self, true_implies, false_implies, implies_true, Option.toList_some, Option.toList_none, List.cons_append, List.nil_append, Nat.add_eq_zero_iff, a_nl_i, a_nl_r, a_nl_n, true_or, or_true, eq_self, a_isRA_22, a_isRA_24, a_isRA_32, a_isA_20, ok_4, ok_5, ok_6, ok_7, ok_9, ok_20, ok_21, ok_30, ok_50, ok_180, ok_192, ok_200, ha', a0]
    try simp only [true_and, and_true, true_implies, false_implies, implies_true, not_true_eq_false, not_false_eq_true]
    first
      | exact hl
      | exact ⟨k_14 hS2, hl⟩
  clear hP hc hc1 ap ap1 al am hse hse1 hlift hS
  simp only [q45_25, q45_26, q45_27, q45_30, q45_31, q45_34, q45_35, q45_38, q45_41, k_14 hS', z_14, r_14_0 hS', k_1 hS', z_1, sp_last, as_nil, as_i, as_r, Nat.reduceAdd, Nat.reduceLeDiff, z_eq0, z_eq1, z_or, z_em, Classical.not_not, not_false_eq_true, not_true_eq_false, true_and, and_true, false_and, and_false, and_self, true_implies, false_implies, implies_true, Option.toList_some, Option.toList_none, List.cons_append, List.nil_append, Nat.add_eq_zero_iff, a_nl_i, a_nl_r, a_nl_n, true_or, or_true, eq_self, a_isRA_22, a_isRA_24, a_isRA_32, a_isA_20, ok_4, ok_5, ok_6, ok_7, ok_9, ok_20, ok_21, ok_30, ok_50, ok_180, ok_192, ok_200, ha', a0, hb', kb0]
  try simp only [true_and, and_true, true_implies, false_implies, implies_true, not_true_eq_false, not_false_eq_true]
  exact hdate
end YB0
end
section
/-! what is kept: the model's words hang on it -/
/-- cells of the model that are kept, but for STANDING -/
def ps1 (k j : Nat) : Prop := (k = 0 ∧ (j ≤ 17 ∨ j = 40 ∨ j = 41 ∨ j = 79)) ∨ (1 ≤ k ∧ k ≤ 21) ∨ (27 ≤ k ∧ k ≤ 31) ∨ (35 ≤ k ∧ k ≤ 38) ∨ k = 47 ∨ k = 52
/-- what is kept is the same: all these cells, and who stands where a place is -/
def psE (Y Z : Nat → Nat → Int32) : Prop := (∀ k j, ps1 k j → Z k j = Y k j) ∧ ∀ o : Int32, 0 ≤ o → o < 30 → 0 ≤ Y 20 o.toNatClampNeg → ∀ i : Int32, 0 ≤ i → i < Y 10 o.toNatClampNeg → Z 22 (4 * o + i).toNatClampNeg = Y 22 (4 * o + i).toNatClampNeg
section YC0
variable {Y Z X : Nat → Nat → Int32}
theorem pr_r (h : psE Y Z) {k : Nat} (hk : (1 ≤ k ∧ k ≤ 21) ∨ (27 ≤ k ∧ k ≤ 31) ∨ (35 ≤ k ∧ k ≤ 38) ∨ k = 47 ∨ k = 52) : Z k = Y k := funext (fun j => h.1 k j (by unfold ps1; omega))
theorem psE_tr (h : psE Y Z) (h2 : psE Z X) : psE Y X := ⟨fun k j p => (h2.1 k j p).trans (h.1 k j p), fun o o0 o1 o2 i i0 i1 => (h2.2 o o0 o1 (by rw [pr_r h (k := 20) (by omega)]; exact o2) i i0 (by rw [pr_r h (k := 10) (by omega)]; exact i1)).trans (h.2 o o0 o1 o2 i i0 i1)⟩
theorem psE_b (h : psE Y Z) : sbE Y Z := fun k j p => h.1 k j (by unfold sb at p; unfold ps1; omega)
theorem psE_of (h : ∀ k j, ps1 k j ∨ k = 22 → Z k j = Y k j) : psE Y Z := ⟨fun k j p => h k j (Or.inl p), fun _ _ _ _ _ _ _ => h _ _ (Or.inr rfl)⟩
theorem fhY_p (hn : 0 ≤ Y 0 17 ∧ Y 0 17 ≤ 30) (hl : ∀ j, 0 ≤ Y 10 j ∧ Y 10 j ≤ 4) (h : psE Y Z) {a b s : Int32} : fhY Z a b s = fhY Y a b s := fhY_c hn hl (pr_r h (k := 6) (by omega)) (h.1 0 17 (by unfold ps1; omega)) (h.1 0 9 (by unfold ps1; omega)) (fun o o0 o1 _ => ⟨by rw [pr_r h (k := 20) (by omega)], by rw [pr_r h (k := 21) (by omega)], by rw [pr_r h (k := 10) (by omega)], fun o2 => h.2 o o0 o1 o2⟩)
theorem hgI_p (h : psE Y Z) {a b s : Int32} : ∀ (k : Nat) (o g : Int32), hgI Z a b s k o g = hgI Y a b s k o g := by
  intro k
  induction k with
  | zero => intro o g; rfl
  | succ k ih =>
    intro o g
    unfold hgI
    rw [pr_r h (k := 20) (by omega), pr_r h (k := 21) (by omega), pr_r h (k := 10) (by omega), pr_r h (k := 14) (by omega), ih]
theorem brY_p (hn : 0 ≤ Y 0 17 ∧ Y 0 17 ≤ 30) (hl : ∀ j, 0 ≤ Y 10 j ∧ Y 10 j ≤ 4) (h : psE Y Z) {a b s f : Int32} : brY Z a b s f = brY Y a b s f := by
  unfold brY
  rw [fxY_b (psE_b h), h.1 0 17 (by unfold ps1; omega), hgI_p h, wtA_b (psE_b h), wtA_b (psE_b h), fhY_p hn hl h, pr_r h (k := 7) (by omega), pr_r h (k := 16) (by omega), pr_r h (k := 17) (by omega), pr_r h (k := 20) (by omega), pr_r h (k := 21) (by omega), pr_r h (k := 10) (by omega)]
theorem ftI_p (hn : 0 ≤ Y 0 17 ∧ Y 0 17 ≤ 30) (hl : ∀ j, 0 ≤ Y 10 j ∧ Y 10 j ≤ 4) (h : psE Y Z) {a b f : Int32} : ∀ (k : Nat) (i : Int32), ftI Z a b f k i = ftI Y a b f k i := by
  intro k
  induction k with
  | zero => intro i; rfl
  | succ k ih =>
    intro i
    unfold ftI
    rw [brY_p hn hl h, ih]
theorem ftY_p (hn : 0 ≤ Y 0 17 ∧ Y 0 17 ≤ 30) (hl : ∀ j, 0 ≤ Y 10 j ∧ Y 10 j ≤ 4) (h : psE Y Z) {a b f : Int32} : ftY Z a b f = ftY Y a b f := by
  unfold ftY
  rw [pr_r h (k := 10) (by omega), ftI_p hn hl h]
theorem sdY_p (hn : 0 ≤ Y 0 17 ∧ Y 0 17 ≤ 30) (hl : ∀ j, 0 ≤ Y 10 j ∧ Y 10 j ≤ 4) (h : psE Y Z) {a b s i : Int32} : sdY Z a b s i = sdY Y a b s i := by
  unfold sdY
  rw [fhY_p hn hl h, wtA_b (psE_b h)]
theorem puY_p (hn : 0 ≤ Y 0 17 ∧ Y 0 17 ≤ 30) (hl : ∀ j, 0 ≤ Y 10 j ∧ Y 10 j ≤ 4) (h : psE Y Z) {a b s : Int32} (ha : 0 ≤ a ∧ a < 30) : psE (puY Y a b s) (puY Z a b s) := by
  refine ⟨fun k j p => ?_, fun o o0 o1 o2 i i0 i1 => ?_⟩
  · unfold puY
    by_cases e1 : k = 20 ∧ j = a.toNatClampNeg
    · rw [if_pos e1, if_pos e1]
    · rw [if_neg e1, if_neg e1]
      by_cases e2 : k = 21 ∧ j = a.toNatClampNeg
      · rw [if_pos e2, if_pos e2]
      · rw [if_neg e2, if_neg e2, if_neg (by unfold ps1 at p; omega), if_neg (by unfold ps1 at p; omega)]
        exact h.1 k j p
  · have e10 : Z 10 = Y 10 := pr_r h (k := 10) (by omega)
    have p10 : puY Y a b s 10 o.toNatClampNeg = Y 10 o.toNatClampNeg := by
      unfold puY
      rw [if_neg (by omega), if_neg (by omega), if_neg (by omega)]
    rw [p10] at i1
    have i4 := Int32.lt_of_lt_of_le i1 (hl o.toNatClampNeg).2
    have hlt := cl_lt i0 i1
    obtain ⟨n1, -, -⟩ := n4 ⟨o0, o1⟩ ⟨i0, i4⟩
    have q20 : ((22 : Nat) = 20) = False := eq_false (by decide)
    have q21 : ((22 : Nat) = 21) = False := eq_false (by decide)
    unfold puY at o2 ⊢
    simp only [q20, q21, false_and, if_false, true_and, e10]
    by_cases e : 4 * a.toNatClampNeg ≤ (4 * o + i).toNatClampNeg ∧ (4 * o + i).toNatClampNeg < 4 * a.toNatClampNeg + (Y 10 a.toNatClampNeg).toNatClampNeg
    · rw [if_pos e, if_pos e, sdY_p hn hl h]
    · rw [if_neg e, if_neg e]
      have eo : ¬ o = a := fun eo => by
        subst eo
        exact e ⟨by omega, by omega⟩
      rw [if_neg (fun q => eo (cl_inj o0 ha.1 q.2)), if_neg (by omega), if_neg (by omega)] at o2
      exact h.2 o o0 o1 o2 i i0 i1
theorem unY_p (h : psE Y Z) {a : Int32} (ha : 0 ≤ a ∧ a < 30) : psE (unY Y a) (unY Z a) := by
  refine ⟨fun k j p => ?_, fun o o0 o1 o2 i i0 i1 => ?_⟩
  · unfold unY
    by_cases e1 : (k = 20 ∨ k = 21) ∧ j = a.toNatClampNeg
    · rw [if_pos e1, if_pos e1]
    · rw [if_neg e1, if_neg e1]
      exact h.1 k j p
  · unfold unY at o2 i1 ⊢
    by_cases e : o.toNatClampNeg = a.toNatClampNeg
    · rw [if_pos ⟨Or.inl rfl, e⟩] at o2
      exact absurd o2 (by decide)
    · rw [if_neg (fun q => e q.2)] at o2
      rw [if_neg (by omega)] at i1
      rw [if_neg (by omega), if_neg (by omega)]
      exact h.2 o o0 o1 o2 i i0 i1
/-- MARK of an ASK; rank; which goes ahead -/
def maY (Y : Nat → Nat → Int32) (a : Int32) : Int32 := mkY (cmY Y) (hsY Y) a
def rkY (Y : Nat → Nat → Int32) (a : Int32) : Int32 := if Y 7 a.toNatClampNeg = 5 then 0 else if Y 7 a.toNatClampNeg = 3 then 1 else 2
def ahB (Y : Nat → Nat → Int32) (a b : Int32) : Bool := if rkY Y a = rkY Y b then (if maY Y a = maY Y b then decide (a < b) else decide (maY Y b < maY Y a)) else decide (rkY Y a < rkY Y b)
theorem ahB_b (h : sbE Y Z) {a b : Int32} : ahB Z a b = ahB Y a b := by
  unfold ahB rkY maY
  rw [sbE_r h (k := 7) (by omega), cmY_b h, hsY_b h]
/-- an ASK is put into the row of ORDER -/
def inS (Y : Nat → Nat → Int32) (a : Int32) : Nat → (Nat → Int32) → (Nat → Int32)
  | 0, o => up1 o 0 a
  | p + 1, o => if ahB Y a (o p) = true then inS Y a p (up1 o (p + 1) (o p)) else up1 o (p + 1) a
theorem inS_all {Q : Int32 → Prop} {a : Int32} (ha : Q a) {m : Nat} : ∀ (p : Nat) (o : Nat → Int32), p ≤ m → (∀ j, j ≤ m → ¬ j = p → Q (o j)) → ∀ j, j ≤ m → Q (inS Y a p o j) := by
  intro p
  induction p with
  | zero =>
    intro o _ h j hj
    unfold inS up1
    by_cases e : j = 0
    · rw [if_pos e]
      exact ha
    · rw [if_neg e]
      exact h j hj e
  | succ p ih =>
    intro o hp h j hj
    unfold inS
    by_cases c : ahB Y a (o p) = true
    · rw [if_pos c]
      refine ih _ (by omega) (fun i hi hn => ?_) j hj
      unfold up1
      by_cases e : i = p + 1
      · rw [if_pos e]
        exact h p (by omega) (by omega)
      · rw [if_neg e]
        exact h i hi e
    · rw [if_neg c]
      unfold up1
      by_cases e : j = p + 1
      · rw [if_pos e]
        exact ha
      · rw [if_neg e]
        exact h j hj e
theorem inS_b (h : sbE Y Z) {a : Int32} : ∀ (p : Nat) (o : Nat → Int32), inS Z a p o = inS Y a p o := by
  intro p
  induction p with
  | zero => intro o; rfl
  | succ p ih =>
    intro o
    unfold inS
    rw [ahB_b h, ih]
/-- the row of ORDER of those that are marked -/
def orF (Y : Nat → Nat → Int32) (q : Int32 → Bool) : Nat → Int32 → (Nat → Int32) × Nat → (Nat → Int32) × Nat
  | 0, _, p => p
  | k + 1, a, p => orF Y q k (a + 1) (if q a = true then (inS Y a p.2 p.1, p.2 + 1) else p)
/-- SHIFTS given of a LAND, SHARE -/
def shI (Y : Nat → Nat → Int32) (a f e : Int32) : Nat → Int32 → Int32 → Int32
  | 0, _, n => n
  | k + 1, o, n => shI Y a f e k (o + 1) (if ¬ o = a ∧ 0 ≤ Y 20 o.toNatClampNeg ∧ ¬ Y 7 o.toNatClampNeg = 5 ∧ Y 9 o.toNatClampNeg = Y 9 a.toNatClampNeg ∧ (f ≤ Y 21 o.toNatClampNeg ∧ Y 21 o.toNatClampNeg ≤ e) then n + ((if Y 21 o.toNatClampNeg + Y 10 o.toNatClampNeg - 1 < e then Y 21 o.toNatClampNeg + Y 10 o.toNatClampNeg - 1 else e) - Y 21 o.toNatClampNeg + 1) else n)
def shB (Y : Nat → Nat → Int32) (a f e : Int32) : Bool := if Y 7 a.toNatClampNeg = 5 then true else decide (shI Y a f e (Y 0 17).toNatClampNeg 0 (Y 10 a.toNatClampNeg) ≤ Y 0 10 * Y 0 6 * (e - f + 1) / 100)
/-- the first place at which an ASK fits -/
def gfB (Y : Nat → Nat → Int32) (a s : Int32) : Nat → Int32 → Int32
  | 0, _ => -1
  | k + 1, b => if ftY Y a b s = 0 then b else gfB Y a s k (b + 1)
def gfS (Y : Nat → Nat → Int32) (a e : Int32) : Nat → Int32 → Int32 × Int32
  | 0, s => (s, -1)
  | k + 1, s => if e < s + Y 10 a.toNatClampNeg - 1 then (s, -1) else if 0 ≤ gfB Y a s (Y 0 6).toNatClampNeg 0 then (s, gfB Y a s (Y 0 6).toNatClampNeg 0) else gfS Y a e k (s + 1)
/-- where the first place is, and what is then -/
def gnY (Y : Nat → Nat → Int32) (a f e : Int32) : Int32 × Int32 := gfS Y a e 240 f
def giY (Y : Nat → Nat → Int32) (a f e : Int32) (ok : Bool) : Nat → Nat → Int32 := if ok = true ∧ 0 ≤ (gnY Y a f e).2 then puY Y a (gnY Y a f e).2 (gnY Y a f e).1 else Y
/-- what holds of the model's words for its reader -/
def moY (Y : Nat → Nat → Int32) : Prop := mkP Y ∧ tsY Y ∧ (∀ j, j < (Y 0 2).toNatClampNeg → (0 ≤ Y 2 j ∧ Y 2 j ≤ 1600) ∧ (1 ≤ Y 3 j ∧ Y 3 j ≤ 60)) ∧ inP Y ∧ hbP Y
theorem moY_b (h : moY Y) (hb : sbE Y Z) (hi : inP Z) : moY Z := by
  obtain ⟨h1, h2, h3, -, h5⟩ := h
  refine ⟨fun k q => ?_, fun x hx => ?_, fun j hj => ?_, hi, fun b => by rw [sbE_r hb (k := 6) (by omega)]; exact h5 b⟩
  · rw [sbE_r hb (k := 38) (by omega)] at q
    rw [sbE_r hb (k := 36) (by omega)]
    exact h1 k q
  · rw [hb 0 41 (by unfold sb; omega)] at hx
    rw [wt_b hb, sbE_r hb (k := 29) (by omega)]
    exact h2 x hx
  · rw [hb 0 2 (by unfold sb; omega)] at hj
    rw [sbE_r hb (k := 2) (by omega), sbE_r hb (k := 3) (by omega)]
    exact h3 j hj
theorem inP_p (hi : inP Y) (h : psE Y Z) : inP Z := by
  unfold inP at hi ⊢
  rw [pr_r h (k := 20) (by omega), pr_r h (k := 21) (by omega), pr_r h (k := 10) (by omega)]
  exact hi
theorem moP_of {M : Nat} {J : Nat → Nat → Int32} (hR : mR M J) (hm : moY Y) (h : psE Y (yv M J)) : moP M J := by
  obtain ⟨h1, h2, h3, h4, h5⟩ := moY_b hm (psE_b h) (inP_p hm.2.2.2.1 h)
  exact ⟨hR, h1, h2, h3, h4, h5⟩
end YC0
end
section
/-! the reference: ORDER, SHARE, the first place -/
section YD0
variable {d n t M : Nat} {K L : Nat → Nat} {I I0 J J0 J1 J2 : Nat → Nat → Int32} {R : Nat → Nat → Nat} {P : Option Value → AH → Prop} {f : Nat → Int32} {e : Int32}
variable {Y Z : Nat → Nat → Int32}
/-- the reference's heap holds what is kept -/
def gs (M : Nat) (I J : Nat → Nat → Int32) (Y : Nat → Nat → Int32) : Prop := mR M J ∧ (∀ x j, (x < M ∨ M + 52 < x) → J x j = I x j) ∧ psE Y (yv M J)
theorem gs_C (h : gs M I0 I Y) (hC : mC M I J) : gs M I0 J Y := ⟨hC.1, fun x j p => by rw [hC.2 x j (by unfold sC; omega)]; exact h.2.1 x j p, psE_tr h.2.2 (psE_of (fun k j p => hC.2 _ _ (by unfold ps1 at p; unfold sC; omega)))⟩
theorem gs_ui (h : gs M I0 J Y) {k j : Nat} {v : Int32} (hR : mR M (a_ui J (M + k) j v)) (hk : k ≤ 52) (hp : ¬ ps1 k j ∧ ¬ k = 22) : gs M I0 (a_ui J (M + k) j v) Y := ⟨hR, fun x i p => by rw [ui_ap, if_neg (by omega)]; exact h.2.1 x i p, psE_tr h.2.2 (psE_of (fun k2 j2 p => by
  show a_ui J (M + k) j v (M + k2) j2 = J (M + k2) j2
  rw [ui_ap, if_neg (fun e => by
    have e1 : k2 = k := by omega
    rw [e1, e.2] at p
    exact p.elim hp.1 hp.2)]))⟩
theorem gs_u0 (h : gs M I0 J Y) {j : Nat} {v : Int32} (hR : mR M (a_ui J M j v)) (hp : ¬ ps1 0 j) : gs M I0 (a_ui J M j v) Y := gs_ui (k := 0) h hR (by omega) ⟨hp, by omega⟩
theorem xt_goesAhead (hS : m_S M K L R) (hm : moY Y) (hg : gs M I0 I Y) {a b : Int32} (ha : 0 ≤ a ∧ a < 30) (hb : 0 ≤ b ∧ b < 30) (hP : P (some (.int (if ahB Y a b = true then 1 else 0))) (n, t, K, L, I, R)) : a_does (d + 3) 237 [a_rf M, .int a, .int b] (n, t, K, L, I, R) P := by
  rw [← ahB_b (psE_b hg.2.2)] at hP
  have hmk := (moP_of hg.1 hm hg.2.2).2.1
  have ma := fun (Q : Option Value → AH → Prop) (q : Q (some (.int (maY (yv M I) a))) (n, t, K, L, I, R)) => xt_markFor (d := d) hS hg.1 hmk ha q
  have mb := fun (Q : Option Value → AH → Prop) (q : Q (some (.int (maY (yv M I) b))) (n, t, K, L, I, R)) => xt_markFor (d := d) hS hg.1 hmk hb q
  have ra : rkY (yv M I) a = if I (M + 7) a.toNatClampNeg = 5 then 0 else if I (M + 7) a.toNatClampNeg = 3 then 1 else 2 := rfl
  have rb : rkY (yv M I) b = if I (M + 7) b.toNatClampNeg = 5 then 0 else if I (M + 7) b.toNatClampNeg = 3 then 1 else 2 := rfl
  unfold ahB at hP
  generalize maY (yv M I) a = x at hP ma
  generalize maY (yv M I) b = y at hP mb
  generalize rkY (yv M I) a = p at hP ra
  generalize rkY (yv M I) b = q at hP rb
  have hend : ∀ v : Int32, v = (if (if p = q then (if x = y then decide (a < b) else decide (y < x)) else decide (p < q)) = true then 1 else 0) → P (some (.int v)) (n, t, K, L, I, R) := fun v e => by rw [e]; exact hP
  clear hP hg hm hmk
  have h79 : p = q → a_at (d + 2) (a_xm a_m237) 79 [some (a_rf M), some (.int a), some (.int b), some (.int p), some (.int q)] [] (n, t, K, L, I, R) P := fun e => by
    simp only [q237_79, q237_80, q237_81, m_0 hS, m_K hS, as_nil, as_i, as_r, Nat.reduceAdd, Nat.reduceLeDiff, z_eq0, z_eq1, z_or, z_em, Classical.not_not, not_false_eq_true, not_true_eq_false, true_and, and_true, false_and, and_false, and_self, true_implies, false_implies, implies_true, Option.toList_some, Option.toList_none, List.cons_append, List.nil_append, Nat.add_eq_zero_iff, a_nl_i, a_nl_r, a_nl_n, true_or, or_true, eq_self, ok_4, ok_5, ok_6, ok_7, ok_9, ok_10, ok_20, ok_21, ok_24, ok_30, ok_48, ok_50, ok_60, ok_80, ok_120, ok_180, ok_192, ok_200, ok_900, ok_1000, ok_84000]
    refine ma _ ?_
    simp only [q237_84, q237_85, q237_86, m_0 hS, m_K hS, as_nil, as_i, as_r, Nat.reduceAdd, Nat.reduceLeDiff, z_eq0, z_eq1, z_or, z_em, Classical.not_not, not_false_eq_true, not_true_eq_false, true_and, and_true, false_and, and_false, and_self, true_implies, false_implies, implies_true, Option.toList_some, Option.toList_none, List.cons_append, List.nil_append, Nat.add_eq_zero_iff, a_nl_i, a_nl_r, a_nl_n, true_or, or_true, eq_self, ok_4, ok_5, ok_6, ok_7, ok_9, ok_10, ok_20, ok_21, ok_24, ok_30, ok_48, ok_50, ok_60, ok_80, ok_120, ok_180, ok_192, ok_200, ok_900, ok_1000, ok_84000]
    refine mb _ ?_
    simp only [q237_89, q237_92, q237_93, q237_94, m_0 hS, m_K hS, as_nil, as_i, as_r, Nat.reduceAdd, Nat.reduceLeDiff, z_eq0, z_eq1, z_or, z_em, Classical.not_not, not_false_eq_true, not_true_eq_false, true_and, and_true, false_and, and_false, and_self, true_implies, false_implies, implies_true, Option.toList_some, Option.toList_none, List.cons_append, List.nil_append, Nat.add_eq_zero_iff, a_nl_i, a_nl_r, a_nl_n, true_or, or_true, eq_self, ok_4, ok_5, ok_6, ok_7, ok_9, ok_10, ok_20, ok_21, ok_24, ok_30, ok_48, ok_50, ok_60, ok_80, ok_120, ok_180, ok_192, ok_200, ok_900, ok_1000, ok_84000]
    by_cases c : x = y
    · have h1 := hend 1
      have h0 := hend 0
      rw [if_pos e, if_pos c] at h1 h0
      simp only [q237_113, q237_114, q237_115, q237_118, q237_119, q237_122, q237_123, as_nil, as_i, as_r, Nat.reduceAdd, Nat.reduceLeDiff, z_eq0, z_eq1, z_or, z_em, Classical.not_not, not_false_eq_true, not_true_eq_false, true_and, and_true, false_and, and_false, and_self, true_implies, false_implies, implies_true, Option.toList_some, Option.toList_none, List.cons_append, List.nil_append, Nat.add_eq_zero_iff, a_nl_i, a_nl_r, a_nl_n, true_or, or_true, eq_self, ok_4, ok_5, ok_6, ok_7, ok_9, ok_10, ok_20, ok_21, ok_24, ok_30, ok_48, ok_50, ok_60, ok_80, ok_120, ok_180, ok_192, ok_200, ok_900, ok_1000, ok_84000, c]
      clear ma mb hend hS
      grind
    · have h1 := hend 1
      have h0 := hend 0
      rw [if_pos e, if_neg c] at h1 h0
      simp only [c]
      try simp only [true_and, and_true, true_implies, false_implies, implies_true, not_true_eq_false, not_false_eq_true]
      refine ma _ ?_
      simp only [q237_97, q237_98, q237_99, m_0 hS, m_K hS, as_nil, as_i, as_r, Nat.reduceAdd, Nat.reduceLeDiff, z_eq0, z_eq1, z_or, z_em, Classical.not_not, not_false_eq_true, not_true_eq_false, true_and, and_true, false_and, and_false, and_self, true_implies, false_implies, implies_true, Option.toList_some, Option.toList_none, List.cons_append, List.nil_append, Nat.add_eq_zero_iff, a_nl_i, a_nl_r, a_nl_n, true_or, or_true, eq_self, ok_4, ok_5, ok_6, ok_7, ok_9, ok_10, ok_20, ok_21, ok_24, ok_30, ok_48, ok_50, ok_60, ok_80, ok_120, ok_180, ok_192, ok_200, ok_900, ok_1000, ok_84000]
      refine mb _ ?_
      simp only [q237_102, q237_105, q237_106, q237_109, q237_110, q237_123, as_nil, as_i, as_r, Nat.reduceAdd, Nat.reduceLeDiff, z_eq0, z_eq1, z_or, z_em, Classical.not_not, not_false_eq_true, not_true_eq_false, true_and, and_true, false_and, and_false, and_self, true_implies, false_implies, implies_true, Option.toList_some, Option.toList_none, List.cons_append, List.nil_append, Nat.add_eq_zero_iff, a_nl_i, a_nl_r, a_nl_n, true_or, or_true, eq_self, ok_4, ok_5, ok_6, ok_7, ok_9, ok_10, ok_20, ok_21, ok_24, ok_30, ok_48, ok_50, ok_60, ok_80, ok_120, ok_180, ok_192, ok_200, ok_900, ok_1000, ok_84000]
      clear ma mb hend hS
      grind
  have h61 : a_at (d + 2) (a_xm a_m237) 61 [some (a_rf M), some (.int a), some (.int b), some (.int p), some (.int q)] [] (n, t, K, L, I, R) P := by
    have h1 := hend 1
    have h0 := hend 0
    simp only [q237_61, q237_62, q237_64, q237_67, q237_68, q237_70, q237_73, q237_74, q237_77, q237_78, q237_123, as_nil, as_i, as_r, Nat.reduceAdd, Nat.reduceLeDiff, z_eq0, z_eq1, z_or, z_em, Classical.not_not, not_false_eq_true, not_true_eq_false, true_and, and_true, false_and, and_false, and_self, true_implies, false_implies, implies_true, Option.toList_some, Option.toList_none, List.cons_append, List.nil_append, Nat.add_eq_zero_iff, a_nl_i, a_nl_r, a_nl_n, true_or, or_true, eq_self, ok_4, ok_5, ok_6, ok_7, ok_9, ok_10, ok_20, ok_21, ok_24, ok_30, ok_48, ok_50, ok_60, ok_80, ok_120, ok_180, ok_192, ok_200, ok_900, ok_1000, ok_84000]
    clear ma mb hend hS ra rb
    grind
  clear h79 hend ma mb
  rw [a_enter1 (M := a_m237) rfl (a_cat_rf (a_cat_int (a_cat_int a_cat_nil))) (show 3 ≤ 5 by decide)]
  show a_at _ (a_xm a_m237) 0 [some (a_rf M), some (.int a), some (.int b), none, none] [] _ _
  simp only [q237_0, q237_1, q237_4, q237_5, q237_6, q237_7, q237_10, q237_11, q237_14, q237_15, q237_18, q237_19, q237_20, q237_21, q237_24, q237_25, q237_28, q237_29, q237_30, q237_31, q237_34, q237_35, q237_36, q237_37, q237_40, q237_41, q237_44, q237_45, q237_48, q237_49, q237_50, q237_51, q237_54, q237_55, q237_58, q237_59, m_0 hS, m_K hS, mR_kind hS, mK_kind hS, mL_kind hS, as_nil, as_i, as_r, Nat.reduceAdd, Nat.reduceLeDiff, z_eq0, z_eq1, z_or, z_em, Classical.not_not, not_false_eq_true, not_true_eq_false, true_and, and_true, false_and, and_false, and_self, true_implies, false_implies, implies_true, Option.toList_some, Option.toList_none, List.cons_append, List.nil_append, Nat.add_eq_zero_iff, a_nl_i, a_nl_r, a_nl_n, true_or, or_true, eq_self, ok_4, ok_5, ok_6, ok_7, ok_9, ok_10, ok_20, ok_21, ok_24, ok_30, ok_48, ok_50, ok_60, ok_80, ok_120, ok_180, ok_192, ok_200, ok_900, ok_1000, ok_84000]
  subst ra
  subst rb
  clear hS
  grind
theorem on_p {p : Nat} (h : p < 1000) : Int32.ofNat (p + 1) - 1 = Int32.ofNat p ∧ Int32.ofNat (p + 1) + (-1) = Int32.ofNat p ∧ (Int32.ofNat p).toNatClampNeg = p ∧ 0 < Int32.ofNat (p + 1) ∧ Int32.ofNat p + 1 = Int32.ofNat (p + 1) ∧ (Int32.ofNat p).toInt = p := by
  have e : ∀ q : Nat, q < 2000 → (Int32.ofNat q).toInt = q := fun q hq => by
    rw [Int32.toInt_ofNat', show Int32.size = 4294967296 from rfl]
    simp only [Int.bmod_def]
    omega
  have c1 : (1 : Int32).toInt = 1 := rfl
  have c2 : (-1 : Int32).toInt = -1 := rfl
  have c0 : (0 : Int32).toInt = 0 := rfl
  have e1 := e p (by omega)
  have e2 := e (p + 1) (by omega)
  refine ⟨Int32.toInt_inj.mp ?_, Int32.toInt_inj.mp ?_, ?_, ?_, Int32.toInt_inj.mp ?_, e1⟩
  · rw [Int32.toInt_sub, e2, e1, c1, in_bm (by omega) (by omega)]
    omega
  · rw [Int32.toInt_add, e2, e1, c2, in_bm (by omega) (by omega)]
    omega
  · show (Int32.ofNat p).toInt.toNat = p
    rw [e1]
    rfl
  · rw [Int32.lt_iff_toInt_lt, e2, c0]
    omega
  · rw [Int32.toInt_add, e1, e2, c1, in_bm (by omega) (by omega)]
    omega
theorem on_lt {p q : Nat} (hp : p < 1000) (hq : q < 1000) : (Int32.ofNat p < Int32.ofNat q) = (p < q) := by
  rw [Int32.lt_iff_toInt_lt, (on_p hp).2.2.2.2.2, (on_p hq).2.2.2.2.2]
  exact propext ⟨fun h => by omega, fun h => by omega⟩
theorem xt_findOrder_29 (hS : m_S M K L R) (hm : moY Y) {g a : Int32} {m : Nat} (ha : 0 ≤ a ∧ a < 30) (hm30 : m < 30) {V : Nat → Int32} (hN : ∀ J p, gs M I0 J Y → J M 64 = Int32.ofNat (m + 1) → (∀ j, j ≤ m → J (M + 40) j = V j) → a_at (d + 3) (a_xm a_m236) 7 [some (a_rf M), some (.int g), some (.int (a + 1)), some (.int p)] [] (n, t, K, L, J, R) P) : ∀ (p : Nat) (J : Nat → Nat → Int32) (o : Nat → Int32), p ≤ m → gs M I0 J Y → J M 64 = Int32.ofNat m → (∀ j, j ≤ m → ¬ j = p → J (M + 40) j = o j ∧ 0 ≤ o j ∧ o j < 30) → (∀ j, j ≤ m → inS Y a p o j = V j) → a_at (d + 3) (a_xm a_m236) 29 [some (a_rf M), some (.int g), some (.int a), some (.int (Int32.ofNat p))] [] (n, t, K, L, J, R) P := by
  have put : ∀ (p : Nat) (J : Nat → Nat → Int32), p ≤ m → gs M I0 J Y → J M 64 = Int32.ofNat m → (∀ j, j ≤ m → up1 (J (M + 40)) p a j = V j) → a_at (d + 3) (a_xm a_m236) 69 [some (a_rf M), some (.int g), some (.int a), some (.int (Int32.ofNat p))] [] (n, t, K, L, J, R) P := fun p J hp hg h64 hV => by
    obtain ⟨-, -, ep, -⟩ := on_p (p := p) (by omega)
    obtain ⟨-, -, -, -, em, -⟩ := on_p (p := m) (by omega)
    have hok : 0 ≤ Int32.ofNat p ∧ Int32.ofNat p < 30 := ⟨Int32.not_lt.mp (fun q => by rw [show (0 : Int32) = Int32.ofNat 0 from rfl, on_lt (by omega) (by omega)] at q; omega), by rw [show (30 : Int32) = Int32.ofNat 30 from rfl, on_lt (by omega) (by omega)]; omega⟩
    have hn := hN (a_ui (a_ui J (M + 40) p a) M 64 (Int32.ofNat (m + 1))) (Int32.ofNat p) (gs_u0 (gs_ui hg (sR_order hg.1 ⟨ha.1, by clear hN hV; grind⟩) (by omega) ⟨by unfold ps1; omega, by omega⟩) (sR_orderMany (sR_order hg.1 ⟨ha.1, by clear hN hV; grind⟩)) (by unfold ps1; omega)) (by rw [ui_ap, if_pos ⟨rfl, rfl⟩]) (fun j hj => by
      rw [ui_ap, if_neg (by omega), ui_ap, ← hV j hj]
      unfold up1
      by_cases e : j = p
      · rw [if_pos ⟨rfl, e⟩, if_pos e]
      · rw [if_neg (fun q => e q.2), if_neg e])
    clear hN hV hm hg
    simp only [q236_69, q236_70, q236_73, q236_74, q236_75, q236_76, q236_77, q236_78, q236_81, q236_82, q236_83, q236_86, q236_89, m_0 hS, m_K hS, mR_order hS, mK_order hS, mL_order hS, as_nil, as_i, as_r, Nat.reduceAdd, Nat.reduceLeDiff, z_eq0, z_eq1, z_or, z_em, Classical.not_not, not_false_eq_true, not_true_eq_false, true_and, and_true, false_and, and_false, and_self, true_implies, false_implies, implies_true, Option.toList_some, Option.toList_none, List.cons_append, List.nil_append, Nat.add_eq_zero_iff, a_nl_i, a_nl_r, a_nl_n, true_or, or_true, eq_self, ok_4, ok_5, ok_6, ok_7, ok_9, ok_10, ok_20, ok_21, ok_24, ok_30, ok_48, ok_50, ok_60, ok_80, ok_120, ok_180, ok_192, ok_200, ok_900, ok_1000, ok_84000, ui_ap, ne_MM, ne_M0, ne_0M, Nat.reduceEqDiff, reduceIte, if_true, if_false, h64, ep, em, hok]
    try simp only [true_and, and_true, true_implies, false_implies, implies_true, not_true_eq_false, not_false_eq_true]
    exact hn
  intro p
  induction p with
  | zero =>
    intro J o hp hg h64 ho hV
    have hput := put 0 J hp hg h64 (fun j hj => by
      rw [← hV j hj]
      unfold inS up1
      by_cases e : j = 0
      · rw [if_pos e, if_pos e]
      · rw [if_neg e, if_neg e]
        exact (ho j hj e).1)
    have e0 : Int32.ofNat 0 = 0 := rfl
    rw [e0] at hput ⊢
    clear put hN ho hV hm hg
    rw [q236_29]
    simp only [q236_30, as_nil, as_i, as_r, Nat.reduceAdd, Nat.reduceLeDiff, z_eq0, z_eq1, z_or, z_em, Classical.not_not, not_false_eq_true, not_true_eq_false, true_and, and_true, false_and, and_false, and_self, true_implies, false_implies, implies_true, Option.toList_some, Option.toList_none, List.cons_append, List.nil_append, Nat.add_eq_zero_iff, a_nl_i, a_nl_r, a_nl_n, true_or, or_true, eq_self, ok_4, ok_5, ok_6, ok_7, ok_9, ok_10, ok_20, ok_21, ok_24, ok_30, ok_48, ok_50, ok_60, ok_80, ok_120, ok_180, ok_192, ok_200, ok_900, ok_1000, ok_84000]
    first
      | exact hput
      | grind
  | succ p ih =>
    intro J o hp hg h64 ho hV
    obtain ⟨e1, e2, e3, e4, -, -⟩ := on_p (p := p) (by omega)
    obtain ⟨-, -, e3', -⟩ := on_p (p := p + 1) (by omega)
    obtain ⟨q1, q2⟩ := ho p (by omega) (by omega)
    have hok : 0 ≤ Int32.ofNat p ∧ Int32.ofNat p < 30 := ⟨Int32.not_lt.mp (fun q => by rw [show (0 : Int32) = Int32.ofNat 0 from rfl, on_lt (by omega) (by omega)] at q; omega), by rw [show (30 : Int32) = Int32.ofNat 30 from rfl, on_lt (by omega) (by omega)]; omega⟩
    have hok1 : 0 ≤ Int32.ofNat (p + 1) ∧ Int32.ofNat (p + 1) < 30 := ⟨Int32.le_of_lt e4, by rw [show (30 : Int32) = Int32.ofNat 30 from rfl, on_lt (by omega) (by omega)]; omega⟩
    have n0 : ¬ Int32.ofNat (p + 1) ≤ 0 := Int32.not_le.mpr e4
    have hput := put (p + 1) J hp hg h64
    clear put
    rw [q236_29]
    simp only [q236_30, q236_33, q236_34, q236_35, q236_36, q236_39, q236_40, q236_41, q236_42, q236_43, m_0 hS, m_K hS, mR_order hS, mK_order hS, mL_order hS, as_nil, as_i, as_r, Nat.reduceAdd, Nat.reduceLeDiff, z_eq0, z_eq1, z_or, z_em, Classical.not_not, not_false_eq_true, not_true_eq_false, true_and, and_true, false_and, and_false, and_self, true_implies, false_implies, implies_true, Option.toList_some, Option.toList_none, List.cons_append, List.nil_append, Nat.add_eq_zero_iff, a_nl_i, a_nl_r, a_nl_n, true_or, or_true, eq_self, ok_4, ok_5, ok_6, ok_7, ok_9, ok_10, ok_20, ok_21, ok_24, ok_30, ok_48, ok_50, ok_60, ok_80, ok_120, ok_180, ok_192, ok_200, ok_900, ok_1000, ok_84000, e1, e3, hok, n0, q1]
    try simp only [true_and, and_true, true_implies, false_implies, implies_true, not_true_eq_false, not_false_eq_true]
    refine xt_goesAhead (d := d) hS hm hg ha q2 ?_
    by_cases c : ahB Y a (o p) = true
    · rw [if_pos c]
      have n10 : ¬ (1 : Int32) = 0 := by decide
      have hg2 := ih (a_ui J (M + 40) (p + 1) (o p)) (up1 o (p + 1) (o p)) (by omega) (gs_ui hg (sR_order hg.1 ⟨q2.1, by clear ih hN hV ho hput; grind⟩) (by omega) ⟨by unfold ps1; omega, by omega⟩) (by rw [ui_ap, if_neg (by omega)]; exact h64) (fun j hj hn => by
        rw [ui_ap]
        unfold up1
        by_cases e : j = p + 1
        · rw [if_pos ⟨rfl, e⟩, if_pos e]
          exact ⟨rfl, q2⟩
        · rw [if_neg (fun q => e q.2), if_neg e]
          exact ho j hj e) (fun j hj => by
        rw [← hV j hj]
        conv => rhs; unfold inS
        rw [if_pos c])
      clear ih hN hV ho hm hg hput
      simp only [q236_46, q236_49, q236_50, q236_53, q236_54, q236_55, q236_58, q236_59, q236_60, q236_61, q236_62, q236_63, q236_66, m_0 hS, m_K hS, mR_order hS, mK_order hS, mL_order hS, as_nil, as_i, as_r, Nat.reduceAdd, Nat.reduceLeDiff, z_eq0, z_eq1, z_or, z_em, Classical.not_not, not_false_eq_true, not_true_eq_false, true_and, and_true, false_and, and_false, and_self, true_implies, false_implies, implies_true, Option.toList_some, Option.toList_none, List.cons_append, List.nil_append, Nat.add_eq_zero_iff, a_nl_i, a_nl_r, a_nl_n, true_or, or_true, eq_self, ok_4, ok_5, ok_6, ok_7, ok_9, ok_10, ok_20, ok_21, ok_24, ok_30, ok_48, ok_50, ok_60, ok_80, ok_120, ok_180, ok_192, ok_200, ok_900, ok_1000, ok_84000, e1, e2, e3, e3', hok, hok1, n10, q1]
      try simp only [true_and, and_true, true_implies, false_implies, implies_true, not_true_eq_false, not_false_eq_true]
      exact hg2
    · rw [if_neg c]
      have hput := hput (fun j hj => by
        rw [← hV j hj]
        unfold inS
        rw [if_neg c]
        unfold up1
        by_cases e : j = p + 1
        · rw [if_pos e, if_pos e]
        · rw [if_neg e, if_neg e]
          exact (ho j hj e).1)
      clear ih hN hV ho hm hg
      simp only [q236_46, as_nil, as_i, as_r, Nat.reduceAdd, Nat.reduceLeDiff, z_eq0, z_eq1, z_or, z_em, Classical.not_not, not_false_eq_true, not_true_eq_false, true_and, and_true, false_and, and_false, and_self, true_implies, false_implies, implies_true, Option.toList_some, Option.toList_none, List.cons_append, List.nil_append, Nat.add_eq_zero_iff, a_nl_i, a_nl_r, a_nl_n, true_or, or_true, eq_self, ok_4, ok_5, ok_6, ok_7, ok_9, ok_10, ok_20, ok_21, ok_24, ok_30, ok_48, ok_50, ok_60, ok_80, ok_120, ok_180, ok_192, ok_200, ok_900, ok_1000, ok_84000]
      first
        | exact hput
        | grind
/-- the bit of a set that a shift looks at -/
def btB (g : Int32) (a : Int32) : Bool := decide ((g >>> (a &&& 31)) &&& 1 = 1)
theorem xt_findOrder_7 (hS : m_S M K L R) (hm : moY Y) (h17 : 0 ≤ Y 0 17 ∧ Y 0 17 ≤ 30) {g : Int32} {V : (Nat → Int32) × Nat} (hP : ∀ J, gs M I0 J Y → J M 64 = Int32.ofNat V.2 → V.2 ≤ 30 → (∀ j, j < V.2 → J (M + 40) j = V.1 j ∧ 0 ≤ V.1 j ∧ V.1 j < Y 0 17) → P none (n, t, K, L, J, R)) : ∀ a : Int32, a ≤ 30 → ∀ J p o m, 0 ≤ a → a ≤ Y 0 17 → gs M I0 J Y → J M 64 = Int32.ofNat m → m ≤ a.toNatClampNeg → (∀ j, j < m → J (M + 40) j = o j ∧ 0 ≤ o j ∧ o j < Y 0 17) → orF Y (btB g) ((Y 0 17).toNatClampNeg - a.toNatClampNeg) a (o, m) = V → a_at (d + 3) (a_xm a_m236) 7 [some (a_rf M), some (.int g), some (.int a), p] [] (n, t, K, L, J, R) P := by
  have l30 := cl_le0 h17.1 h17.2
  rw [show (30 : Int32).toNatClampNeg = 30 from rfl] at l30
  refine up_ind 30 (fun a a30 ih => ?_)
  intro J p o m h0 h1 hg h64 hma ho hV
  have e17 : J M 17 = Y 0 17 := hg.2.2.1 0 17 (by unfold ps1; omega)
  generalize ez : Y 0 17 = z at h17 h1 l30 e17 hV ho ih hP
  have hexit : ¬ a < z → P none (n, t, K, L, J, R) := fun w => by
    rw [(lp_end h1 w).1] at hV
    have e : (o, m) = V := hV
    have := cl_le0 h0 h1
    rw [← e] at hP
    exact hP J hg h64 (by show m ≤ 30; omega) ho
  have hV2 : a < z → orF Y (btB g) (z.toNatClampNeg - (a + 1).toNatClampNeg) (a + 1) (if btB g a = true then (inS Y a m o, m + 1) else (o, m)) = V := fun w => by
    rw [(lp_st h0 w).1] at hV
    exact hV
  have hno : a < z → ¬ (g >>> (a &&& 31)) &&& 1 = 1 → ∀ p, a_at (d + 3) (a_xm a_m236) 7 [some (a_rf M), some (.int g), some (.int (a + 1)), p] [] (n, t, K, L, J, R) P := fun w c p => by
    obtain ⟨s1, s2, s3, s4⟩ := lp_st h0 w
    have hV := hV2 w
    rw [if_neg (show ¬ btB g a = true from fun q => c (of_decide_eq_true q))] at hV
    exact ih (Int32.lt_of_lt_of_le w h17.2) J p o m s2 s3 hg h64 (by omega) ho hV
  have hyes : a < z → (g >>> (a &&& 31)) &&& 1 = 1 → a_at (d + 3) (a_xm a_m236) 29 [some (a_rf M), some (.int g), some (.int a), some (.int (J M 64))] [] (n, t, K, L, J, R) P := fun w c => by
    obtain ⟨s1, s2, s3, s4⟩ := lp_st h0 w
    have hV := hV2 w
    rw [if_pos (show btB g a = true from decide_eq_true c)] at hV
    have aT := cl_lt h0 w
    rw [h64]
    refine xt_findOrder_29 (d := d) hS hm (I0 := I0) (m := m) ⟨h0, Int32.lt_of_lt_of_le w h17.2⟩ (by omega) (V := inS Y a m o) (fun J2 p2 g2 h2 ho2 => ?_) m J o (Nat.le_refl _) hg h64 (fun j hj hn => by
      obtain ⟨q1, q2, q3⟩ := ho j (by omega)
      exact ⟨q1, q2, Int32.lt_of_lt_of_le q3 h17.2⟩) (fun j hj => rfl)
    exact ih (Int32.lt_of_lt_of_le w h17.2) J2 (some (.int p2)) (inS Y a m o) (m + 1) s2 s3 g2 h2 (by omega) (fun j hj => ⟨ho2 j (by omega), inS_all (Y := Y) (Q := fun v => 0 ≤ v ∧ v < z) ⟨h0, w⟩ m o (Nat.le_refl _) (fun i hi hn => (ho i (by omega)).2) j (by omega)⟩) hV
  clear ih hP hV hV2 ho
  rw [q236_7]
  repeat' first
    | with_reducible apply And.intro
    | with_reducible assumption
    | with_reducible intro _
    | refine hexit ?_
    | refine hyes ?_ ?_
    | refine hno ?_ ?_ _
    | simp only [q236_8, q236_9, q236_12, q236_15, q236_16, q236_17, q236_18, q236_19, q236_20, q236_21, q236_24, q236_25, q236_28, q236_86, q236_89, q236_92, m_0 hS, m_K hS, as_nil, as_i, as_r, Nat.reduceAdd, Nat.reduceLeDiff, z_eq0, z_eq1, z_or, z_em, Classical.not_not, not_false_eq_true, not_true_eq_false, true_and, and_true, false_and, and_false, and_self, true_implies, false_implies, implies_true, Option.toList_some, Option.toList_none, List.cons_append, List.nil_append, Nat.add_eq_zero_iff, a_nl_i, a_nl_r, a_nl_n, true_or, or_true, eq_self, ok_4, ok_5, ok_6, ok_7, ok_9, ok_10, ok_20, ok_21, ok_24, ok_30, ok_48, ok_50, ok_60, ok_80, ok_120, ok_180, ok_192, ok_200, ok_900, ok_1000, ok_84000, e17]
  all_goals ((try clear hexit); (try clear hyes); (try clear hno); (try clear hS); (try clear h64); grind [ui_ap])
theorem xt_findOrder (hS : m_S M K L R) (hm : moY Y) (h17 : 0 ≤ Y 0 17 ∧ Y 0 17 ≤ 30) (hg : gs M I0 I Y) {g : Int32} (hP : ∀ J, gs M I0 J Y → J M 64 = Int32.ofNat (orF Y (btB g) (Y 0 17).toNatClampNeg 0 (fun _ => 0, 0)).2 → (orF Y (btB g) (Y 0 17).toNatClampNeg 0 (fun _ => 0, 0)).2 ≤ 30 → (∀ j, j < (orF Y (btB g) (Y 0 17).toNatClampNeg 0 (fun _ => 0, 0)).2 → J (M + 40) j = (orF Y (btB g) (Y 0 17).toNatClampNeg 0 (fun _ => 0, 0)).1 j ∧ 0 ≤ (orF Y (btB g) (Y 0 17).toNatClampNeg 0 (fun _ => 0, 0)).1 j ∧ (orF Y (btB g) (Y 0 17).toNatClampNeg 0 (fun _ => 0, 0)).1 j < Y 0 17) → P none (n, t, K, L, J, R)) : a_does (d + 4) 236 [a_rf M, .int g] (n, t, K, L, I, R) P := by
  have hl := xt_findOrder_7 (d := d) hS hm h17 hP 0 (by decide) (a_ui I M 64 0) none (fun _ => 0) 0 (by decide) h17.1 (gs_u0 hg (sR_orderMany hg.1) (by unfold ps1; omega)) (by rw [ui_ap, if_pos ⟨rfl, rfl⟩]; rfl) (Nat.zero_le _) (fun j hj => absurd hj (Nat.not_lt_zero j)) (by rw [lp_0])
  clear hP hm hg
  rw [a_enter1 (M := a_m236) rfl (a_cat_rf (a_cat_int a_cat_nil)) (show 2 ≤ 4 by decide)]
  show a_at _ (a_xm a_m236) 0 [some (a_rf M), some (.int g), none, none] [] _ _
  simp only [q236_0, q236_1, q236_2, q236_5, q236_6, m_0 hS, m_K hS, as_nil, as_i, as_r, Nat.reduceAdd, Nat.reduceLeDiff, z_eq0, z_eq1, z_or, z_em, Classical.not_not, not_false_eq_true, not_true_eq_false, true_and, and_true, false_and, and_false, and_self, true_implies, false_implies, implies_true, Option.toList_some, Option.toList_none, List.cons_append, List.nil_append, Nat.add_eq_zero_iff, a_nl_i, a_nl_r, a_nl_n, true_or, or_true, eq_self, ok_4, ok_5, ok_6, ok_7, ok_9, ok_10, ok_20, ok_21, ok_24, ok_30, ok_48, ok_50, ok_60, ok_80, ok_120, ok_180, ok_192, ok_200, ok_900, ok_1000, ok_84000]
  exact hl
theorem xt_isWithinShare_23 (hS : m_S M K L R) (hg : gs M I0 I Y) (h17 : 0 ≤ Y 0 17 ∧ Y 0 17 ≤ 30) {a f e : Int32} (ha : 0 ≤ a ∧ a < 30) {V : Int32} (hN : ∀ o u, a_at (d + 1) (a_xm a_m239) 141 [some (a_rf M), some (.int a), some (.int f), some (.int e), some (.int V), some (.int o), u] [] (n, t, K, L, I, R) P) : ∀ o : Int32, o ≤ 30 → ∀ q u, 0 ≤ o → o ≤ Y 0 17 → shI Y a f e ((Y 0 17).toNatClampNeg - o.toNatClampNeg) o q = V → a_at (d + 1) (a_xm a_m239) 23 [some (a_rf M), some (.int a), some (.int f), some (.int e), some (.int q), some (.int o), u] [] (n, t, K, L, I, R) P := by
  have e17 : I M 17 = Y 0 17 := hg.2.2.1 0 17 (by unfold ps1; omega)
  have e20 : ∀ j, I (M + 20) j = Y 20 j := fun j => hg.2.2.1 20 j (by unfold ps1; omega)
  have e21 : ∀ j, I (M + 21) j = Y 21 j := fun j => hg.2.2.1 21 j (by unfold ps1; omega)
  have e10 : ∀ j, I (M + 10) j = Y 10 j := fun j => hg.2.2.1 10 j (by unfold ps1; omega)
  have e7 : ∀ j, I (M + 7) j = Y 7 j := fun j => hg.2.2.1 7 j (by unfold ps1; omega)
  have e9 : ∀ j, I (M + 9) j = Y 9 j := fun j => hg.2.2.1 9 j (by unfold ps1; omega)
  clear hg
  generalize ez : Y 0 17 = z at h17 e17
  refine up_ind 30 (fun o o30 ih => ?_)
  intro q u h0 h1 hV
  have hexit : ¬ o < z → a_at (d + 1) (a_xm a_m239) 141 [some (a_rf M), some (.int a), some (.int f), some (.int e), some (.int q), some (.int o), u] [] (n, t, K, L, I, R) P := fun w => by
    rw [(lp_end h1 w).1] at hV
    have hn := hN o u
    rw [← hV] at hn
    exact hn
  have hgo : o < z → ∀ q2 u2, q2 = (if ¬ o = a ∧ 0 ≤ Y 20 o.toNatClampNeg ∧ ¬ Y 7 o.toNatClampNeg = 5 ∧ Y 9 o.toNatClampNeg = Y 9 a.toNatClampNeg ∧ (f ≤ Y 21 o.toNatClampNeg ∧ Y 21 o.toNatClampNeg ≤ e) then q + ((if Y 21 o.toNatClampNeg + Y 10 o.toNatClampNeg - 1 < e then Y 21 o.toNatClampNeg + Y 10 o.toNatClampNeg - 1 else e) - Y 21 o.toNatClampNeg + 1) else q) → a_at (d + 1) (a_xm a_m239) 23 [some (a_rf M), some (.int a), some (.int f), some (.int e), some (.int q2), some (.int (o + 1)), u2] [] (n, t, K, L, I, R) P := fun w q2 u2 eq => by
    obtain ⟨s1, s2, s3, s4⟩ := lp_st h0 w
    rw [s1] at hV
    unfold shI at hV
    rw [← eq] at hV
    exact ih (Int32.lt_of_lt_of_le w h17.2) q2 u2 s2 s3 hV
  have o30' : o < z → 0 ≤ o ∧ o < 30 := fun w => ⟨h0, Int32.lt_of_lt_of_le w h17.2⟩
  clear ih hN hV
  rw [q239_23]
  repeat' first
    | with_reducible apply And.intro
    | with_reducible assumption
    | with_reducible intro _
    | refine hexit ?_
    | refine hgo ?_ _ _ ?_
    | simp only [q239_25, q239_26, q239_29, q239_32, q239_34, q239_35, q239_38, q239_39, q239_41, q239_44, q239_47, q239_48, q239_51, q239_53, q239_54, q239_55, q239_58, q239_59, q239_62, q239_64, q239_65, q239_66, q239_69, q239_70, q239_71, q239_74, q239_75, q239_78, q239_80, q239_81, q239_82, q239_83, q239_86, q239_89, q239_90, q239_93, q239_95, q239_96, q239_97, q239_100, q239_102, q239_103, q239_104, q239_105, q239_106, q239_108, q239_110, q239_112, q239_113, q239_116, q239_118, q239_121, q239_122, q239_123, q239_126, q239_128, q239_129, q239_130, q239_131, q239_132, q239_133, q239_135, q239_138, m_0 hS, m_K hS, mR_kind hS, mK_kind hS, mL_kind hS, mR_land hS, mK_land hS, mL_land hS, mR_atShift hS, mK_atShift hS, mL_atShift hS, mR_length hS, mK_length hS, mL_length hS, sp_hasPlace hS, sp_in, as_nil, as_i, as_r, Nat.reduceAdd, Nat.reduceLeDiff, z_eq0, z_eq1, z_or, z_em, Classical.not_not, not_false_eq_true, not_true_eq_false, true_and, and_true, false_and, and_false, and_self, true_implies, false_implies, implies_true, Option.toList_some, Option.toList_none, List.cons_append, List.nil_append, Nat.add_eq_zero_iff, a_nl_i, a_nl_r, a_nl_n, true_or, or_true, eq_self, ok_4, ok_5, ok_6, ok_7, ok_9, ok_10, ok_20, ok_21, ok_24, ok_30, ok_48, ok_50, ok_60, ok_80, ok_120, ok_180, ok_192, ok_200, ok_900, ok_1000, ok_84000, e17, e20, e21, e10, e7, e9, ha]
  all_goals ((try clear hexit); (try clear hgo); (try clear e20); (try clear e21); (try clear e10); (try clear e7); (try clear e9); (try clear hS); grind [ui_ap])
theorem xt_isWithinShare (hS : m_S M K L R) (hg : gs M I0 I Y) (h17 : 0 ≤ Y 0 17 ∧ Y 0 17 ≤ 30) {a f e : Int32} (ha : 0 ≤ a ∧ a < 30) (hP : P (some (.int (if shB Y a f e = true then 1 else 0))) (n, t, K, L, I, R)) : a_does (d + 2) 239 [a_rf M, .int a, .int f, .int e] (n, t, K, L, I, R) P := by
  have e7 : I (M + 7) a.toNatClampNeg = Y 7 a.toNatClampNeg := hg.2.2.1 7 _ (by unfold ps1; omega)
  have e10 : I (M + 10) a.toNatClampNeg = Y 10 a.toNatClampNeg := hg.2.2.1 10 _ (by unfold ps1; omega)
  have es : I M 10 = Y 0 10 := hg.2.2.1 0 10 (by unfold ps1; omega)
  have eb : I M 6 = Y 0 6 := hg.2.2.1 0 6 (by unfold ps1; omega)
  unfold shB at hP
  by_cases c : Y 7 a.toNatClampNeg = 5
  · rw [if_pos c, if_pos rfl] at hP
    clear hg
    rw [a_enter1 (M := a_m239) rfl (a_cat_rf (a_cat_int (a_cat_int (a_cat_int a_cat_nil)))) (show 4 ≤ 7 by decide)]
    show a_at _ (a_xm a_m239) 0 [some (a_rf M), some (.int a), some (.int f), some (.int e), none, none, none] [] _ _
    simp only [q239_0, q239_1, q239_4, q239_5, q239_6, q239_7, q239_10, q239_11, m_0 hS, m_K hS, mR_kind hS, mK_kind hS, mL_kind hS, as_nil, as_i, as_r, Nat.reduceAdd, Nat.reduceLeDiff, z_eq0, z_eq1, z_or, z_em, Classical.not_not, not_false_eq_true, not_true_eq_false, true_and, and_true, false_and, and_false, and_self, true_implies, false_implies, implies_true, Option.toList_some, Option.toList_none, List.cons_append, List.nil_append, Nat.add_eq_zero_iff, a_nl_i, a_nl_r, a_nl_n, true_or, or_true, eq_self, ok_4, ok_5, ok_6, ok_7, ok_9, ok_10, ok_20, ok_21, ok_24, ok_30, ok_48, ok_50, ok_60, ok_80, ok_120, ok_180, ok_192, ok_200, ok_900, ok_1000, ok_84000, e7, c, ha]
    try simp only [true_and, and_true, true_implies, false_implies, implies_true, not_true_eq_false, not_false_eq_true]
    exact hP
  · rw [if_neg c] at hP
    have hl := xt_isWithinShare_23 (d := d) (n := n) (t := t) (P := P) (a := a) (f := f) (e := e) hS hg h17 ha (V := shI Y a f e (Y 0 17).toNatClampNeg 0 (Y 10 a.toNatClampNeg)) (fun o u => by
      generalize shI Y a f e (Y 0 17).toNatClampNeg 0 (Y 10 a.toNatClampNeg) = V at hP ⊢
      clear hg
      simp only [q239_141, q239_143, q239_144, q239_147, q239_148, q239_151, q239_152, q239_153, q239_154, q239_155, q239_156, q239_157, q239_158, q239_160, q239_161, q239_164, q239_165, q239_168, q239_169, m_0 hS, m_K hS, as_nil, as_i, as_r, Nat.reduceAdd, Nat.reduceLeDiff, z_eq0, z_eq1, z_or, z_em, Classical.not_not, not_false_eq_true, not_true_eq_false, true_and, and_true, false_and, and_false, and_self, true_implies, false_implies, implies_true, Option.toList_some, Option.toList_none, List.cons_append, List.nil_append, Nat.add_eq_zero_iff, a_nl_i, a_nl_r, a_nl_n, true_or, or_true, eq_self, ok_4, ok_5, ok_6, ok_7, ok_9, ok_10, ok_20, ok_21, ok_24, ok_30, ok_48, ok_50, ok_60, ok_80, ok_120, ok_180, ok_192, ok_200, ok_900, ok_1000, ok_84000, es, eb]
      generalize Y 0 10 * Y 0 6 * (e - f + 1) / 100 = W at hP ⊢
      clear es eb e7 e10 hS
      grind) 0 (by decide) (Y 10 a.toNatClampNeg) none (by decide) h17.1 (by rw [lp_0])
    clear hg hP
    rw [a_enter1 (M := a_m239) rfl (a_cat_rf (a_cat_int (a_cat_int (a_cat_int a_cat_nil)))) (show 4 ≤ 7 by decide)]
    show a_at _ (a_xm a_m239) 0 [some (a_rf M), some (.int a), some (.int f), some (.int e), none, none, none] [] _ _
    simp only [q239_0, q239_1, q239_4, q239_5, q239_6, q239_7, q239_10, q239_11, q239_12, q239_13, q239_16, q239_17, q239_18, q239_20, q239_21, m_0 hS, m_K hS, mR_kind hS, mK_kind hS, mL_kind hS, mR_length hS, mK_length hS, mL_length hS, as_nil, as_i, as_r, Nat.reduceAdd, Nat.reduceLeDiff, z_eq0, z_eq1, z_or, z_em, Classical.not_not, not_false_eq_true, not_true_eq_false, true_and, and_true, false_and, and_false, and_self, true_implies, false_implies, implies_true, Option.toList_some, Option.toList_none, List.cons_append, List.nil_append, Nat.add_eq_zero_iff, a_nl_i, a_nl_r, a_nl_n, true_or, or_true, eq_self, ok_4, ok_5, ok_6, ok_7, ok_9, ok_10, ok_20, ok_21, ok_24, ok_30, ok_48, ok_50, ok_60, ok_80, ok_120, ok_180, ok_192, ok_200, ok_900, ok_1000, ok_84000, e7, e10, c, ha]
    try simp only [true_and, and_true, true_implies, false_implies, implies_true, not_true_eq_false, not_false_eq_true]
    exact hl
end YD0
end
section
/-! the first place -/
section YE0
variable {d n t M : Nat} {K L : Nat → Nat} {I I0 J J0 J1 J2 : Nat → Nat → Int32} {R : Nat → Nat → Nat} {P : Option Value → AH → Prop} {f : Nat → Int32} {e : Int32}
variable {Y Z : Nat → Nat → Int32}
theorem ft_0 {a b f : Int32} : ∀ (k : Nat) (i : Int32), ftI Y a b f k i = 0 → ∀ x : Nat, x < k → ¬ 0 < brY Y a b (f + (i + Int32.ofNat x)) f := by
  intro k
  induction k with
  | zero => intro i _ x hx; exact absurd hx (Nat.not_lt_zero x)
  | succ k ih =>
    intro i h x hx
    unfold ftI at h
    by_cases c : 0 < brY Y a b (f + i) f
    · rw [if_pos c] at h
      rw [h] at c
      exact absurd c (by decide)
    · rw [if_neg c] at h
      cases x with
      | zero =>
        rw [show Int32.ofNat 0 = 0 from rfl, Int32.add_zero]
        exact c
      | succ x =>
        have := ih (i + 1) h x (by omega)
        rw [Int32.add_assoc, Int32.add_comm 1] at this
        rw [Int32.ofNat_add]
        exact this
/-- what a place at which an ASK fits is like -/
theorem ft_br {a b f : Int32} (h : ftY Y a b f = 0) {i : Int32} (h0 : 0 ≤ i) (h1 : i < Y 10 a.toNatClampNeg) : brY Y a b (f + i) f = 0 := by
  have := ft_0 (Y := Y) (a := a) (b := b) (f := f) _ 0 h i.toNatClampNeg (cl_lt h0 h1)
  rw [Int32.zero_add, ← on_cl h0] at this
  exact Int32.le_antisymm (Int32.not_lt.mp this) brY_rng
theorem br_fx {a b s f : Int32} (h : brY Y a b s f = 0) : fxY Y a b s = 0 ∧ hgI Y a b s (Y 0 17).toNatClampNeg 0 0 = 0 := by
  unfold brY at h
  by_cases c : fxY Y a b s = 0
  · rw [if_neg (fun q => q c)] at h
    by_cases c2 : hgI Y a b s (Y 0 17).toNatClampNeg 0 0 = 0
    · exact ⟨c, c2⟩
    · rw [if_pos c2] at h
      exact absurd h c2
  · rw [if_pos c] at h
    exact absurd h c
theorem ft_in {a b f : Int32} (h : ftY Y a b f = 0) (hl : 1 ≤ Y 10 a.toNatClampNeg ∧ Y 10 a.toNatClampNeg ≤ 4) (hf : 0 ≤ f ∧ f ≤ 500) : f ≤ 199 ∧ f + Y 10 a.toNatClampNeg ≤ 200 := by
  have h1 := fx_lt (br_fx (ft_br h (i := 0) (by decide) (by clear h; grind))).1
  have h2 := fx_lt (br_fx (ft_br h (i := Y 10 a.toNatClampNeg - 1) (by clear h h1; grind) (by clear h h1; grind))).1
  clear h
  rw [Int32.add_zero] at h1
  grind
theorem gf_b {a s m : Int32} : ∀ (k : Nat) (b : Int32), 0 ≤ b → b ≤ m → m.toNatClampNeg = b.toNatClampNeg + k → 0 ≤ gfB Y a s k b → ftY Y a (gfB Y a s k b) s = 0 ∧ 0 ≤ gfB Y a s k b ∧ gfB Y a s k b < m := by
  intro k
  induction k with
  | zero => intro b _ _ _ h; exact absurd h (by unfold gfB; decide)
  | succ k ih =>
    intro b h0 h1 h2 h
    have w : b < m := cl_lt2 h0 (Int32.le_trans h0 h1) (by omega)
    obtain ⟨s1, s2, s3, s4⟩ := lp_st h0 w
    unfold gfB at h ⊢
    by_cases c : ftY Y a b s = 0
    · rw [if_pos c] at h ⊢
      exact ⟨c, h0, w⟩
    · rw [if_neg c] at h ⊢
      exact ih (b + 1) s2 s3 (by omega) h
theorem gs_nx {s l e : Int32} (hl : 1 ≤ l ∧ l ≤ 4) (he : e ≤ 199) (hs : 0 ≤ s ∧ s ≤ 210) (h : ¬ e < s + l - 1) : (0 ≤ s + 1 ∧ s + 1 ≤ 210) ∧ s ≤ 199 := by
  have a0 := Int32.le_iff_toInt_le.mp hs.1
  have a1 := Int32.le_iff_toInt_le.mp hs.2
  have b0 := Int32.le_iff_toInt_le.mp hl.1
  have b1 := Int32.le_iff_toInt_le.mp hl.2
  have c0 := Int32.le_iff_toInt_le.mp he
  have d0 := Int32.le_iff_toInt_le.mp (Int32.not_lt.mp h)
  have w0 : (0 : Int32).toInt = 0 := rfl
  have w1 : (1 : Int32).toInt = 1 := rfl
  have w4 : (4 : Int32).toInt = 4 := rfl
  have w199 : (199 : Int32).toInt = 199 := rfl
  have w210 : (210 : Int32).toInt = 210 := rfl
  rw [w0] at a0
  rw [w210] at a1
  rw [w1] at b0
  rw [w4] at b1
  rw [w199] at c0
  have e1 : (s + l).toInt = s.toInt + l.toInt := by rw [Int32.toInt_add, in_bm (by omega) (by omega)]
  have e2 : (s + l - 1).toInt = s.toInt + l.toInt - 1 := by rw [Int32.toInt_sub, e1, w1, in_bm (by omega) (by omega)]
  have e3 : (s + 1).toInt = s.toInt + 1 := by rw [Int32.toInt_add, w1, in_bm (by omega) (by omega)]
  rw [e2] at d0
  exact ⟨⟨by rw [Int32.le_iff_toInt_le, e3, w0]; omega, by rw [Int32.le_iff_toInt_le, e3, w210]; omega⟩, by rw [Int32.le_iff_toInt_le, w199]; omega⟩
theorem gf_s (hb : 0 ≤ Y 0 6) {a e : Int32} (hl : 1 ≤ Y 10 a.toNatClampNeg ∧ Y 10 a.toNatClampNeg ≤ 4) (he : e ≤ 199) : ∀ (k : Nat) (s : Int32), 0 ≤ s ∧ s ≤ 210 → 0 ≤ (gfS Y a e k s).2 → ftY Y a (gfS Y a e k s).2 (gfS Y a e k s).1 = 0 ∧ (gfS Y a e k s).2 < Y 0 6 ∧ ¬ e < (gfS Y a e k s).1 + Y 10 a.toNatClampNeg - 1 ∧ 0 ≤ (gfS Y a e k s).1 ∧ (gfS Y a e k s).1 ≤ 210 := by
  intro k
  induction k with
  | zero => intro s _ h; exact absurd (show (0 : Int32) ≤ -1 from h) (by decide)
  | succ k ih =>
    intro s h0 h
    unfold gfS at h ⊢
    by_cases c : e < s + Y 10 a.toNatClampNeg - 1
    · rw [if_pos c] at h
      exact absurd (show (0 : Int32) ≤ -1 from h) (by decide)
    · rw [if_neg c] at h ⊢
      by_cases c2 : 0 ≤ gfB Y a s (Y 0 6).toNatClampNeg 0
      · rw [if_pos c2] at h ⊢
        obtain ⟨q1, q2, q3⟩ := gf_b (Y := Y) (a := a) (s := s) (m := Y 0 6) _ 0 (by decide) hb (by rw [show (0 : Int32).toNatClampNeg = 0 from rfl, Nat.zero_add]) c2
        exact ⟨q1, q3, c, h0⟩
      · rw [if_neg c2] at h ⊢
        exact ih (s + 1) (gs_nx hl he h0 c).1 h
/-- the first place is one -/
theorem gn_ok (hb : 0 ≤ Y 0 6) {a f e : Int32} (hl : 1 ≤ Y 10 a.toNatClampNeg ∧ Y 10 a.toNatClampNeg ≤ 4) (hf : 0 ≤ f ∧ f ≤ 210) (he : e ≤ 199) (h : 0 ≤ (gnY Y a f e).2) : ftY Y a (gnY Y a f e).2 (gnY Y a f e).1 = 0 ∧ (gnY Y a f e).2 < Y 0 6 ∧ (0 ≤ (gnY Y a f e).1 ∧ (gnY Y a f e).1 ≤ 199) ∧ (gnY Y a f e).1 + Y 10 a.toNatClampNeg ≤ 200 := by
  obtain ⟨q1, q2, q3, q4, q5⟩ := gf_s hb hl he 240 f hf h
  have q := ft_in q1 hl ⟨q4, Int32.le_trans q5 (by decide)⟩
  exact ⟨q1, q2, ⟨q4, q.1⟩, q.2⟩
theorem inP_gi (hi : inP Y) (hb : 0 ≤ Y 0 6 ∧ Y 0 6 ≤ 6) {a f e : Int32} {ok : Bool} (hl : 1 ≤ Y 10 a.toNatClampNeg ∧ Y 10 a.toNatClampNeg ≤ 4) (hf : 0 ≤ f ∧ f ≤ 210) (he : e ≤ 199) : inP (giY Y a f e ok) ∧ sbE Y (giY Y a f e ok) := by
  unfold giY
  by_cases c : ok = true ∧ 0 ≤ (gnY Y a f e).2
  · rw [if_pos c]
    obtain ⟨q1, q2, q3, q4⟩ := gn_ok hb.1 hl hf he c.2
    exact ⟨inP_pu hi ⟨q3.1, Int32.le_trans q3.2 (by decide), q4⟩ (by clear q1 q3 q4; grind), puY_b⟩
  · rw [if_neg c]
    exact ⟨hi, fun _ _ _ => rfl⟩
theorem yR_gs (hg : gs M I0 I Y) {W : Nat → Nat → Int32} (h : yR M I J W) (hp : psE Z W) : gs M I0 J Z := ⟨h.1, fun x j p => by rw [h.2.1 x j p]; exact hg.2.1 x j p, psE_tr hp (psE_of (fun k j p => h.2.2 k j (by unfold ps1 at p; omega) (by unfold ps1 at p; unfold mk0; omega)))⟩
/-- whether SHARE stands in the way -/
def okB (Y : Nat → Nat → Int32) (a f e w : Int32) : Bool := if w = 0 then true else shB Y a f e
theorem xt_giveFirst_21 (hS : m_S M K L R) (hm : moY Y) (h17 : 0 ≤ Y 0 17 ∧ Y 0 17 ≤ 30) (h10 : ∀ j, 0 ≤ Y 10 j ∧ Y 10 j ≤ 4) (h6 : 0 ≤ Y 0 6 ∧ Y 0 6 ≤ 6) {a f e w s : Int32} (ha : 0 ≤ a ∧ a < 30) (hs : 0 ≤ s ∧ s ≤ 199) {ev : Int32} (hev : ev ≤ 83996) {V : Int32} (hG : okB Y a f e w = true → 0 ≤ V → ∀ J, gs M I0 J (puY Y a V s) → P (some (.int 1)) (n, t, K, L, J, R)) (hN : ¬ (okB Y a f e w = true ∧ 0 ≤ V) → ∀ J b, gs M I0 J Y → J M 35 = ev → a_at (d + 11) (a_xm a_m238) 74 [some (a_rf M), some (.int a), some (.int f), some (.int e), some (.int w), some (.int s), some (.int b)] [] (n, t, K, L, J, R) P) : ∀ b : Int32, b ≤ 6 → ∀ J, 0 ≤ b → b ≤ Y 0 6 → gs M I0 J Y → J M 35 = ev → (okB Y a f e w = true → gfB Y a s ((Y 0 6).toNatClampNeg - b.toNatClampNeg) b = V) → a_at (d + 11) (a_xm a_m238) 21 [some (a_rf M), some (.int a), some (.int f), some (.int e), some (.int w), some (.int s), some (.int b)] [] (n, t, K, L, J, R) P := by
  refine up_ind 6 (fun b b6 ih => ?_)
  intro J h0 h1 hg he hV
  have e6 : J M 6 = Y 0 6 := hg.2.2.1 0 6 (by unfold ps1; omega)
  generalize ez : Y 0 6 = z at h6 h1 e6 hV ih
  have hexit : ¬ b < z → a_at (d + 11) (a_xm a_m238) 74 [some (a_rf M), some (.int a), some (.int f), some (.int e), some (.int w), some (.int s), some (.int b)] [] (n, t, K, L, J, R) P := fun c => by
    rw [(lp_end h1 c).1] at hV
    exact hN (fun q => by
      have := hV q.1
      rw [← this] at q
      exact absurd q.2 (by unfold gfB; decide)) J b hg he
  have hcall : b < z → a_does (d + 11) 221 [a_rf M, .int a, .int b, .int s] (n, t, K, L, J, R) (fun r h' => a_at (d + 11) (a_xm a_m238) 39 [some (a_rf M), some (.int a), some (.int f), some (.int e), some (.int w), some (.int s), some (.int b)] (r.toList ++ []) h' P) := fun c => by
    obtain ⟨s1, s2, s3, s4⟩ := lp_st h0 c
    have b5 : 0 ≤ b ∧ b ≤ 5 := ⟨h0, by clear hV ih hexit hG hN; grind⟩
    refine xt_fitOf (d := d + 1) hS (moP_of hg.1 hm hg.2.2) (mC_refl hg.1) ha b5 hs (fun J2 c2 => ?_)
    rw [ftY_p h17 h10 hg.2.2]
    have hg2 := gs_C hg c2
    have he2 : J2 M 35 = ev := by rw [c2.2 _ _ (by unfold sC; omega)]; exact he
    have hgo : (okB Y a f e w = true → gfB Y a s (z.toNatClampNeg - (b + 1).toNatClampNeg) (b + 1) = V) → a_at (d + 11) (a_xm a_m238) 68 [some (a_rf M), some (.int a), some (.int f), some (.int e), some (.int w), some (.int s), some (.int b)] [] (n, t, K, L, J2, R) P := fun q => by
      have hi := ih (Int32.lt_of_lt_of_le c h6.2) J2 s2 s3 hg2 he2 q
      clear ih hV hexit hG hN hm hg hg2
      simp only [q238_68, q238_71, as_nil, as_i, as_r, Nat.reduceAdd, Nat.reduceLeDiff, z_eq0, z_eq1, z_or, z_em, Classical.not_not, not_false_eq_true, not_true_eq_false, true_and, and_true, false_and, and_false, and_self, true_implies, false_implies, implies_true, Option.toList_some, Option.toList_none, List.cons_append, List.nil_append, Nat.add_eq_zero_iff, a_nl_i, a_nl_r, a_nl_n, true_or, or_true, eq_self, ok_4, ok_5, ok_6, ok_7, ok_9, ok_10, ok_20, ok_21, ok_24, ok_30, ok_48, ok_50, ok_60, ok_80, ok_120, ok_180, ok_192, ok_200, ok_900, ok_1000, ok_84000]
      exact hi
    by_cases cf : ftY Y a b s = 0
    · have hgive : okB Y a f e w = true → a_at (d + 11) (a_xm a_m238) 57 [some (a_rf M), some (.int a), some (.int f), some (.int e), some (.int w), some (.int s), some (.int b)] [] (n, t, K, L, J2, R) P := fun q => by
        have hv := hV q
        rw [s1] at hv
        unfold gfB at hv
        rw [if_pos cf] at hv
        have hG := hG q (by rw [← hv]; exact h0)
        rw [← hv] at hG
        simp only [q238_57, q238_58, q238_59, q238_61, q238_63, m_0 hS, m_K hS, as_nil, as_i, as_r, Nat.reduceAdd, Nat.reduceLeDiff, z_eq0, z_eq1, z_or, z_em, Classical.not_not, not_false_eq_true, not_true_eq_false, true_and, and_true, false_and, and_false, and_self, true_implies, false_implies, implies_true, Option.toList_some, Option.toList_none, List.cons_append, List.nil_append, Nat.add_eq_zero_iff, a_nl_i, a_nl_r, a_nl_n, true_or, or_true, eq_self, ok_4, ok_5, ok_6, ok_7, ok_9, ok_10, ok_20, ok_21, ok_24, ok_30, ok_48, ok_50, ok_60, ok_80, ok_120, ok_180, ok_192, ok_200, ok_900, ok_1000, ok_84000]
        refine xt_giveTo0 (d := d) hS (moP_of hg2.1 hm hg2.2.2) (by rw [he2]; exact hev) ha b5 ⟨by clear hV ih hexit hG hN; grind, by clear hV ih hexit hG hN; grind⟩ (fun J3 y3 => ?_)
        have hp := hG J3 (yR_gs hg2 y3 (puY_p h17 h10 hg2.2.2 ha))
        clear ih hV hexit hG hN hm
        simp only [q238_66, q238_67, as_nil, as_i, as_r, Nat.reduceAdd, Nat.reduceLeDiff, z_eq0, z_eq1, z_or, z_em, Classical.not_not, not_false_eq_true, not_true_eq_false, true_and, and_true, false_and, and_false, and_self, true_implies, false_implies, implies_true, Option.toList_some, Option.toList_none, List.cons_append, List.nil_append, Nat.add_eq_zero_iff, a_nl_i, a_nl_r, a_nl_n, true_or, or_true, eq_self, ok_4, ok_5, ok_6, ok_7, ok_9, ok_10, ok_20, ok_21, ok_24, ok_30, ok_48, ok_50, ok_60, ok_80, ok_120, ok_180, ok_192, ok_200, ok_900, ok_1000, ok_84000]
        exact hp
      have hno : okB Y a f e w = false → a_at (d + 11) (a_xm a_m238) 68 [some (a_rf M), some (.int a), some (.int f), some (.int e), some (.int w), some (.int s), some (.int b)] [] (n, t, K, L, J2, R) P := fun q => hgo (fun q2 => by rw [q] at q2; cases q2)
      by_cases cw : w = 0
      · have hgive := hgive (by unfold okB; rw [if_pos cw])
        clear ih hV hexit hG hN hm hg hg2 hgo hno
        simp only [q238_39, q238_42, q238_44, as_nil, as_i, as_r, Nat.reduceAdd, Nat.reduceLeDiff, z_eq0, z_eq1, z_or, z_em, Classical.not_not, not_false_eq_true, not_true_eq_false, true_and, and_true, false_and, and_false, and_self, true_implies, false_implies, implies_true, Option.toList_some, Option.toList_none, List.cons_append, List.nil_append, Nat.add_eq_zero_iff, a_nl_i, a_nl_r, a_nl_n, true_or, or_true, eq_self, ok_4, ok_5, ok_6, ok_7, ok_9, ok_10, ok_20, ok_21, ok_24, ok_30, ok_48, ok_50, ok_60, ok_80, ok_120, ok_180, ok_192, ok_200, ok_900, ok_1000, ok_84000, cf, cw]
        try simp only [true_and, and_true, true_implies, false_implies, implies_true, not_true_eq_false, not_false_eq_true]
        first
          | exact hgive
          | (rw [cw] at hgive; exact hgive)
      · have hw := xt_isWithinShare (d := d + 9) (n := n) (t := t) (f := f) (e := e) (P := fun r h' => a_at (d + 11) (a_xm a_m238) 54 [some (a_rf M), some (.int a), some (.int f), some (.int e), some (.int w), some (.int s), some (.int b)] (r.toList ++ []) h' P) hS hg2 h17 ha (by
          have eo : okB Y a f e w = shB Y a f e := by unfold okB; rw [if_neg cw]
          rw [eo] at hgive hno
          clear ih hV hexit hG hN hm hg hg2 hgo
          by_cases cs : shB Y a f e = true
          · rw [if_pos cs]
            have n10 : ¬ (1 : Int32) = 0 := by decide
            have hgive := hgive cs
            simp only [q238_54, as_nil, as_i, as_r, Nat.reduceAdd, Nat.reduceLeDiff, z_eq0, z_eq1, z_or, z_em, Classical.not_not, not_false_eq_true, not_true_eq_false, true_and, and_true, false_and, and_false, and_self, true_implies, false_implies, implies_true, Option.toList_some, Option.toList_none, List.cons_append, List.nil_append, Nat.add_eq_zero_iff, a_nl_i, a_nl_r, a_nl_n, true_or, or_true, eq_self, ok_4, ok_5, ok_6, ok_7, ok_9, ok_10, ok_20, ok_21, ok_24, ok_30, ok_48, ok_50, ok_60, ok_80, ok_120, ok_180, ok_192, ok_200, ok_900, ok_1000, ok_84000, n10]
            try simp only [true_and, and_true, true_implies, false_implies, implies_true, not_true_eq_false, not_false_eq_true]
            exact hgive
          · rw [if_neg cs]
            have hno := hno (by cases q : shB Y a f e; rfl; exact absurd q cs)
            simp only [q238_54, as_nil, as_i, as_r, Nat.reduceAdd, Nat.reduceLeDiff, z_eq0, z_eq1, z_or, z_em, Classical.not_not, not_false_eq_true, not_true_eq_false, true_and, and_true, false_and, and_false, and_self, true_implies, false_implies, implies_true, Option.toList_some, Option.toList_none, List.cons_append, List.nil_append, Nat.add_eq_zero_iff, a_nl_i, a_nl_r, a_nl_n, true_or, or_true, eq_self, ok_4, ok_5, ok_6, ok_7, ok_9, ok_10, ok_20, ok_21, ok_24, ok_30, ok_48, ok_50, ok_60, ok_80, ok_120, ok_180, ok_192, ok_200, ok_900, ok_1000, ok_84000]
            try simp only [true_and, and_true, true_implies, false_implies, implies_true, not_true_eq_false, not_false_eq_true]
            exact hno)
        clear ih hV hexit hG hN hm hg hg2 hgo hno hgive
        simp only [q238_39, q238_42, q238_44, q238_47, q238_48, q238_49, q238_50, q238_51, m_0 hS, m_K hS, as_nil, as_i, as_r, Nat.reduceAdd, Nat.reduceLeDiff, z_eq0, z_eq1, z_or, z_em, Classical.not_not, not_false_eq_true, not_true_eq_false, true_and, and_true, false_and, and_false, and_self, true_implies, false_implies, implies_true, Option.toList_some, Option.toList_none, List.cons_append, List.nil_append, Nat.add_eq_zero_iff, a_nl_i, a_nl_r, a_nl_n, true_or, or_true, eq_self, ok_4, ok_5, ok_6, ok_7, ok_9, ok_10, ok_20, ok_21, ok_24, ok_30, ok_48, ok_50, ok_60, ok_80, ok_120, ok_180, ok_192, ok_200, ok_900, ok_1000, ok_84000, cf, cw]
        try simp only [true_and, and_true, true_implies, false_implies, implies_true, not_true_eq_false, not_false_eq_true]
        exact hw
    · have hgo := hgo (fun q => by
        have hv := hV q
        rw [s1] at hv
        unfold gfB at hv
        rw [if_neg cf] at hv
        exact hv)
      clear ih hV hexit hG hN hm hg hg2
      simp only [q238_39, as_nil, as_i, as_r, Nat.reduceAdd, Nat.reduceLeDiff, z_eq0, z_eq1, z_or, z_em, Classical.not_not, not_false_eq_true, not_true_eq_false, true_and, and_true, false_and, and_false, and_self, true_implies, false_implies, implies_true, Option.toList_some, Option.toList_none, List.cons_append, List.nil_append, Nat.add_eq_zero_iff, a_nl_i, a_nl_r, a_nl_n, true_or, or_true, eq_self, ok_4, ok_5, ok_6, ok_7, ok_9, ok_10, ok_20, ok_21, ok_24, ok_30, ok_48, ok_50, ok_60, ok_80, ok_120, ok_180, ok_192, ok_200, ok_900, ok_1000, ok_84000, cf]
      try simp only [true_and, and_true, true_implies, false_implies, implies_true, not_true_eq_false, not_false_eq_true]
      exact hgo
  clear ih hV hG hN hm hg
  rw [q238_21]
  repeat' first
    | with_reducible apply And.intro
    | with_reducible assumption
    | with_reducible intro _
    | refine hexit ?_
    | refine hcall ?_
    | simp only [q238_23, q238_24, q238_27, q238_30, q238_31, q238_32, q238_34, q238_36, m_0 hS, m_K hS, as_nil, as_i, as_r, Nat.reduceAdd, Nat.reduceLeDiff, z_eq0, z_eq1, z_or, z_em, Classical.not_not, not_false_eq_true, not_true_eq_false, true_and, and_true, false_and, and_false, and_self, true_implies, false_implies, implies_true, Option.toList_some, Option.toList_none, List.cons_append, List.nil_append, Nat.add_eq_zero_iff, a_nl_i, a_nl_r, a_nl_n, true_or, or_true, eq_self, ok_4, ok_5, ok_6, ok_7, ok_9, ok_10, ok_20, ok_21, ok_24, ok_30, ok_48, ok_50, ok_60, ok_80, ok_120, ok_180, ok_192, ok_200, ok_900, ok_1000, ok_84000, e6]
  all_goals ((try clear hexit); (try clear hcall); (try clear hS); grind [ui_ap])
theorem xt_giveFirst_3 (hS : m_S M K L R) (hm : moY Y) (h17 : 0 ≤ Y 0 17 ∧ Y 0 17 ≤ 30) (h10 : ∀ j, 0 ≤ Y 10 j ∧ Y 10 j ≤ 4) (h6 : 0 ≤ Y 0 6 ∧ Y 0 6 ≤ 6) {a f e w : Int32} (ha : 0 ≤ a ∧ a < 30) (hl : 1 ≤ Y 10 a.toNatClampNeg) (he9 : e ≤ 199) {ev : Int32} (hev : ev ≤ 83996) {V : Int32 × Int32} (hP1 : okB Y a f e w = true → 0 ≤ V.2 → ∀ J, gs M I0 J (puY Y a V.2 V.1) → P (some (.int 1)) (n, t, K, L, J, R)) (hP0 : ¬ (okB Y a f e w = true ∧ 0 ≤ V.2) → ∀ J, gs M I0 J Y → P (some (.int 0)) (n, t, K, L, J, R)) : ∀ s : Int32, s ≤ 203 → ∀ J b (k : Nat), 0 ≤ s → (203 : Int32).toNatClampNeg < s.toNatClampNeg + k → gs M I0 J Y → J M 35 = ev → (okB Y a f e w = true → gfS Y a e k s = V) → a_at (d + 11) (a_xm a_m238) 3 [some (a_rf M), some (.int a), some (.int f), some (.int e), some (.int w), some (.int s), b] [] (n, t, K, L, J, R) P := by
  have hl4 := (h10 a.toNatClampNeg).2
  refine up_ind 203 (fun s s203 ih => ?_)
  intro J b k h0 hk hg he hV
  have e10 : J (M + 10) a.toNatClampNeg = Y 10 a.toNatClampNeg := hg.2.2.1 10 _ (by unfold ps1; omega)
  have c203 : s.toNatClampNeg ≤ (203 : Int32).toNatClampNeg := cl_le0 h0 s203
  obtain ⟨k, rfl⟩ : ∃ q, k = q + 1 := ⟨k - 1, by omega⟩
  have hexit : e < s + Y 10 a.toNatClampNeg - 1 → P (some (.int 0)) (n, t, K, L, J, R) := fun c => hP0 (fun q => by
    have hv := hV q.1
    unfold gfS at hv
    rw [if_pos c] at hv
    rw [← hv] at q
    exact absurd (show (0 : Int32) ≤ -1 from q.2) (by decide)) J hg
  have hin : ¬ e < s + Y 10 a.toNatClampNeg - 1 → a_at (d + 11) (a_xm a_m238) 21 [some (a_rf M), some (.int a), some (.int f), some (.int e), some (.int w), some (.int s), some (.int 0)] [] (n, t, K, L, J, R) P := fun c => by
    have s199 : 0 ≤ s ∧ s ≤ 199 := ⟨h0, (gs_nx ⟨hl, hl4⟩ he9 ⟨h0, Int32.le_trans s203 (by decide)⟩ c).2⟩
    have hs1 : s < 203 := Int32.lt_of_le_of_lt s199.2 (by decide)
    obtain ⟨-, t2, -, t4⟩ := lp_st h0 hs1
    have hV2 : okB Y a f e w = true → (if 0 ≤ gfB Y a s (Y 0 6).toNatClampNeg 0 then (s, gfB Y a s (Y 0 6).toNatClampNeg 0) else gfS Y a e k (s + 1)) = V := fun q => by
      have hv := hV q
      unfold gfS at hv
      rw [if_neg c] at hv
      exact hv
    refine xt_giveFirst_21 (d := d) (I0 := I0) hS hm h17 h10 h6 ha s199 hev (V := gfB Y a s (Y 0 6).toNatClampNeg 0) (fun q1 q2 J2 g2 => ?_) (fun q J2 b2 g2 e2 => ?_) 0 (by decide) J (by decide) h6.1 hg he (fun _ => by rw [lp_0])
    · have hv := hV2 q1
      rw [if_pos q2] at hv
      refine hP1 q1 (by rw [← hv]; exact q2) J2 ?_
      rw [← hv]
      exact g2
    · have hn := ih hs1 J2 (some (.int b2)) k t2 (by omega) g2 e2 (fun q3 => by
        have hv := hV2 q3
        rw [if_neg (fun q4 => q ⟨q3, q4⟩)] at hv
        exact hv)
      clear ih hV hV2 hexit hP1 hP0 hm hg
      simp only [q238_74, q238_77, as_nil, as_i, as_r, Nat.reduceAdd, Nat.reduceLeDiff, z_eq0, z_eq1, z_or, z_em, Classical.not_not, not_false_eq_true, not_true_eq_false, true_and, and_true, false_and, and_false, and_self, true_implies, false_implies, implies_true, Option.toList_some, Option.toList_none, List.cons_append, List.nil_append, Nat.add_eq_zero_iff, a_nl_i, a_nl_r, a_nl_n, true_or, or_true, eq_self, ok_4, ok_5, ok_6, ok_7, ok_9, ok_10, ok_20, ok_21, ok_24, ok_30, ok_48, ok_50, ok_60, ok_80, ok_120, ok_180, ok_192, ok_200, ok_900, ok_1000, ok_84000]
      exact hn
  clear ih hV hP1 hP0 hm hg
  rw [q238_3]
  repeat' first
    | with_reducible apply And.intro
    | with_reducible assumption
    | with_reducible intro _
    | refine hexit ?_
    | refine hin ?_
    | refine hin ?_
    | simp only [q238_5, q238_6, q238_9, q238_10, q238_11, q238_12, q238_13, q238_14, q238_15, q238_18, q238_19, q238_80, q238_81, m_0 hS, m_K hS, mR_length hS, mK_length hS, mL_length hS, as_nil, as_i, as_r, Nat.reduceAdd, Nat.reduceLeDiff, z_eq0, z_eq1, z_or, z_em, Classical.not_not, not_false_eq_true, not_true_eq_false, true_and, and_true, false_and, and_false, and_self, true_implies, false_implies, implies_true, Option.toList_some, Option.toList_none, List.cons_append, List.nil_append, Nat.add_eq_zero_iff, a_nl_i, a_nl_r, a_nl_n, true_or, or_true, eq_self, ok_4, ok_5, ok_6, ok_7, ok_9, ok_10, ok_20, ok_21, ok_24, ok_30, ok_48, ok_50, ok_60, ok_80, ok_120, ok_180, ok_192, ok_200, ok_900, ok_1000, ok_84000, e10, ha]
  all_goals ((try clear hexit); (try clear hin); (try clear hS); grind [ui_ap])
theorem xt_giveFirst0 (hS : m_S M K L R) (hm : moY Y) (h17 : 0 ≤ Y 0 17 ∧ Y 0 17 ≤ 30) (h10 : ∀ j, 0 ≤ Y 10 j ∧ Y 10 j ≤ 4) (h6 : 0 ≤ Y 0 6 ∧ Y 0 6 ≤ 6) {a f e w : Int32} (ha : 0 ≤ a ∧ a < 30) (hl : 1 ≤ Y 10 a.toNatClampNeg) (hf : 0 ≤ f ∧ f ≤ 202) (he9 : e ≤ 199) (hev : I M 35 ≤ 83996) (hg : gs M I0 I Y) (hP : ∀ J, gs M I0 J (giY Y a f e (okB Y a f e w)) → P (some (.int (if okB Y a f e w = true ∧ 0 ≤ (gnY Y a f e).2 then 1 else 0))) (n, t, K, L, J, R)) : a_does (d + 12) 238 [a_rf M, .int a, .int f, .int e, .int w] (n, t, K, L, I, R) P := by
  have c203 : (203 : Int32).toNatClampNeg = 203 := rfl
  have hl3 := xt_giveFirst_3 (d := d) (P := P) (I0 := I0) (w := w) hS hm h17 h10 h6 ha hl he9 hev (V := gnY Y a f e) (fun q1 q2 J g => by
    have hp := hP J
    unfold giY at hp
    rw [if_pos ⟨q1, q2⟩, if_pos ⟨q1, q2⟩] at hp
    exact hp g) (fun q J g => by
    have hp := hP J
    unfold giY at hp
    rw [if_neg q, if_neg q] at hp
    exact hp g) f (Int32.le_trans hf.2 (by decide)) I none 240 hf.1 (by rw [c203]; omega) hg rfl (fun _ => rfl)
  clear hP hm hg
  rw [a_enter1 (M := a_m238) rfl (a_cat_rf (a_cat_int (a_cat_int (a_cat_int (a_cat_int a_cat_nil))))) (show 5 ≤ 7 by decide)]
  show a_at _ (a_xm a_m238) 0 [some (a_rf M), some (.int a), some (.int f), some (.int e), some (.int w), none, none] [] _ _
  simp only [q238_0, q238_1, as_nil, as_i, as_r, Nat.reduceAdd, Nat.reduceLeDiff, z_eq0, z_eq1, z_or, z_em, Classical.not_not, not_false_eq_true, not_true_eq_false, true_and, and_true, false_and, and_false, and_self, true_implies, false_implies, implies_true, Option.toList_some, Option.toList_none, List.cons_append, List.nil_append, Nat.add_eq_zero_iff, a_nl_i, a_nl_r, a_nl_n, true_or, or_true, eq_self, ok_4, ok_5, ok_6, ok_7, ok_9, ok_10, ok_20, ok_21, ok_24, ok_30, ok_48, ok_50, ok_60, ok_80, ok_120, ok_180, ok_192, ok_200, ok_900, ok_1000, ok_84000]
  exact hl3
/-- with the row of events, and what it leaves -/
theorem xt_giveFirst (hS : m_S M K L R) {I1 : Nat → Nat → Int32} (hm : moY Y) (h17 : 0 ≤ Y 0 17 ∧ Y 0 17 ≤ 30) (h10 : ∀ j, 0 ≤ Y 10 j ∧ Y 10 j ≤ 4) (h6 : 0 ≤ Y 0 6 ∧ Y 0 6 ≤ 6) {c : Nat} (hF : mF M c I1 I) (hc : c + 4 ≤ 84000) {a f e w : Int32} (ha : 0 ≤ a ∧ a < 30) (hl : 1 ≤ Y 10 a.toNatClampNeg) (hf : 0 ≤ f ∧ f ≤ 202) (he9 : e ≤ 199) (hg : gs M I0 I Y) (hP : ∀ J, mF M (c + 4) I1 J → gv M I J → gs M I0 J (giY Y a f e (okB Y a f e w)) → P (some (.int (if okB Y a f e w = true ∧ 0 ≤ (gnY Y a f e).2 then 1 else 0))) (n, t, K, L, J, R)) : a_does (d + 12) 238 [a_rf M, .int a, .int f, .int e, .int w] (n, t, K, L, I, R) P := by
  have h1 := ct_giveFirst (d := d) (o := w) hS hF hc ha hf he9 (P := fun r h' => ∃ J, h' = (n, t, K, L, J, R) ∧ mF M (c + 4) I1 J ∧ gv M I J) (fun v J q1 q2 _ => ⟨J, rfl, q1, q2⟩)
  have h2 := xt_giveFirst0 (d := d) hS hm h17 h10 h6 (w := w) ha hl hf he9 (mE_ev hF.2 hF.1.1 hc) hg (P := fun r h' => r = some (.int (if okB Y a f e w = true ∧ 0 ≤ (gnY Y a f e).2 then 1 else 0)) ∧ ∃ J, h' = (n, t, K, L, J, R) ∧ gs M I0 J (giY Y a f e (okB Y a f e w))) (fun J q => ⟨rfl, J, rfl, q⟩)
  refine (does_and h1 h2).weaken (fun r h' q => ?_)
  obtain ⟨⟨J, e2, q1, q3⟩, ⟨e1, J2, e3, q2⟩⟩ := q
  subst e1
  subst e2
  cases e3
  exact hP J q1 q3 q2
end YE0
end
section
/-! PLAN -/
section YF0
variable {d n t M : Nat} {K L : Nat → Nat} {I I0 J J0 J1 J2 : Nat → Nat → Int32} {R : Nat → Nat → Nat} {P : Option Value → AH → Prop} {f : Nat → Int32} {e : Int32}
variable {Y Z : Nat → Nat → Int32}
theorem and1_or (y : Int32) : y &&& 1 = 0 ∨ y &&& 1 = 1 := by
  cases e : bq y 0 with
  | false => exact Or.inl ((bq_and1 y).mpr e)
  | true =>
    refine Or.inr (bq_ext (fun i hi => ?_))
    rw [bq_and, bq_1 i hi]
    by_cases c : i = 0
    · subst c
      rw [e]
      rfl
    · rw [decide_eq_false c, Bool.and_false]
theorem bt_bq {g a : Int32} (h0 : 0 ≤ a) (h : a.toNatClampNeg < 32) : btB g a = bq g a.toNatClampNeg := by
  have hq := bq_at h g
  rw [← on_cl h0] at hq
  unfold btB
  cases e : bq g a.toNatClampNeg with
  | false =>
    rw [decide_eq_false]
    rw [hq.mpr e]
    decide
  | true =>
    rw [decide_eq_true]
    exact (and1_or _).resolve_left (fun q => by rw [hq.mp q] at e; cases e)
theorem orF_q {q w : Int32 → Bool} {n : Int32} (h : ∀ a : Int32, 0 ≤ a → a < n → w a = q a) : ∀ (k : Nat) (a : Int32) (p : (Nat → Int32) × Nat), 0 ≤ a → a ≤ n → n.toNatClampNeg = a.toNatClampNeg + k → orF Y w k a p = orF Y q k a p := by
  intro k
  induction k with
  | zero => intro a p _ _ _; rfl
  | succ k ih =>
    intro a p h0 h1 h2
    have w9 : a < n := cl_lt2 h0 (Int32.le_trans h0 h1) (by omega)
    obtain ⟨s1, s2, s3, s4⟩ := lp_st h0 w9
    unfold orF
    rw [h a h0 w9]
    exact ih _ _ s2 s3 (by omega)
/-- who has no place and isn't withdrawn -/
def seB (Y : Nat → Nat → Int32) (a : Int32) : Bool := decide (¬ 0 ≤ Y 20 a.toNatClampNeg ∧ Y 18 a.toNatClampNeg = 0)
/-- the row of ORDER of a PLAN -/
def orP (Y : Nat → Nat → Int32) : (Nat → Int32) × Nat := orF Y (seB Y) (Y 0 17).toNatClampNeg 0 (fun _ => 0, 0)
/-- one by one places are given; who is passed -/
def plS (o : Nat → Int32) (f e : Int32) : Nat → Nat → (Nat → Nat → Int32) × Nat × (Nat → Int32) → (Nat → Nat → Int32) × Nat × (Nat → Int32)
  | 0, _, p => p
  | k + 1, i, p => plS o f e k (i + 1) (if shB p.1 (o i) f e = true ∧ 0 ≤ (gnY p.1 (o i) f e).2 then (puY p.1 (o i) (gnY p.1 (o i) f e).2 (gnY p.1 (o i) f e).1, p.2.1, p.2.2) else (p.1, p.2.1 + 1, up1 p.2.2 p.2.1 (o i)))
def plY (Y : Nat → Nat → Int32) (f e : Int32) : (Nat → Nat → Int32) × Nat × (Nat → Int32) := plS (orP Y).1 f e (orP Y).2 0 (Y, 0, fun _ => 0)
theorem xt_plan_19 (hS : m_S M K L R) (hg : gs M I0 I Y) (h17 : 0 ≤ Y 0 17 ∧ Y 0 17 ≤ 30) {a b : Int32} (hN : ∀ g k, (∀ x : Int32, 0 ≤ x → x < Y 0 17 → btB g x = seB Y x) → a_at (d + 13) (a_xm a_m234) 64 [some (a_rf M), some (.int a), some (.int b), some (.int g), some (.int k), none] [] (n, t, K, L, I, R) P) : ∀ k : Int32, k ≤ 30 → ∀ g, 0 ≤ k → k ≤ Y 0 17 → (∀ j, j < 32 → (bq g j = true ↔ (j < k.toNatClampNeg ∧ seB Y (Int32.ofNat j) = true))) → a_at (d + 13) (a_xm a_m234) 19 [some (a_rf M), some (.int a), some (.int b), some (.int g), some (.int k), none] [] (n, t, K, L, I, R) P := by
  have e17 : I M 17 = Y 0 17 := hg.2.2.1 0 17 (by unfold ps1; omega)
  have e20 : ∀ j, I (M + 20) j = Y 20 j := fun j => hg.2.2.1 20 j (by unfold ps1; omega)
  have e18 : ∀ j, I (M + 18) j = Y 18 j := fun j => hg.2.2.1 18 j (by unfold ps1; omega)
  have l30 := cl_le0 h17.1 h17.2
  rw [show (30 : Int32).toNatClampNeg = 30 from rfl] at l30
  clear hg
  refine up_ind 30 (fun k k30 ih => ?_)
  intro g h0 h1 hb
  have hexit : ¬ k < Y 0 17 → a_at (d + 13) (a_xm a_m234) 64 [some (a_rf M), some (.int a), some (.int b), some (.int g), some (.int k), none] [] (n, t, K, L, I, R) P := fun w => by
    have e := (lp_end h1 w).2
    refine hN g k (fun x x0 x1 => ?_)
    have hx := cl_lt x0 x1
    rw [bt_bq x0 (by omega)]
    have := hb x.toNatClampNeg (by omega)
    rw [← on_cl x0, e] at this
    cases q : seB Y x with
    | true => exact this.mpr ⟨hx, q⟩
    | false =>
      cases q2 : bq g x.toNatClampNeg with
      | false => rfl
      | true =>
        have := (this.mp q2).2
        rw [q] at this
        cases this
  have hgo : k < Y 0 17 → ∀ g2, g2 = (if seB Y k = true then g ||| ((1 : Int32) <<< (k &&& 31)) else g ||| 0) → a_at (d + 13) (a_xm a_m234) 19 [some (a_rf M), some (.int a), some (.int b), some (.int g2), some (.int (k + 1)), none] [] (n, t, K, L, I, R) P := fun w g2 eg => by
    obtain ⟨s1, s2, s3, s4⟩ := lp_st h0 w
    have kT := cl_lt h0 w
    refine ih (Int32.lt_of_lt_of_le w h17.2) g2 s2 s3 (fun j hj => ?_)
    have hset := bq_set (k := k.toNatClampNeg) (i := j) (by omega) hj g
    rw [← on_cl h0] at hset
    rw [eg, s4]
    by_cases c : seB Y k = true
    · rw [if_pos c, hset, Bool.or_eq_true, hb j hj]
      refine ⟨fun r => ?_, fun r => ?_⟩
      · rcases r with r | r
        · exact ⟨by omega, r.2⟩
        · have r := of_decide_eq_true r
          rw [r, ← on_cl h0]
          exact ⟨by omega, c⟩
      · by_cases e : j = k.toNatClampNeg
        · exact Or.inr (decide_eq_true e)
        · exact Or.inl ⟨by omega, r.2⟩
    · rw [if_neg c, Int32.or_zero, hb j hj]
      refine ⟨fun r => ⟨by omega, r.2⟩, fun r => ⟨?_, r.2⟩⟩
      by_cases e : j = k.toNatClampNeg
      · rw [e, ← on_cl h0] at r
        exact absurd r.2 c
      · omega
  have k30' : k < Y 0 17 → 0 ≤ k ∧ k < 30 := fun w => ⟨h0, Int32.lt_of_lt_of_le w h17.2⟩
  have hyes : k < Y 0 17 → ¬ 0 ≤ Y 20 k.toNatClampNeg → Y 18 k.toNatClampNeg = 0 → a_at (d + 13) (a_xm a_m234) 19 [some (a_rf M), some (.int a), some (.int b), some (.int (g ||| ((1 : Int32) <<< (k &&& 31)))), some (.int (k + 1)), none] [] (n, t, K, L, I, R) P := fun w c1 c2 => hgo w _ (by rw [if_pos (show seB Y k = true from decide_eq_true ⟨c1, c2⟩)])
  have hno : k < Y 0 17 → (0 ≤ Y 20 k.toNatClampNeg ∨ ¬ Y 18 k.toNatClampNeg = 0) → a_at (d + 13) (a_xm a_m234) 19 [some (a_rf M), some (.int a), some (.int b), some (.int (g ||| 0)), some (.int (k + 1)), none] [] (n, t, K, L, I, R) P := fun w c => hgo w _ (by rw [if_neg (show ¬ seB Y k = true from fun q => by have := of_decide_eq_true q; exact c.elim this.1 (fun z => z this.2))])
  clear ih hN hb hgo
  rw [q234_19]
  repeat' first
    | with_reducible apply And.intro
    | with_reducible assumption
    | with_reducible intro _
    | refine hexit ?_
    | refine hyes ?_ ?_ ?_
    | refine hno ?_ ?_
    | refine hno ?_ ?_
    | simp only [q234_21, q234_22, q234_25, q234_28, q234_29, q234_30, q234_32, q234_35, q234_38, q234_39, q234_42, q234_44, q234_45, q234_48, q234_49, q234_51, q234_52, q234_55, q234_56, q234_57, q234_58, q234_61, m_0 hS, m_K hS, mR_isGone hS, mK_isGone hS, mL_isGone hS, sp_hasPlace hS, as_nil, as_i, as_r, Nat.reduceAdd, Nat.reduceLeDiff, z_eq0, z_eq1, z_or, z_em, Classical.not_not, not_false_eq_true, not_true_eq_false, true_and, and_true, false_and, and_false, and_self, true_implies, false_implies, implies_true, Option.toList_some, Option.toList_none, List.cons_append, List.nil_append, Nat.add_eq_zero_iff, a_nl_i, a_nl_r, a_nl_n, true_or, or_true, eq_self, ok_4, ok_5, ok_6, ok_7, ok_9, ok_10, ok_20, ok_21, ok_24, ok_30, ok_48, ok_50, ok_60, ok_80, ok_120, ok_180, ok_192, ok_200, ok_900, ok_1000, ok_84000, e17, e20, e18]
  all_goals ((try clear hexit); (try clear hyes); (try clear hno); (try clear e20); (try clear e18); (try clear hS); grind [ui_ap])
theorem sb_tr {X : Nat → Nat → Int32} (h : sbE Y Z) (h2 : sbE Z X) : sbE Y X := fun k j p => (h2 k j p).trans (h k j p)
theorem gi_ok {a f e : Int32} : giY Y a f e (okB Y a f e 1) = if shB Y a f e = true ∧ 0 ≤ (gnY Y a f e).2 then puY Y a (gnY Y a f e).2 (gnY Y a f e).1 else Y := by
  have e : okB Y a f e 1 = shB Y a f e := by unfold okB; rw [if_neg (by decide)]
  unfold giY
  rw [e]
theorem xt_plan_80 (hS : m_S M K L R) {I1 : Nat → Nat → Int32} (hm : moY Y) (h17 : 0 ≤ Y 0 17 ∧ Y 0 17 ≤ 30) (h10 : ∀ j, 0 ≤ Y 10 j ∧ Y 10 j ≤ 4) (h6 : 0 ≤ Y 0 6 ∧ Y 0 6 ≤ 6) (hl : ∀ i : Int32, 0 ≤ i → i < Y 0 17 → 1 ≤ Y 10 i.toNatClampNeg) {c : Nat} (hc : c + 130 ≤ 84000) {f e g : Int32} (hf : 0 ≤ f ∧ f ≤ 199) (he9 : e ≤ 199) {o : Nat → Int32} {m : Nat} (hm30 : m ≤ 30) (ho : ∀ j, j < m → 0 ≤ o j ∧ o j < Y 0 17) {V : (Nat → Nat → Int32) × Nat × (Nat → Int32)} (hP : ∀ J, mF M (c + 120) I1 J → gs M I0 J V.1 → sbE Y V.1 → inP V.1 → V.2.1 ≤ m → J M 61 = Int32.ofNat V.2.1 → (∀ j, j < V.2.1 → J (M + 39) j = V.2.2 j) → P (some (.int (Int32.ofNat (m - V.2.1)))) (n, t, K, L, J, R)) : ∀ (k i : Nat) (J W : Nat → Nat → Int32) (pc : Nat) (ps : Nat → Int32), i + k = m → mF M (c + 4 * i) I1 J → gs M I0 J W → sbE Y W → inP W → J M 64 = Int32.ofNat m → (∀ j, j < m → J (M + 40) j = o j) → pc ≤ i → J M 61 = Int32.ofNat pc → (∀ j, j < pc → J (M + 39) j = ps j) → plS o f e k i (W, pc, ps) = V → a_at (d + 12) (a_xm a_m234) 80 [some (a_rf M), some (.int f), some (.int e), some (.int g), some (.int (Int32.ofNat (i - pc))), some (.int (Int32.ofNat i))] [] (n, t, K, L, J, R) P := by
  intro k
  induction k with
  | zero =>
    intro i J W pc ps hk hF hg hb hi h64 hor hpc h61 hpa hV
    have e : (W, pc, ps) = V := hV
    subst e
    have hp := hP J (mF_le hF (by omega)) hg hb hi (by show pc ≤ m; omega) h61 hpa
    have ei : i = m := by omega
    rw [ei]
    clear hP hF hg hb hi hm hor hpa ho hl
    rw [q234_80]
    simp only [q234_82, q234_83, q234_86, q234_144, q234_146, m_0 hS, m_K hS, as_nil, as_i, as_r, Nat.reduceAdd, Nat.reduceLeDiff, z_eq0, z_eq1, z_or, z_em, Classical.not_not, not_false_eq_true, not_true_eq_false, true_and, and_true, false_and, and_false, and_self, true_implies, false_implies, implies_true, Option.toList_some, Option.toList_none, List.cons_append, List.nil_append, Nat.add_eq_zero_iff, a_nl_i, a_nl_r, a_nl_n, true_or, or_true, eq_self, ok_4, ok_5, ok_6, ok_7, ok_9, ok_10, ok_20, ok_21, ok_24, ok_30, ok_48, ok_50, ok_60, ok_80, ok_120, ok_180, ok_192, ok_200, ok_900, ok_1000, ok_84000, h64]
    first
      | exact hp
      | exact ⟨fun _ => hp, fun q => absurd (Int32.le_refl _) q⟩
      | grind
  | succ k ih =>
    intro i J W pc ps hk hF hg hb hi h64 hor hpc h61 hpa hV
    obtain ⟨q1, q2⟩ := ho i (by omega)
    have w17 : W 0 17 = Y 0 17 := hb 0 17 (by unfold sb; omega)
    have w10 : W 10 = Y 10 := sbE_r hb (by omega)
    have w6 : W 0 6 = Y 0 6 := hb 0 6 (by unfold sb; omega)
    have hlt : Int32.ofNat i < Int32.ofNat m := by rw [on_lt (by omega) (by omega)]; omega
    have hok : 0 ≤ Int32.ofNat i ∧ Int32.ofNat i < 30 := ⟨Int32.not_lt.mp (fun q => by rw [show (0 : Int32) = Int32.ofNat 0 from rfl, on_lt (by omega) (by omega)] at q; omega), by rw [show (30 : Int32) = Int32.ofNat 30 from rfl, on_lt (by omega) (by omega)]; omega⟩
    have hokp : 0 ≤ Int32.ofNat pc ∧ Int32.ofNat pc < 30 := ⟨Int32.not_lt.mp (fun q => by rw [show (0 : Int32) = Int32.ofNat 0 from rfl, on_lt (by omega) (by omega)] at q; omega), by rw [show (30 : Int32) = Int32.ofNat 30 from rfl, on_lt (by omega) (by omega)]; omega⟩
    have ei := (on_p (p := i) (by omega)).2.2.1
    have ei1 := (on_p (p := i) (by omega)).2.2.2.2.1
    have epc := (on_p (p := pc) (by omega)).2.2.1
    have epc1 := (on_p (p := pc) (by omega)).2.2.2.2.1
    have en := (on_p (p := i - pc) (by omega)).2.2.2.2.1
    have hlo : 1 ≤ W 10 (o i).toNatClampNeg := by rw [w10]; exact hl _ q1 q2
    have hcall := xt_giveFirst (d := d) (n := n) (t := t) (f := f) (e := e) (w := 1) (P := fun r h' => a_at (d + 12) (a_xm a_m234) 103 [some (a_rf M), some (.int f), some (.int e), some (.int g), some (.int (Int32.ofNat (i - pc))), some (.int (Int32.ofNat i))] (r.toList ++ []) h' P) hS (moY_b hm hb hi) (by rw [w17]; exact h17) (by rw [w10]; exact h10) (by rw [w6]; exact h6) hF (by omega) ⟨q1, Int32.lt_of_lt_of_le q2 h17.2⟩ hlo ⟨hf.1, Int32.le_trans hf.2 (by decide)⟩ he9 hg (fun J2 f2 v2 g2 => by
      have i2 := inP_gi hi (by rw [w6]; exact h6) (a := o i) (f := f) (e := e) (ok := okB W (o i) f e 1) ⟨hlo, by rw [w10]; exact (h10 _).2⟩ ⟨hf.1, Int32.le_trans hf.2 (by decide)⟩ he9
      have h64' : J2 M 64 = Int32.ofNat m := by rw [gv_orderMany v2]; exact h64
      have h61' : J2 M 61 = Int32.ofNat pc := by rw [gv_passedMany v2]; exact h61
      have hor' : ∀ j, j < m → J2 (M + 40) j = o j := fun j hj => by
        rw [v2 (M + 40) j (by unfold evC; omega) (by unfold sC; omega) (by omega) (by omega)]
        exact hor j hj
      have hpa' : ∀ j, j < pc → J2 (M + 39) j = ps j := fun j hj => by
        rw [v2 (M + 39) j (by unfold evC; omega) (by unfold sC; omega) (by omega) (by omega)]
        exact hpa j hj
      have f3 : mF M (c + 4 * (i + 1)) I1 J2 := mF_le f2 (by omega)
      unfold plS at hV
      rw [gi_ok] at g2 i2
      have eo : okB W (o i) f e 1 = shB W (o i) f e := by unfold okB; rw [if_neg (by decide)]
      rw [eo]
      by_cases cg : shB W (o i) f e = true ∧ 0 ≤ (gnY W (o i) f e).2
      · rw [if_pos cg] at hV g2 i2 ⊢
        have hn := ih (i + 1) J2 _ pc ps (by omega) f3 g2 (sb_tr hb i2.2) i2.1 h64' hor' (by omega) h61' hpa' hV
        rw [show i + 1 - pc = (i - pc) + 1 by omega] at hn
        have n10 : ¬ (1 : Int32) = 0 := by decide
        clear ih hP hF hg hb hi hm hor hpa ho hl hV f2 f3 g2 i2 v2 hor' hpa'
        simp only [q234_103, q234_106, q234_109, q234_138, q234_141, as_nil, as_i, as_r, Nat.reduceAdd, Nat.reduceLeDiff, z_eq0, z_eq1, z_or, z_em, Classical.not_not, not_false_eq_true, not_true_eq_false, true_and, and_true, false_and, and_false, and_self, true_implies, false_implies, implies_true, Option.toList_some, Option.toList_none, List.cons_append, List.nil_append, Nat.add_eq_zero_iff, a_nl_i, a_nl_r, a_nl_n, true_or, or_true, eq_self, ok_4, ok_5, ok_6, ok_7, ok_9, ok_10, ok_20, ok_21, ok_24, ok_30, ok_48, ok_50, ok_60, ok_80, ok_120, ok_180, ok_192, ok_200, ok_900, ok_1000, ok_84000, n10, en, ei1]
        try simp only [true_and, and_true, true_implies, false_implies, implies_true, not_true_eq_false, not_false_eq_true]
        exact hn
      · rw [if_neg cg] at hV g2 i2 ⊢
        have hn := ih (i + 1) (a_ui (a_ui J2 (M + 39) pc (o i)) M 61 (Int32.ofNat (pc + 1))) W (pc + 1) (up1 ps pc (o i)) (by omega) (sF_passedMany (sF_passedAsk f3) ⟨by rw [← epc1]; clear ih hV hP hor hpa ho hl; grind, by rw [← epc1]; clear ih hV hP hor hpa ho hl; grind⟩) (gs_u0 (gs_ui g2 (sR_passedAsk g2.1) (by omega) ⟨by unfold ps1; omega, by omega⟩) (sR_passedMany (sR_passedAsk g2.1) ⟨by rw [← epc1]; clear ih hV hP hor hpa ho hl; grind, by rw [← epc1]; clear ih hV hP hor hpa ho hl; grind⟩) (by unfold ps1; omega)) hb hi (by rw [ui_ap, if_neg (by omega), ui_ap, if_neg (by omega)]; exact h64') (fun j hj => by rw [ui_ap, if_neg (by omega), ui_ap, if_neg (by omega)]; exact hor' j hj) (by omega) (by rw [ui_ap, if_pos ⟨rfl, rfl⟩]) (fun j hj => by
          rw [ui_ap, if_neg (by omega), ui_ap]
          unfold up1
          by_cases e : j = pc
          · rw [if_pos ⟨rfl, e⟩, if_pos e]
          · rw [if_neg (fun q => e q.2), if_neg e]
            exact hpa' j (by omega)) hV
        rw [show i + 1 - (pc + 1) = i - pc by omega] at hn
        have hoi := hor' i (by omega)
        clear ih hP hF hg hb hi hm hor hpa ho hl hV f2 f3 g2 i2 v2 hor' hpa'
        simp only [q234_103, q234_112, q234_113, q234_116, q234_117, q234_120, q234_121, q234_124, q234_126, q234_127, q234_128, q234_129, q234_130, q234_133, q234_134, q234_135, q234_138, q234_141, m_0 hS, m_K hS, mR_passedAsk hS, mK_passedAsk hS, mL_passedAsk hS, mR_order hS, mK_order hS, mL_order hS, as_nil, as_i, as_r, Nat.reduceAdd, Nat.reduceLeDiff, z_eq0, z_eq1, z_or, z_em, Classical.not_not, not_false_eq_true, not_true_eq_false, true_and, and_true, false_and, and_false, and_self, true_implies, false_implies, implies_true, Option.toList_some, Option.toList_none, List.cons_append, List.nil_append, Nat.add_eq_zero_iff, a_nl_i, a_nl_r, a_nl_n, true_or, or_true, eq_self, ok_4, ok_5, ok_6, ok_7, ok_9, ok_10, ok_20, ok_21, ok_24, ok_30, ok_48, ok_50, ok_60, ok_80, ok_120, ok_180, ok_192, ok_200, ok_900, ok_1000, ok_84000, ui_ap, ne_MM, ne_M0, ne_0M, Nat.reduceEqDiff, reduceIte, if_true, if_false, h61', hoi, ei, epc, epc1, hok, hokp, ei1]
        try simp only [true_and, and_true, true_implies, false_implies, implies_true, not_true_eq_false, not_false_eq_true]
        exact hn)
    have hoi := hor i (by omega)
    clear ih hP hF hg hb hi hm hor hpa ho hl hV
    rw [q234_80]
    have nle : ¬ Int32.ofNat m ≤ Int32.ofNat i := Int32.not_le.mpr hlt
    simp only [q234_82, q234_83, q234_86, q234_89, q234_90, q234_91, q234_94, q234_96, q234_97, q234_98, q234_99, q234_100, m_0 hS, m_K hS, mR_order hS, mK_order hS, mL_order hS, as_nil, as_i, as_r, Nat.reduceAdd, Nat.reduceLeDiff, z_eq0, z_eq1, z_or, z_em, Classical.not_not, not_false_eq_true, not_true_eq_false, true_and, and_true, false_and, and_false, and_self, true_implies, false_implies, implies_true, Option.toList_some, Option.toList_none, List.cons_append, List.nil_append, Nat.add_eq_zero_iff, a_nl_i, a_nl_r, a_nl_n, true_or, or_true, eq_self, ok_4, ok_5, ok_6, ok_7, ok_9, ok_10, ok_20, ok_21, ok_24, ok_30, ok_48, ok_50, ok_60, ok_80, ok_120, ok_180, ok_192, ok_200, ok_900, ok_1000, ok_84000, h64, hoi, ei, hok, nle, hlt]
    try simp only [true_and, and_true, true_implies, false_implies, implies_true, not_true_eq_false, not_false_eq_true]
    exact hcall
/-- PLAN -/
theorem xt_plan14 (hS : m_S M K L R) {I1 : Nat → Nat → Int32} (hm : moY Y) (h17 : 0 ≤ Y 0 17 ∧ Y 0 17 ≤ 30) (h10 : ∀ j, 0 ≤ Y 10 j ∧ Y 10 j ≤ 4) (h6 : 0 ≤ Y 0 6 ∧ Y 0 6 ≤ 6) (hl : ∀ i : Int32, 0 ≤ i → i < Y 0 17 → 1 ≤ Y 10 i.toNatClampNeg) {c : Nat} (hc : c + 130 ≤ 84000) (hF : mF M c I1 I) (hg : gs M I0 I Y) {f e : Int32} (hf : 0 ≤ f ∧ f ≤ 199) (he9 : e ≤ 199) (hP : ∀ J, mF M (c + 120) I1 J → gs M I0 J (plY Y f e).1 → sbE Y (plY Y f e).1 → inP (plY Y f e).1 → (plY Y f e).2.1 ≤ (orP Y).2 → J M 61 = Int32.ofNat (plY Y f e).2.1 → (∀ j, j < (plY Y f e).2.1 → J (M + 39) j = (plY Y f e).2.2 j) → P (some (.int (Int32.ofNat ((orP Y).2 - (plY Y f e).2.1)))) (n, t, K, L, J, R)) : a_at (d + 13) (a_xm a_m234) 14 [some (a_rf M), some (.int f), some (.int e), none, none, none] [] (n, t, K, L, I, R) P := by
  have hl19 := xt_plan_19 (d := d) (P := P) (a := f) (b := e) hS hg h17 (fun g k hbit => by
    simp only [q234_64, q234_65, q234_66, m_0 hS, m_K hS, as_nil, as_i, as_r, Nat.reduceAdd, Nat.reduceLeDiff, z_eq0, z_eq1, z_or, z_em, Classical.not_not, not_false_eq_true, not_true_eq_false, true_and, and_true, false_and, and_false, and_self, true_implies, false_implies, implies_true, Option.toList_some, Option.toList_none, List.cons_append, List.nil_append, Nat.add_eq_zero_iff, a_nl_i, a_nl_r, a_nl_n, true_or, or_true, eq_self, ok_4, ok_5, ok_6, ok_7, ok_9, ok_10, ok_20, ok_21, ok_24, ok_30, ok_48, ok_50, ok_60, ok_80, ok_120, ok_180, ok_192, ok_200, ok_900, ok_1000, ok_84000]
    have h1 := ct_findOrder (d := d + 9) (g := g) hS hF (P := fun r h' => r = none ∧ ∃ J, h' = (n, t, K, L, J, R) ∧ mF M c I1 J) (fun J q _ => ⟨rfl, J, rfl, q⟩)
    have eo : orF Y (btB g) (Y 0 17).toNatClampNeg 0 (fun _ => 0, 0) = orP Y := orF_q (n := Y 0 17) hbit _ 0 _ (by decide) h17.1 (by rw [show (0 : Int32).toNatClampNeg = 0 from rfl, Nat.zero_add])
    have h2 := xt_findOrder (d := d + 9) (g := g) hS hm h17 hg (P := fun r h' => r = none ∧ ∃ J, h' = (n, t, K, L, J, R) ∧ gs M I0 J Y ∧ J M 64 = Int32.ofNat (orP Y).2 ∧ (orP Y).2 ≤ 30 ∧ (∀ j, j < (orP Y).2 → J (M + 40) j = (orP Y).1 j ∧ 0 ≤ (orP Y).1 j ∧ (orP Y).1 j < Y 0 17)) (fun J q1 q2 q3 q4 => by
      rw [eo] at q2 q3 q4
      exact ⟨rfl, J, rfl, q1, q2, q3, q4⟩)
    refine (does_and h1 h2).weaken (fun r h' q => ?_)
    obtain ⟨⟨e1, J, e2, f1⟩, ⟨-, J2, e3, g1, o1, o2, o3⟩⟩ := q
    subst e1
    subst e2
    cases e3
    have e00 : Int32.ofNat 0 = 0 := rfl
    have hn := xt_plan_80 (d := d + 1) (P := P) (I0 := I0) (g := g) hS hm h17 h10 h6 hl hc hf he9 (o := (orP Y).1) o2 (fun j hj => (o3 j hj).2) hP (orP Y).2 0 (a_ui J M 61 0) Y 0 (fun _ => 0) (by omega) (sF_passedMany (mF_le f1 (by omega)) (by decide)) (gs_u0 g1 (sR_passedMany g1.1 (by decide)) (by unfold ps1; omega)) (fun _ _ _ => rfl) hm.2.2.2.1 (by rw [ui_ap, if_neg (by omega)]; exact o1) (fun j hj => by rw [ui_ap, if_neg (by omega)]; exact (o3 j hj).1) (Nat.le_refl _) (by rw [ui_ap, if_pos ⟨rfl, rfl⟩]; rfl) (fun j hj => absurd hj (Nat.not_lt_zero j)) rfl
    rw [Nat.sub_zero, e00] at hn
    clear hP hm hg g1 o3 hl hF f1
    simp only [q234_69, q234_70, q234_71, q234_74, q234_75, q234_77, q234_78, m_0 hS, m_K hS, as_nil, as_i, as_r, Nat.reduceAdd, Nat.reduceLeDiff, z_eq0, z_eq1, z_or, z_em, Classical.not_not, not_false_eq_true, not_true_eq_false, true_and, and_true, false_and, and_false, and_self, true_implies, false_implies, implies_true, Option.toList_some, Option.toList_none, List.cons_append, List.nil_append, Nat.add_eq_zero_iff, a_nl_i, a_nl_r, a_nl_n, true_or, or_true, eq_self, ok_4, ok_5, ok_6, ok_7, ok_9, ok_10, ok_20, ok_21, ok_24, ok_30, ok_48, ok_50, ok_60, ok_80, ok_120, ok_180, ok_192, ok_200, ok_900, ok_1000, ok_84000]
    exact hn) 0 (by decide) 0 (by decide) h17.1 (fun j hj => by
    rw [bq_0, show (0 : Int32).toNatClampNeg = 0 from rfl]
    exact ⟨fun q => absurd q Bool.false_ne_true, fun q => absurd q.1 (Nat.not_lt_zero j)⟩)
  clear hP hm hg hl hF
  simp only [q234_14, q234_15, q234_16, q234_17, as_nil, as_i, as_r, Nat.reduceAdd, Nat.reduceLeDiff, z_eq0, z_eq1, z_or, z_em, Classical.not_not, not_false_eq_true, not_true_eq_false, true_and, and_true, false_and, and_false, and_self, true_implies, false_implies, implies_true, Option.toList_some, Option.toList_none, List.cons_append, List.nil_append, Nat.add_eq_zero_iff, a_nl_i, a_nl_r, a_nl_n, true_or, or_true, eq_self, ok_4, ok_5, ok_6, ok_7, ok_9, ok_10, ok_20, ok_21, ok_24, ok_30, ok_48, ok_50, ok_60, ok_80, ok_120, ok_180, ok_192, ok_200, ok_900, ok_1000, ok_84000]
  exact hl19
end YF0
end

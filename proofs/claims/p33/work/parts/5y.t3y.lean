/-! places given and taken back on the class's rows -/
section YY
variable {Y Z : Nat → Nat → Int32} {W T W' T' : Int32 → Nat → Int32}
/-- an ASK has the first x SHIFTS of a place -/
def ppY (Y : Nat → Nat → Int32) (a b s x : Int32) : Nat → Nat → Int32 := fun k j => if k = 20 ∧ j = a.toNatClampNeg then b else if k = 21 ∧ j = a.toNatClampNeg then s else if k = 10 ∧ j = a.toNatClampNeg then x else if k = 22 ∧ 4 * a.toNatClampNeg ≤ j ∧ j < 4 * a.toNatClampNeg + x.toNatClampNeg then sdY Y a b s (Int32.ofNat (j - 4 * a.toNatClampNeg)) else Y k j
theorem pp_o {a b s x : Int32} {k j : Nat} (h : (¬ k = 20 ∧ ¬ k = 21 ∧ ¬ k = 10 ∧ ¬ k = 22) ∨ (¬ j = a.toNatClampNeg ∧ ¬ k = 22)) : ppY Y a b s x k j = Y k j := by
  unfold ppY
  rw [if_neg (by omega), if_neg (by omega), if_neg (by omega), if_neg (by omega)]
theorem pp_20 {a b s x : Int32} : ppY Y a b s x 20 a.toNatClampNeg = b := by
  unfold ppY
  rw [if_pos (by omega)]
theorem pp_21 {a b s x : Int32} : ppY Y a b s x 21 a.toNatClampNeg = s := by
  unfold ppY
  rw [if_neg (by omega), if_pos (by omega)]
theorem pp_10 {a b s x : Int32} : ppY Y a b s x 10 a.toNatClampNeg = x := by
  unfold ppY
  rw [if_neg (by omega), if_neg (by omega), if_pos (by omega)]
theorem pp_22 {a b s x i : Int32} (ha : 0 ≤ a ∧ a < 30) (hi : 0 ≤ i ∧ i < 4) (hx : i < x) : ppY Y a b s x 22 (4 * a + i).toNatClampNeg = sdY Y a b s i := by
  have h := cl_lt hi.1 hx
  obtain ⟨n1, -, -⟩ := n4 ha hi
  unfold ppY
  rw [if_neg (by omega), if_neg (by omega), if_neg (by omega), n1, if_pos (by omega), on_sub hi.1]
theorem pp_22o {a b s x o i : Int32} (ha : 0 ≤ a ∧ a < 30) (ho : 0 ≤ o ∧ o < 30) (hi : 0 ≤ i ∧ i < 4) (hx : 0 ≤ x ∧ x ≤ 4) (hn : ¬ o = a) : ppY Y a b s x 22 (4 * o + i).toNatClampNeg = Y 22 (4 * o + i).toNatClampNeg := by
  have h := lt4 hi
  have h2 := cl_le0 hx.1 hx.2
  rw [show (4 : Int32).toNatClampNeg = 4 from rfl] at h2
  have hne : ¬ o.toNatClampNeg = a.toNatClampNeg := fun e => hn (cl_inj ho.1 ha.1 e)
  obtain ⟨n1, -, -⟩ := n4 ho hi
  unfold ppY
  rw [if_neg (by omega), if_neg (by omega), if_neg (by omega), n1, if_neg (by omega)]
theorem pu_pp {a b s : Int32} : puY Y a b s = ppY Y a b s (Y 10 a.toNatClampNeg) := by
  funext k j
  unfold puY ppY
  by_cases e : k = 10 ∧ j = a.toNatClampNeg
  · rw [if_neg (by omega), if_neg (by omega), if_neg (by omega), if_neg (by omega), if_neg (by omega), if_pos e, e.1, e.2]
  · rw [if_neg (c := k = 10 ∧ j = a.toNatClampNeg) e]
/-- a SHIFT of a row of SHIFTS -/
theorem in_rg {s x y : Int32} (h0 : 0 ≤ s) (hs : s ≤ 200) (hx : 0 ≤ x ∧ x ≤ 4) (hy : 0 ≤ y ∧ y < 200) : (s.toNatClampNeg ≤ y.toNatClampNeg ∧ y.toNatClampNeg < s.toNatClampNeg + x.toNatClampNeg) ↔ ∃ i : Int32, 0 ≤ i ∧ i < x ∧ y = s + i := by
  have a0 := Int32.le_iff_toInt_le.mp h0
  have a1 := Int32.le_iff_toInt_le.mp hs
  have b0 := Int32.le_iff_toInt_le.mp hx.1
  have b1 := Int32.le_iff_toInt_le.mp hx.2
  have c0 := Int32.le_iff_toInt_le.mp hy.1
  have c1 := Int32.lt_iff_toInt_lt.mp hy.2
  have w0 : (0 : Int32).toInt = 0 := rfl
  have w4 : (4 : Int32).toInt = 4 := rfl
  have w200 : (200 : Int32).toInt = 200 := rfl
  rw [w0] at a0 b0 c0
  rw [w200] at a1 c1
  rw [w4] at b1
  have e1 : y.toNatClampNeg = y.toInt.toNat := rfl
  have e2 : s.toNatClampNeg = s.toInt.toNat := rfl
  have e3 : x.toNatClampNeg = x.toInt.toNat := rfl
  have ed : (y - s).toInt = y.toInt - s.toInt := by
    rw [Int32.toInt_sub, in_bm (by omega) (by omega)]
  refine ⟨fun ⟨q1, q2⟩ => ⟨y - s, ?_, ?_, ?_⟩, fun ⟨i, i0, i1, i2⟩ => ?_⟩
  · rw [Int32.le_iff_toInt_le, ed, w0]
    omega
  · rw [Int32.lt_iff_toInt_lt, ed]
    omega
  · refine Int32.toInt_inj.mp ?_
    rw [Int32.toInt_add, ed, in_bm (by omega) (by omega)]
    omega
  · have d0 := Int32.le_iff_toInt_le.mp i0
    have d1 := Int32.lt_iff_toInt_lt.mp i1
    rw [w0] at d0
    have e4 : y.toInt = s.toInt + i.toInt := by
      rw [i2, Int32.toInt_add, in_bm (by omega) (by omega)]
    omega
theorem sh_at {s i : Int32} (h0 : 0 ≤ s) (hs : s ≤ 200) (hi : 0 ≤ i ∧ i ≤ 4) : (s + i).toNatClampNeg = s.toNatClampNeg + i.toNatClampNeg ∧ 0 ≤ s + i ∧ Int32.ofNat ((s + i).toNatClampNeg - s.toNatClampNeg) = i := by
  have a0 := Int32.le_iff_toInt_le.mp h0
  have a1 := Int32.le_iff_toInt_le.mp hs
  have b0 := Int32.le_iff_toInt_le.mp hi.1
  have b1 := Int32.le_iff_toInt_le.mp hi.2
  have w0 : (0 : Int32).toInt = 0 := rfl
  have w4 : (4 : Int32).toInt = 4 := rfl
  have w200 : (200 : Int32).toInt = 200 := rfl
  rw [w0] at a0 b0
  rw [w200] at a1
  rw [w4] at b1
  have e4 : (s + i).toInt = s.toInt + i.toInt := by
    rw [Int32.toInt_add, in_bm (by omega) (by omega)]
  have e5 : (s + i).toNatClampNeg = s.toNatClampNeg + i.toNatClampNeg := by
    show (s + i).toInt.toNat = s.toInt.toNat + i.toInt.toNat
    rw [e4]
    omega
  refine ⟨e5, by rw [Int32.le_iff_toInt_le, e4, w0]; omega, ?_⟩
  rw [e5, show s.toNatClampNeg + i.toNatClampNeg - s.toNatClampNeg = i.toNatClampNeg by omega]
  exact (on_cl hi.1).symm
theorem sh_lt {p l i : Int32} (hp : 0 ≤ p ∧ p ≤ 200) (hl : 0 ≤ l ∧ l ≤ 4) (hs : p + l ≤ 200) (hi : 0 ≤ i ∧ i ≤ l) : (i < l → (0 ≤ p + i ∧ p + i < 200) ∧ p + i ≤ 199) ∧ p + i ≤ 200 ∧ 0 ≤ p + i := by
  have a0 := Int32.le_iff_toInt_le.mp hp.1
  have a1 := Int32.le_iff_toInt_le.mp hp.2
  have b0 := Int32.le_iff_toInt_le.mp hl.1
  have b1 := Int32.le_iff_toInt_le.mp hl.2
  have c0 := Int32.le_iff_toInt_le.mp hi.1
  have c1 := Int32.le_iff_toInt_le.mp hi.2
  have d0 := Int32.le_iff_toInt_le.mp hs
  have w0 : (0 : Int32).toInt = 0 := rfl
  have w4 : (4 : Int32).toInt = 4 := rfl
  have w199 : (199 : Int32).toInt = 199 := rfl
  have w200 : (200 : Int32).toInt = 200 := rfl
  rw [w0] at a0 b0 c0
  rw [w200] at a1
  rw [w4] at b1
  have e1 : (p + l).toInt = p.toInt + l.toInt := by rw [Int32.toInt_add, in_bm (by omega) (by omega)]
  have e2 : (p + i).toInt = p.toInt + i.toInt := by rw [Int32.toInt_add, in_bm (by omega) (by omega)]
  rw [e1, w200] at d0
  refine ⟨fun q => ?_, by rw [Int32.le_iff_toInt_le, e2, w200]; omega, by rw [Int32.le_iff_toInt_le, e2, w0]; omega⟩
  have c2 := Int32.lt_iff_toInt_lt.mp q
  exact ⟨⟨by rw [Int32.le_iff_toInt_le, e2, w0]; omega, by rw [Int32.lt_iff_toInt_lt, e2, w200]; omega⟩, by rw [Int32.le_iff_toInt_le, e2, w199]; omega⟩
theorem pl_put (hp : plP W T Y) (hl : ∀ j, 0 ≤ Y 10 j ∧ Y 10 j ≤ 4) (hn : Y 0 17 ≤ 30) {a b s x : Int32} (ha : 0 ≤ a ∧ a < Y 0 17) (hb : 0 ≤ b ∧ b < Y 0 6) (hs : 0 ≤ s ∧ s ≤ 200) (hx : 0 ≤ x ∧ x ≤ 4) (hsx : s + x ≤ 200) (un : ¬ 0 ≤ Y 20 a.toNatClampNeg) (fr : ∀ i : Int32, 0 ≤ i → i < x → W b (s + i).toNatClampNeg = -9) (hW : ∀ c : Int32, 0 ≤ c → c < Y 0 6 → ∀ j, W' c j = if c = b ∧ s.toNatClampNeg ≤ j ∧ j < s.toNatClampNeg + x.toNatClampNeg then a else W c j) (hT : ∀ c : Int32, 0 ≤ c → c < Y 0 6 → ∀ j, T' c j = if c = b ∧ s.toNatClampNeg ≤ j ∧ j < s.toNatClampNeg + x.toNatClampNeg then sdY Y a b s (Int32.ofNat (j - s.toNatClampNeg)) else T c j) : plP W' T' (ppY Y a b s x) := by
  have a30 : 0 ≤ a ∧ a < 30 := ⟨ha.1, Int32.lt_of_lt_of_le ha.2 hn⟩
  have z17 : ppY Y a b s x 0 17 = Y 0 17 := pp_o (Or.inl ⟨by omega, by omega, by omega, by omega⟩)
  have z6 : ppY Y a b s x 0 6 = Y 0 6 := pp_o (Or.inl ⟨by omega, by omega, by omega, by omega⟩)
  have zo : ∀ o : Int32, 0 ≤ o → ¬ o = a → ∀ k, ¬ k = 22 → ppY Y a b s x k o.toNatClampNeg = Y k o.toNatClampNeg := fun o o0 on k hk => pp_o (Or.inr ⟨fun e => on (cl_inj o0 ha.1 e), hk⟩)
  refine ⟨fun o o0 o1 o2 => ?_, fun c y c0 c1 y0 y1 => ?_⟩
  · rw [z17] at o1
    rw [z6]
    by_cases e : o = a
    · subst e
      rw [pp_20, pp_21, pp_10]
      refine ⟨hb.2, hs, hsx, fun i i0 i1 => ?_⟩
      have i4 : 0 ≤ i ∧ i < 4 := ⟨i0, Int32.lt_of_lt_of_le i1 hx.2⟩
      obtain ⟨e1, e2, e3⟩ := sh_at hs.1 hs.2 ⟨i0, Int32.le_of_lt i4.2⟩
      have hlt := cl_lt i0 i1
      rw [hW b hb.1 hb.2, hT b hb.1 hb.2, if_pos ⟨rfl, by omega, by omega⟩, if_pos ⟨rfl, by omega, by omega⟩, e3, pp_22 a30 i4 i1]
      exact ⟨rfl, rfl⟩
    · rw [zo o o0 e 20 (by omega)] at o2 ⊢
      rw [zo o o0 e 21 (by omega), zo o o0 e 10 (by omega)]
      obtain ⟨p1, p2, p3, p4⟩ := hp.1 o o0 o1 o2
      refine ⟨p1, p2, p3, fun i i0 i1 => ?_⟩
      obtain ⟨q1, q2⟩ := p4 i i0 i1
      have i4 : 0 ≤ i ∧ i < 4 := ⟨i0, Int32.lt_of_lt_of_le i1 (hl o.toNatClampNeg).2⟩
      have o30 : 0 ≤ o ∧ o < 30 := ⟨o0, Int32.lt_of_lt_of_le o1 hn⟩
      have hno : ¬ (Y 20 o.toNatClampNeg = b ∧ s.toNatClampNeg ≤ (Y 21 o.toNatClampNeg + i).toNatClampNeg ∧ (Y 21 o.toNatClampNeg + i).toNatClampNeg < s.toNatClampNeg + x.toNatClampNeg) := fun ⟨r1, r2⟩ => by
        have hy : 0 ≤ Y 21 o.toNatClampNeg + i ∧ Y 21 o.toNatClampNeg + i < 200 := ((sh_lt p2 (hl o.toNatClampNeg) p3 ⟨i0, Int32.le_of_lt i1⟩).1 i1).1
        obtain ⟨k, k0, k1, k2⟩ := (in_rg hs.1 hs.2 hx hy).mp r2
        rw [r1, k2, fr k k0 k1] at q1
        rw [← q1] at o0
        exact absurd o0 (by decide)
      rw [hW _ o2 p1, hT _ o2 p1, if_neg hno, if_neg hno, pp_22o a30 o30 i4 hx e]
      exact ⟨q1, q2⟩
  · rw [z6] at c1
    rw [hW c c0 c1, hT c c0 c1]
    by_cases r : c = b ∧ s.toNatClampNeg ≤ y.toNatClampNeg ∧ y.toNatClampNeg < s.toNatClampNeg + x.toNatClampNeg
    · obtain ⟨i, i0, i1, i2⟩ := (in_rg hs.1 hs.2 hx ⟨y0, y1⟩).mp r.2
      refine Or.inr ⟨a, i, ha.1, by rw [z17]; exact ha.2, ?_, i0, ?_, ?_⟩
      · rw [pp_20]
        exact r.1.symm
      · rw [pp_10]
        exact i1
      · rw [pp_21]
        exact i2
    · rw [if_neg r, if_neg r]
      rcases hp.2 c y c0 c1 y0 y1 with q | ⟨o, i, o0, o1, o2, i0, i1, i2⟩
      · exact Or.inl q
      · have on : ¬ o = a := fun e => un (by rw [← e, o2]; exact c0)
        refine Or.inr ⟨o, i, o0, by rw [z17]; exact o1, ?_, i0, ?_, ?_⟩
        · rw [zo o o0 on 20 (by omega)]
          exact o2
        · rw [zo o o0 on 10 (by omega)]
          exact i1
        · rw [zo o o0 on 21 (by omega)]
          exact i2
theorem un_o {a : Int32} {k j : Nat} (h : (¬ k = 20 ∧ ¬ k = 21) ∨ ¬ j = a.toNatClampNeg) : unY Y a k j = Y k j := by
  unfold unY
  rw [if_neg (by omega)]
theorem un_a {a : Int32} {k : Nat} (h : k = 20 ∨ k = 21) : unY Y a k a.toNatClampNeg = -9 := by
  unfold unY
  rw [if_pos ⟨h, rfl⟩]
theorem pl_un (hp : plP W T Y) (hl : ∀ j, 0 ≤ Y 10 j ∧ Y 10 j ≤ 4) {a : Int32} (ha : 0 ≤ a ∧ a < Y 0 17) (pa : 0 ≤ Y 20 a.toNatClampNeg) (hW : ∀ c : Int32, 0 ≤ c → c < Y 0 6 → ∀ j, W' c j = if c = Y 20 a.toNatClampNeg ∧ (Y 21 a.toNatClampNeg).toNatClampNeg ≤ j ∧ j < (Y 21 a.toNatClampNeg).toNatClampNeg + (Y 10 a.toNatClampNeg).toNatClampNeg then -9 else W c j) (hT : ∀ c : Int32, 0 ≤ c → c < Y 0 6 → ∀ j, T' c j = if c = Y 20 a.toNatClampNeg ∧ (Y 21 a.toNatClampNeg).toNatClampNeg ≤ j ∧ j < (Y 21 a.toNatClampNeg).toNatClampNeg + (Y 10 a.toNatClampNeg).toNatClampNeg then 0 else T c j) : plP W' T' (unY Y a) := by
  obtain ⟨g1, g2, g3, g4⟩ := hp.1 a ha.1 ha.2 pa
  have gl := hl a.toNatClampNeg
  have gs : Y 21 a.toNatClampNeg ≤ 200 := g2.2
  have z17 : unY Y a 0 17 = Y 0 17 := un_o (Or.inl ⟨by omega, by omega⟩)
  have z6 : unY Y a 0 6 = Y 0 6 := un_o (Or.inl ⟨by omega, by omega⟩)
  have zo : ∀ o : Int32, 0 ≤ o → ¬ o = a → ∀ k, unY Y a k o.toNatClampNeg = Y k o.toNatClampNeg := fun o o0 on k => un_o (Or.inr (fun e => on (cl_inj o0 ha.1 e)))
  have z10 : ∀ j, unY Y a 10 j = Y 10 j := fun j => un_o (Or.inl ⟨by omega, by omega⟩)
  have z22 : ∀ j, unY Y a 22 j = Y 22 j := fun j => un_o (Or.inl ⟨by omega, by omega⟩)
  refine ⟨fun o o0 o1 o2 => ?_, fun c y c0 c1 y0 y1 => ?_⟩
  · rw [z17] at o1
    rw [z6]
    have e : ¬ o = a := fun e => by
      rw [e, un_a (Or.inl rfl)] at o2
      exact absurd o2 (by decide)
    rw [zo o o0 e 20] at o2 ⊢
    rw [zo o o0 e 21, z10]
    obtain ⟨p1, p2, p3, p4⟩ := hp.1 o o0 o1 o2
    refine ⟨p1, p2, p3, fun i i0 i1 => ?_⟩
    obtain ⟨q1, q2⟩ := p4 i i0 i1
    have hno : ¬ (Y 20 o.toNatClampNeg = Y 20 a.toNatClampNeg ∧ (Y 21 a.toNatClampNeg).toNatClampNeg ≤ (Y 21 o.toNatClampNeg + i).toNatClampNeg ∧ (Y 21 o.toNatClampNeg + i).toNatClampNeg < (Y 21 a.toNatClampNeg).toNatClampNeg + (Y 10 a.toNatClampNeg).toNatClampNeg) := fun ⟨r1, r2⟩ => by
      have hy : 0 ≤ Y 21 o.toNatClampNeg + i ∧ Y 21 o.toNatClampNeg + i < 200 := ((sh_lt p2 (hl o.toNatClampNeg) p3 ⟨i0, Int32.le_of_lt i1⟩).1 i1).1
      obtain ⟨k, k0, k1, k2⟩ := (in_rg g2.1 gs gl hy).mp r2
      have w := (g4 k k0 k1).1
      rw [← r1, ← k2, q1] at w
      exact e w
    rw [hW _ o2 p1, hT _ o2 p1, if_neg hno, if_neg hno, z22]
    exact ⟨q1, q2⟩
  · rw [z6] at c1
    rw [hW c c0 c1, hT c c0 c1]
    by_cases r : c = Y 20 a.toNatClampNeg ∧ (Y 21 a.toNatClampNeg).toNatClampNeg ≤ y.toNatClampNeg ∧ y.toNatClampNeg < (Y 21 a.toNatClampNeg).toNatClampNeg + (Y 10 a.toNatClampNeg).toNatClampNeg
    · rw [if_pos r, if_pos r]
      exact Or.inl ⟨rfl, rfl⟩
    · rw [if_neg r, if_neg r]
      rcases hp.2 c y c0 c1 y0 y1 with q | ⟨o, i, o0, o1, o2, i0, i1, i2⟩
      · exact Or.inl q
      · have on : ¬ o = a := fun e => r (by
          subst e
          exact ⟨o2.symm, (in_rg g2.1 gs gl ⟨y0, y1⟩).mpr ⟨i, i0, i1, i2⟩⟩)
        exact Or.inr ⟨o, i, o0, by rw [z17]; exact o1, by rw [zo o o0 on 20]; exact o2, i0, by rw [z10]; exact i1, by rw [zo o o0 on 21]; exact i2⟩
/-- what holds of the model's words at all times, where places alone change -/
theorem yoP_b (h : yoP Y) (hb : sbE Y Z) (hi : inP Z) : yoP Z := by
  obtain ⟨h1, h2, h3, h4, h5, h6, -, h8, h9, h10⟩ := h
  have e10 : Z 10 = Y 10 := sbE_r hb (by omega)
  have e17 : Z 0 17 = Y 0 17 := hb 0 17 (by unfold sb; omega)
  refine ⟨by rw [hb 0 41 (by unfold sb; omega)]; exact h1, by rw [e10]; exact h2, by rw [e17, e10]; exact h3, by rw [hb 0 9 (by unfold sb; omega)]; exact h4, by rw [e17]; exact h5, by rw [hb 0 6 (by unfold sb; omega)]; exact h6, hi, fun k q => ?_, fun b => by rw [sbE_r hb (k := 6) (by omega)]; exact h9 b, by rw [e17, sbE_r hb (k := 7) (by omega), sbE_r hb (k := 16) (by omega)]; exact h10⟩
  rw [sbE_r hb (k := 38) (by omega)] at q
  rw [sbE_r hb (k := 36) (by omega)]
  exact h8 k q
theorem inP_pu (h : inP Y) {a b s : Int32} (hs : 0 ≤ s ∧ s ≤ 200 ∧ s + Y 10 a.toNatClampNeg ≤ 200) (hb : b ≤ 5) : inP (puY Y a b s) := fun j hj hp => by
  unfold puY at hp ⊢
  by_cases e : j = a.toNatClampNeg
  · subst e
    rw [if_neg (by omega), if_pos (by omega), if_neg (by omega), if_neg (by omega), if_neg (by omega), if_pos (by omega)]
    exact ⟨hs, hb⟩
  · rw [if_neg (by omega), if_neg (by omega), if_neg (by omega)] at hp
    rw [if_neg (by omega), if_neg (by omega), if_neg (by omega), if_neg (by omega), if_neg (by omega), if_neg (by omega), if_neg (by omega), if_neg (by omega), if_neg (by omega)]
    exact h j hj hp
theorem inP_un (h : inP Y) {a : Int32} : inP (unY Y a) := fun j hj hp => by
  unfold unY at hp ⊢
  by_cases e : j = a.toNatClampNeg
  · rw [if_pos ⟨Or.inl rfl, e⟩] at hp
    exact absurd hp (by decide)
  · rw [if_neg (by omega)] at hp
    rw [if_neg (by omega), if_neg (by omega), if_neg (by omega)]
    exact h j hj hp
end YY
/-! the best: the first of the greatest -/
section Z93
variable {S : Type} {fit : S → Nat → Nat → Bool} {put : S → Nat → Nat → S} {wt : Nat → Int32} {pl : Nat}
/-- what is found so far: the sum, the places -/
abbrev bB : Type := Int32 × (Nat → Int32)
def bsL (fit : S → Nat → Nat → Bool) (put : S → Nat → Nat → S) (wt : Nat → Int32) (pl : Nat) (rec : S → Int32 → (Nat → Int32) → bB → bB) (i : Nat) (W : S) (acc : Int32) (way : Nat → Int32) : Nat → Nat → bB → bB
  | 0, _, B => B
  | k + 1, p, B => bsL fit put wt pl rec i W acc way k (p + 1) (if p < pl then (if fit W i p = true then rec (put W i p) (acc + wt i) (up1 way i (Int32.ofNat p)) B else B) else rec W acc (up1 way i (Int32.ofNat p)) B)
def bsU (acc : Int32) (way : Nat → Int32) (B : bB) : bB := if B.1 < acc then (acc, way) else B
def bsR (fit : S → Nat → Nat → Bool) (put : S → Nat → Nat → S) (wt : Nat → Int32) (pl : Nat) : Nat → Nat → S → Int32 → (Nat → Int32) → bB → bB
  | 0, _, _, acc, way, B => bsU acc way B
  | r + 1, i, W, acc, way, B => bsL fit put wt pl (bsR fit put wt pl r (i + 1)) i W acc way (pl + 1) 0 B
/-- the places below one level, nothing else -/
def wcut (i : Nat) (w : Nat → Int32) : Nat → Int32 := fun j => if j < i then w j else 0
def bsW (put : S → Nat → Nat → S) (pl : Nat) (W0 : S) (w : Nat → Int32) : Nat → S
  | 0 => W0
  | k + 1 => if (w k).toNatClampNeg < pl then put (bsW put pl W0 w k) k (w k).toNatClampNeg else bsW put pl W0 w k
def bsA (wt : Nat → Int32) (pl : Nat) (w : Nat → Int32) : Nat → Int32
  | 0 => 0
  | k + 1 => bsA wt pl w k + (if (w k).toNatClampNeg < pl then wt k else 0)
/-- what is left to do, levels below i -/
def bsC (fit : S → Nat → Nat → Bool) (put : S → Nat → Nat → S) (wt : Nat → Int32) (pl m : Nat) (W0 : S) (w : Nat → Int32) : Nat → bB → bB
  | 0, B => B
  | i + 1, B => bsC fit put wt pl m W0 w i (bsL fit put wt pl (bsR fit put wt pl (m - (i + 1)) (i + 1)) i (bsW put pl W0 w i) (bsA wt pl w i) (wcut i w) (pl + 1 - (w i + 1).toNatClampNeg) (w i + 1).toNatClampNeg B)
/-- and at a level -/
def bsH (fit : S → Nat → Nat → Bool) (put : S → Nat → Nat → S) (wt : Nat → Int32) (pl m : Nat) (W0 : S) (w : Nat → Int32) (i : Nat) (B : bB) : bB := if i = m then bsC fit put wt pl m W0 w m (bsU (bsA wt pl w m) (wcut m w) B) else bsC fit put wt pl m W0 w (i + 1) B
theorem bsW_eq {W0 : S} {w w' : Nat → Int32} : ∀ k, (∀ j, j < k → w' j = w j) → bsW put pl W0 w' k = bsW put pl W0 w k := by
  intro k
  induction k with
  | zero => intro _; rfl
  | succ k ih =>
    intro h
    unfold bsW
    rw [ih (fun j hj => h j (by omega)), h k (by omega)]
theorem bsA_eq {w w' : Nat → Int32} : ∀ k, (∀ j, j < k → w' j = w j) → bsA wt pl w' k = bsA wt pl w k := by
  intro k
  induction k with
  | zero => intro _; rfl
  | succ k ih =>
    intro h
    unfold bsA
    rw [ih (fun j hj => h j (by omega)), h k (by omega)]
theorem wcut_eq {w w' : Nat → Int32} {k : Nat} (h : ∀ j, j < k → w' j = w j) : wcut k w' = wcut k w := by
  funext j
  unfold wcut
  by_cases c : j < k
  · rw [if_pos c, if_pos c, h j c]
  · rw [if_neg c, if_neg c]
theorem bsC_eq {m : Nat} {W0 : S} {w w' : Nat → Int32} : ∀ k B, (∀ j, j < k → w' j = w j) → bsC fit put wt pl m W0 w' k B = bsC fit put wt pl m W0 w k B := by
  intro k
  induction k with
  | zero => intro B _; rfl
  | succ k ih =>
    intro B h
    have h' : ∀ j, j < k → w' j = w j := fun j hj => h j (by omega)
    unfold bsC
    rw [ih _ h', bsW_eq k h', bsA_eq k h', wcut_eq h', h k (by omega)]
/-- places that fit no one are passed over -/
theorem bsL_skip {rec : S → Int32 → (Nat → Int32) → bB → bB} {i : Nat} {W : S} {acc : Int32} {way : Nat → Int32} {B : bB} : ∀ (d k p : Nat), p + d ≤ pl → (∀ x, p ≤ x → x < p + d → ¬ fit W i x = true) → bsL fit put wt pl rec i W acc way (d + k) p B = bsL fit put wt pl rec i W acc way k (p + d) B := by
  intro d
  induction d with
  | zero => intro k p _ _; rw [Nat.zero_add, Nat.add_zero]
  | succ d ih =>
    intro k p h1 h2
    rw [show d + 1 + k = (d + k) + 1 by omega]
    conv => lhs; unfold bsL
    rw [if_pos (by omega), if_neg (h2 p (Nat.le_refl p) (by omega)), ih k (p + 1) (by omega) (fun x x0 x1 => h2 x (by omega) (by omega)), show p + 1 + d = p + (d + 1) by omega]
theorem up1_cut {w : Nat → Int32} {i : Nat} {v : Int32} {w' : Nat → Int32} (h : ∀ j, j < i → w' j = w j) (hi : w' i = v) : wcut (i + 1) w' = up1 (wcut i w) i v := by
  funext j
  unfold wcut up1
  by_cases c : j = i
  · rw [if_pos c, if_pos (by omega), c, hi]
  · rw [if_neg c]
    by_cases c2 : j < i
    · have e1 : (if j < i + 1 then w' j else 0) = w' j := if_pos (by omega)
      rw [e1, h j c2]
      exact (if_pos c2).symm
    · have e1 : (if j < i + 1 then w' j else 0) = 0 := if_neg (by omega)
      rw [e1]
      exact (if_neg c2).symm
/-- a level is through -/
theorem bsC_end {m : Nat} {W0 : S} {w : Nat → Int32} {i : Nat} {B : bB} (h : (w i + 1).toNatClampNeg = pl + 1) : bsC fit put wt pl m W0 w (i + 1) B = bsC fit put wt pl m W0 w i B := by
  conv => lhs; unfold bsC
  rw [h, Nat.sub_self]
  rfl
/-- a place is found at a level -/
theorem bsH_on {m : Nat} {W0 : S} {w w' : Nat → Int32} {i p : Nat} {B : bB} (him : i < m) (hp0 : (w i + 1).toNatClampNeg ≤ p) (hp : p ≤ pl) (hpl : pl ≤ 1000) (hn : ∀ x, (w i + 1).toNatClampNeg ≤ x → x < p → ¬ fit (bsW put pl W0 w i) i x = true) (hf : p < pl → fit (bsW put pl W0 w i) i p = true) (h1 : ∀ j, j < i → w' j = w j) (h2 : w' i = Int32.ofNat p) (h3 : w' (i + 1) = -1) : bsH fit put wt pl m W0 w i B = bsH fit put wt pl m W0 w' (i + 1) B := by
  have en : (w' i).toNatClampNeg = p := by rw [h2]; exact (cl_on2 (by omega)).1
  have en1 : (w' i + 1).toNatClampNeg = p + 1 := by
    rw [h2]
    have e := cl_on2 (m := p) (by omega)
    have q0 : (0 : Int32) ≤ Int32.ofNat p := by rw [Int32.le_iff_toInt_le, e.2]; show (0 : Int) ≤ p; omega
    have q1 : Int32.ofNat p < 100000 := by rw [Int32.lt_iff_toInt_lt, e.2]; show (p : Int) < 100000; omega
    rw [(lp_st q0 q1).2.2.2, e.1]
  have hW : bsW put pl W0 w' (i + 1) = if p < pl then put (bsW put pl W0 w i) i p else bsW put pl W0 w i := by
    conv => lhs; unfold bsW
    rw [en, bsW_eq i h1]
  have hA : bsA wt pl w' (i + 1) = bsA wt pl w i + (if p < pl then wt i else 0) := by
    conv => lhs; unfold bsA
    rw [en, bsA_eq i h1]
  have hcut : wcut (i + 1) w' = up1 (wcut i w) i (Int32.ofNat p) := up1_cut h1 h2
  -- the level's own search, at that place
  have hL : bsC fit put wt pl m W0 w (i + 1) B = bsC fit put wt pl m W0 w' (i + 1) (bsR fit put wt pl (m - (i + 1)) (i + 1) (bsW put pl W0 w' (i + 1)) (bsA wt pl w' (i + 1)) (wcut (i + 1) w') B) := by
    conv => lhs; unfold bsC
    conv => rhs; unfold bsC
    rw [bsC_eq i _ h1, bsW_eq i h1, bsA_eq i h1, wcut_eq h1, en1, show pl + 1 - (w i + 1).toNatClampNeg = (p - (w i + 1).toNatClampNeg) + ((pl - p) + 1) by omega, bsL_skip _ _ _ (by omega) (fun x x0 x1 => hn x x0 (by omega)), show (w i + 1).toNatClampNeg + (p - (w i + 1).toNatClampNeg) = p by omega, show pl + 1 - (p + 1) = pl - p by omega]
    congr 1
    conv => lhs; unfold bsL
    congr 1
    rw [hW, hA, hcut]
    by_cases c : p < pl
    · rw [if_pos c, if_pos (hf c), if_pos c, if_pos c]
    · rw [if_neg c, if_neg c, if_neg c]
      congr 1
      exact (Int32.add_zero _).symm
  unfold bsH
  rw [if_neg (by omega), hL]
  by_cases c : i + 1 = m
  · rw [if_pos c]
    subst c
    rw [Nat.sub_self]
    rfl
  · rw [if_neg c]
    conv => rhs; unfold bsC
    rw [h3, show ((-1 : Int32) + 1).toNatClampNeg = 0 from rfl, show m - (i + 1) = (m - (i + 1 + 1)) + 1 by omega]
    rfl
/-- the sum never falls -/
theorem bsU_le {acc : Int32} {way : Nat → Int32} {B : bB} : B.1 ≤ (bsU acc way B).1 := by
  unfold bsU
  by_cases c : B.1 < acc
  · rw [if_pos c]
    exact Int32.le_of_lt c
  · rw [if_neg c]
    exact Int32.le_refl _
theorem cut_ar {a w q b : Int32} (ha : 0 ≤ a ∧ a ≤ 100000) (hw : 0 ≤ w ∧ w ≤ 100) (hq : 0 ≤ q ∧ q ≤ 400) (hB : b ≤ 100000) (h : a + (q + w) ≤ b) : ((0 ≤ a + w ∧ a + w ≤ 100000) ∧ a + w + q ≤ b) ∧ a + q ≤ b := by
  have c0 : (0 : Int32).toInt = 0 := rfl
  have c1 : (100 : Int32).toInt = 100 := rfl
  have c2 : (400 : Int32).toInt = 400 := rfl
  have c3 : (100000 : Int32).toInt = 100000 := rfl
  have a0 := Int32.le_iff_toInt_le.mp ha.1
  have a1 := Int32.le_iff_toInt_le.mp ha.2
  have w0 := Int32.le_iff_toInt_le.mp hw.1
  have w1 := Int32.le_iff_toInt_le.mp hw.2
  have q0 := Int32.le_iff_toInt_le.mp hq.1
  have q1 := Int32.le_iff_toInt_le.mp hq.2
  have b1 := Int32.le_iff_toInt_le.mp hB
  have t1 : (q + w).toInt = q.toInt + w.toInt := ti_add (by omega)
  have t2 : (a + (q + w)).toInt = a.toInt + (q + w).toInt := ti_add (by omega)
  have t3 : (a + w).toInt = a.toInt + w.toInt := ti_add (by omega)
  have t4 : (a + w + q).toInt = (a + w).toInt + q.toInt := ti_add (by omega)
  have t5 : (a + q).toInt = a.toInt + q.toInt := ti_add (by omega)
  have h0 := Int32.le_iff_toInt_le.mp h
  refine ⟨⟨⟨?_, ?_⟩, ?_⟩, ?_⟩ <;> rw [Int32.le_iff_toInt_le] <;> omega
/-- what can't rise over the sum leaves all as it was -/
theorem bsR_cut {m : Nat} {Iv : S → Prop} {st : Nat → Bool} {rch : Nat → Int32} (hput : ∀ W i p, Iv W → i < m → p < pl → fit W i p = true → Iv (put W i p)) (hst : ∀ W i p, Iv W → i < m → p < pl → fit W i p = true → st i = true) (hw : ∀ i, i < m → 0 ≤ wt i ∧ wt i ≤ 100) (hm : rch m = 0) (hr : ∀ i, i < m → rch i = rch (i + 1) + (if st i = true then wt i else 0)) (hr0 : ∀ i, i ≤ m → 0 ≤ rch i ∧ rch i ≤ 400) : ∀ (r i : Nat) (W : S) (acc : Int32) (way : Nat → Int32) (B : bB), i + r = m → Iv W → (0 ≤ acc ∧ acc ≤ 100000) → B.1 ≤ 100000 → acc + rch i ≤ B.1 → bsR fit put wt pl r i W acc way B = B := by
  intro r
  induction r with
  | zero =>
    intro i W acc way B h1 h2 h3 hB h4
    have e : i = m := by omega
    rw [e, hm] at h4
    unfold bsR bsU
    rw [Int32.add_zero] at h4
    rw [if_neg (Int32.not_lt.mpr h4)]
  | succ r ih =>
    intro i W acc way B h1 h2 h3 hB h4
    have him : i < m := by omega
    have w1 := hw i him
    have r1 := hr i him
    have r2 := hr0 i (by omega)
    have r3 := hr0 (i + 1) (by omega)
    unfold bsR
    have key : ∀ k p, bsL fit put wt pl (bsR fit put wt pl r (i + 1)) i W acc way k p B = B := by
      intro k
      induction k with
      | zero => intro p; rfl
      | succ k ihk =>
        intro p
        unfold bsL
        by_cases c : p < pl
        · rw [if_pos c]
          by_cases c2 : fit W i p = true
          · rw [if_pos c2]
            have s1 := hst W i p h2 him c c2
            rw [if_pos s1] at r1
            have hi := hput W i p h2 him c c2
            have h5 := h4
            rw [r1] at h5
            have h6 := cut_ar h3 w1 r3 hB h5
            rw [ih (i + 1) _ (acc + wt i) _ B (by omega) hi h6.1.1 hB h6.1.2]
            exact ihk _
          · rw [if_neg c2]
            exact ihk _
        · rw [if_neg c]
          have r4 : acc + rch (i + 1) ≤ B.1 := by
            by_cases s1 : st i = true
            · rw [if_pos s1] at r1
              have h5 := h4
              rw [r1] at h5
              exact (cut_ar h3 w1 r3 hB h5).2
            · rw [if_neg s1, Int32.add_zero] at r1
              have h5 := h4
              rw [r1] at h5
              exact h5
          rw [ih (i + 1) W acc _ B (by omega) h2 h3 hB r4]
          exact ihk _
    exact key _ _
end Z93
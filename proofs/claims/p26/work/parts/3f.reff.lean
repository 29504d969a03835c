/-! the search for the best -/
section SF
variable {d n t M c : Nat} {K L : Nat → Nat} {I I0 J J0 J1 J2 : Nat → Nat → Int32} {R : Nat → Nat → Nat} {P : Option Value → AH → Prop}
theorem rem_rng {x k : Int32} (h : 0 ≤ x) (hk : 0 < k) (hx : x ≤ 1000) (hk2 : k ≤ 1000) : 0 ≤ x - x / k * k ∧ x - x / k * k < k := by
  have h1 := ti_div h hk
  have h2 := Int32.le_iff_toInt_le.mp h
  have h3 := Int32.lt_iff_toInt_lt.mp hk
  have h4 := Int32.le_iff_toInt_le.mp hx
  have h5 := Int32.le_iff_toInt_le.mp hk2
  simp at h2 h3 h4 h5
  have e1 : 0 ≤ x.toInt / k.toInt := Int.ediv_nonneg h2 (by omega)
  have e2 : x.toInt / k.toInt * k.toInt ≤ x.toInt := Int.ediv_mul_le _ (by omega)
  have e3 : 0 ≤ x.toInt / k.toInt * k.toInt := Int.mul_nonneg e1 (by omega)
  have m1 : (x / k * k).toInt = x.toInt / k.toInt * k.toInt := by
    rw [Int32.toInt_mul, h1]
    generalize x.toInt / k.toInt * k.toInt = z at e2 e3
    simp [Int.bmod_def]
    omega
  have e4 : x.toInt - x.toInt / k.toInt * k.toInt = x.toInt % k.toInt := by rw [Int.emod_def, Int.mul_comm]
  have e5 := Int.emod_nonneg x.toInt (show k.toInt ≠ 0 by omega)
  have e6 := Int.emod_lt_of_pos x.toInt (show 0 < k.toInt by omega)
  have m2 : (x - x / k * k).toInt = x.toInt % k.toInt := by
    rw [Int32.toInt_sub, m1, e4]
    generalize x.toInt % k.toInt = z at e5 e6
    simp [Int.bmod_def]
    omega
  rw [Int32.le_iff_toInt_le, Int32.lt_iff_toInt_lt, m2]
  exact ⟨by simpa using e5, e6⟩
/-- one of the few -/
def fw (M : Nat) (I : Nat → Nat → Int32) (j : Nat) : Prop := ∃ k : Int32, 0 ≤ k ∧ k < I M 66 ∧ j = (I (M + 41) k.toNatClampNeg).toNatClampNeg
def bF (M : Nat) (I J : Nat → Nat → Int32) : Prop := ∀ x j, ¬ sC M x j → ¬ x = (M + 22) → ¬ x = (M + 42) → ¬ x = (M + 43) → ¬ x = (M + 44) → ¬ ((x = (M + 20) ∨ x = (M + 21)) ∧ fw M I j) → J x j = I x j
theorem bF_fewMany (h : bF M I J) : J M 66 = I M 66 := h _ _ (by unfold sC; omega) (by omega) (by omega) (by omega) (by omega) (by omega)
/-- how far the search is from its end -/
def mu (p : Int32) (w : Nat → Int32) (i : Int32) : Nat := (if 0 ≤ i then (p + 1 - w 0).toNatClampNeg * 16777216 else 0) + (if 1 ≤ i then (p + 1 - w 1).toNatClampNeg * 262144 else 0) + (if 2 ≤ i then (p + 1 - w 2).toNatClampNeg * 4096 else 0) + (if 3 ≤ i then (p + 1 - w 3).toNatClampNeg * 64 else 0) + (if 4 ≤ i then (p + 1 - w 4).toNatClampNeg else 0)
theorem i_cases {i : Int32} (h0 : 0 ≤ i) (h4 : i ≤ 4) : i = 0 ∨ i = 1 ∨ i = 2 ∨ i = 3 ∨ i = 4 := by grind
theorem mu_back {p i : Int32} {w w' : Nat → Int32} (h0 : 0 ≤ i) (h4 : i ≤ 4) (hp : 0 ≤ p ∧ p ≤ 48) (hw : -1 ≤ w i.toNatClampNeg ∧ w i.toNatClampNeg ≤ p) (hs : ∀ k : Nat, k < i.toNatClampNeg → w' k = w k) : mu p w' (i + (-1)) < mu p w i := by
  have hq : 0 < (p + 1 - w i.toNatClampNeg).toNatClampNeg := (show (0 : Int32).toNatClampNeg < _ from cl_lt (by decide) (by grind))
  rcases i_cases h0 h4 with h | h | h | h | h <;> subst h
  · have hv : 0 < (p + 1 - w 0).toNatClampNeg := hq
    rw [show (0 : Int32) + (-1) = (-1 : Int32) by decide]
    simp only [mu, eq_true (show  ((0 : Int32) ≤ (0 : Int32)) by decide), eq_false (show ¬ ((1 : Int32) ≤ (0 : Int32)) by decide), eq_false (show ¬ ((2 : Int32) ≤ (0 : Int32)) by decide), eq_false (show ¬ ((3 : Int32) ≤ (0 : Int32)) by decide), eq_false (show ¬ ((4 : Int32) ≤ (0 : Int32)) by decide), eq_false (show ¬ ((0 : Int32) ≤ (-1 : Int32)) by decide), eq_false (show ¬ ((1 : Int32) ≤ (-1 : Int32)) by decide), eq_false (show ¬ ((2 : Int32) ≤ (-1 : Int32)) by decide), eq_false (show ¬ ((3 : Int32) ≤ (-1 : Int32)) by decide), eq_false (show ¬ ((4 : Int32) ≤ (-1 : Int32)) by decide), if_true, if_false]
    omega
  · have e0 := hs 0 (by decide)
    have hv : 0 < (p + 1 - w 1).toNatClampNeg := hq
    rw [show (1 : Int32) + (-1) = (0 : Int32) by decide]
    simp only [mu, e0, eq_true (show  ((0 : Int32) ≤ (1 : Int32)) by decide), eq_true (show  ((1 : Int32) ≤ (1 : Int32)) by decide), eq_false (show ¬ ((2 : Int32) ≤ (1 : Int32)) by decide), eq_false (show ¬ ((3 : Int32) ≤ (1 : Int32)) by decide), eq_false (show ¬ ((4 : Int32) ≤ (1 : Int32)) by decide), eq_true (show  ((0 : Int32) ≤ (0 : Int32)) by decide), eq_false (show ¬ ((1 : Int32) ≤ (0 : Int32)) by decide), eq_false (show ¬ ((2 : Int32) ≤ (0 : Int32)) by decide), eq_false (show ¬ ((3 : Int32) ≤ (0 : Int32)) by decide), eq_false (show ¬ ((4 : Int32) ≤ (0 : Int32)) by decide), if_true, if_false]
    omega
  · have e0 := hs 0 (by decide)
    have e1 := hs 1 (by decide)
    have hv : 0 < (p + 1 - w 2).toNatClampNeg := hq
    rw [show (2 : Int32) + (-1) = (1 : Int32) by decide]
    simp only [mu, e0, e1, eq_true (show  ((0 : Int32) ≤ (2 : Int32)) by decide), eq_true (show  ((1 : Int32) ≤ (2 : Int32)) by decide), eq_true (show  ((2 : Int32) ≤ (2 : Int32)) by decide), eq_false (show ¬ ((3 : Int32) ≤ (2 : Int32)) by decide), eq_false (show ¬ ((4 : Int32) ≤ (2 : Int32)) by decide), eq_true (show  ((0 : Int32) ≤ (1 : Int32)) by decide), eq_true (show  ((1 : Int32) ≤ (1 : Int32)) by decide), eq_false (show ¬ ((2 : Int32) ≤ (1 : Int32)) by decide), eq_false (show ¬ ((3 : Int32) ≤ (1 : Int32)) by decide), eq_false (show ¬ ((4 : Int32) ≤ (1 : Int32)) by decide), if_true, if_false]
    omega
  · have e0 := hs 0 (by decide)
    have e1 := hs 1 (by decide)
    have e2 := hs 2 (by decide)
    have hv : 0 < (p + 1 - w 3).toNatClampNeg := hq
    rw [show (3 : Int32) + (-1) = (2 : Int32) by decide]
    simp only [mu, e0, e1, e2, eq_true (show  ((0 : Int32) ≤ (3 : Int32)) by decide), eq_true (show  ((1 : Int32) ≤ (3 : Int32)) by decide), eq_true (show  ((2 : Int32) ≤ (3 : Int32)) by decide), eq_true (show  ((3 : Int32) ≤ (3 : Int32)) by decide), eq_false (show ¬ ((4 : Int32) ≤ (3 : Int32)) by decide), eq_true (show  ((0 : Int32) ≤ (2 : Int32)) by decide), eq_true (show  ((1 : Int32) ≤ (2 : Int32)) by decide), eq_true (show  ((2 : Int32) ≤ (2 : Int32)) by decide), eq_false (show ¬ ((3 : Int32) ≤ (2 : Int32)) by decide), eq_false (show ¬ ((4 : Int32) ≤ (2 : Int32)) by decide), if_true, if_false]
    omega
  · have e0 := hs 0 (by decide)
    have e1 := hs 1 (by decide)
    have e2 := hs 2 (by decide)
    have e3 := hs 3 (by decide)
    have hv : 0 < (p + 1 - w 4).toNatClampNeg := hq
    rw [show (4 : Int32) + (-1) = (3 : Int32) by decide]
    simp only [mu, e0, e1, e2, e3, eq_true (show  ((0 : Int32) ≤ (4 : Int32)) by decide), eq_true (show  ((1 : Int32) ≤ (4 : Int32)) by decide), eq_true (show  ((2 : Int32) ≤ (4 : Int32)) by decide), eq_true (show  ((3 : Int32) ≤ (4 : Int32)) by decide), eq_true (show  ((4 : Int32) ≤ (4 : Int32)) by decide), eq_true (show  ((0 : Int32) ≤ (3 : Int32)) by decide), eq_true (show  ((1 : Int32) ≤ (3 : Int32)) by decide), eq_true (show  ((2 : Int32) ≤ (3 : Int32)) by decide), eq_true (show  ((3 : Int32) ≤ (3 : Int32)) by decide), eq_false (show ¬ ((4 : Int32) ≤ (3 : Int32)) by decide), if_true, if_false]
    omega
theorem mu_on {p i : Int32} {w w' : Nat → Int32} (h0 : 0 ≤ i) (h4 : i < 4) (hp : 0 ≤ p ∧ p ≤ 48) (hw : -1 ≤ w i.toNatClampNeg ∧ w i.toNatClampNeg < w' i.toNatClampNeg ∧ w' i.toNatClampNeg ≤ p) (hs : ∀ k : Nat, k < i.toNatClampNeg → w' k = w k) (hl : w' (i + 1).toNatClampNeg = -1) : mu p w' (i + 1) < mu p w i := by
  have hq : (p + 1 - w' i.toNatClampNeg).toNatClampNeg < (p + 1 - w i.toNatClampNeg).toNatClampNeg := cl_lt (by grind) (by grind)
  have hm : (p + 1 - w' (i + 1).toNatClampNeg).toNatClampNeg ≤ 50 := by
    rw [hl]
    have := cl_lt (i := p + 1 - -1) (j := 51) (by grind) (by grind)
    have h51 : (51 : Int32).toNatClampNeg = 51 := by decide
    omega
  rcases i_cases h0 (by grind) with h | h | h | h | h <;> subst h
  · have a1 : (p + 1 - w' 0).toNatClampNeg < (p + 1 - w 0).toNatClampNeg := hq
    have a2 : (p + 1 - w' 1).toNatClampNeg ≤ 50 := hm
    simp [mu, show (0 : Int32) + 1 = 1 by decide]
    omega
  · have e0 := hs 0 (by decide)
    have a1 : (p + 1 - w' 1).toNatClampNeg < (p + 1 - w 1).toNatClampNeg := hq
    have a2 : (p + 1 - w' 2).toNatClampNeg ≤ 50 := hm
    simp [mu, e0, show (1 : Int32) + 1 = 2 by decide]
    omega
  · have e0 := hs 0 (by decide)
    have e1 := hs 1 (by decide)
    have a1 : (p + 1 - w' 2).toNatClampNeg < (p + 1 - w 2).toNatClampNeg := hq
    have a2 : (p + 1 - w' 3).toNatClampNeg ≤ 50 := hm
    simp [mu, e0, e1, show (2 : Int32) + 1 = 3 by decide]
    omega
  · have e0 := hs 0 (by decide)
    have e1 := hs 1 (by decide)
    have e2 := hs 2 (by decide)
    have a1 : (p + 1 - w' 3).toNatClampNeg < (p + 1 - w 3).toNatClampNeg := hq
    have a2 : (p + 1 - w' 4).toNatClampNeg ≤ 50 := hm
    simp [mu, e0, e1, e2, show (3 : Int32) + 1 = 4 by decide]
    omega
  · exact absurd h4 (by decide)
end SF

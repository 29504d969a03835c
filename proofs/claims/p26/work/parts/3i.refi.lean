/-! rings -/
section SI
variable {d n t M c : Nat} {K L : Nat → Nat} {I I0 J J0 J1 J2 : Nat → Nat → Int32} {R : Nat → Nat → Nat} {P : Option Value → AH → Prop}
/-- one of the ring -/
def rK (M : Nat) (m : Int32) (I : Nat → Nat → Int32) (j : Nat) : Prop := ∃ k : Int32, 0 ≤ k ∧ k < m ∧ j = (I (M + 48) k.toNatClampNeg).toNatClampNeg
def rF (M : Nat) (m : Int32) (I J : Nat → Nat → Int32) : Prop := ∀ x j, ¬ sC M x j → ¬ x = (M + 22) → ¬ x = (M + 49) → ¬ x = (M + 50) → ¬ x = (M + 51) → ¬ ((x = (M + 20) ∨ x = (M + 21)) ∧ rK M m I j) → J x j = I x j
def rQ (M : Nat) (I J : Nat → Nat → Int32) : Prop := mR M J ∧ ∀ x j, ¬ sC M x j → ¬ x = (M + 22) → ¬ x = (M + 49) → ¬ x = (M + 50) → ¬ x = (M + 51) → J x j = I x j
def rS (M : Nat) (m : Int32) (I J : Nat → Nat → Int32) (p q : Int32) : Prop := mR M J ∧ rF M m I J ∧ (∀ k : Int32, 0 ≤ k → k < p → J (M + 49) k.toNatClampNeg = I (M + 20) (I (M + 48) k.toNatClampNeg).toNatClampNeg ∧ J (M + 50) k.toNatClampNeg = I (M + 21) (I (M + 48) k.toNatClampNeg).toNatClampNeg) ∧ (∀ k : Int32, q ≤ k → k < m → J (M + 20) (I (M + 48) k.toNatClampNeg).toNatClampNeg = I (M + 20) (I (M + 48) k.toNatClampNeg).toNatClampNeg ∧ J (M + 21) (I (M + 48) k.toNatClampNeg).toNatClampNeg = I (M + 21) (I (M + 48) k.toNatClampNeg).toNatClampNeg)
theorem mF_Q (hF : mF M c I0 I) (h : rQ M I J) : mF M c I0 J := by
  have e : ∀ x j, ¬ sC M x j → ¬ x = (M + 22) → ¬ x = (M + 49) → ¬ x = (M + 50) → ¬ x = (M + 51) → J x j = I x j := h.2
  refine ⟨⟨h.1, fun x j hx => ?_⟩, mE_eq hF.2 ?_ ?_ ?_ ?_ ?_ ?_ ?_ ?_⟩
  · rw [e x j (by unfold eC at hx; unfold sC; omega) (by unfold eC at hx; omega) (by unfold eC at hx; omega) (by unfold eC at hx; omega) (by unfold eC at hx; omega)]
    exact hF.1.2 x j hx
  all_goals intros; exact e _ _ (by unfold sC; omega) (by omega) (by omega) (by omega) (by omega)
theorem mu_stay {p i : Int32} {w w' : Nat → Int32} (h0 : 0 ≤ i) (h4 : i ≤ 4) (hp : 0 ≤ p ∧ p ≤ 48) (hw : -1 ≤ w i.toNatClampNeg ∧ w i.toNatClampNeg < w' i.toNatClampNeg ∧ w' i.toNatClampNeg ≤ p) (hs : ∀ k : Nat, k < i.toNatClampNeg → w' k = w k) : mu p w' i < mu p w i := by
  have hq : (p + 1 - w' i.toNatClampNeg).toNatClampNeg < (p + 1 - w i.toNatClampNeg).toNatClampNeg := cl_lt (by grind) (by grind)
  rcases i_cases h0 h4 with h | h | h | h | h <;> subst h
  · have a1 : (p + 1 - w' 0).toNatClampNeg < (p + 1 - w 0).toNatClampNeg := hq
    simp [mu]
    omega
  · have e0 := hs 0 (by decide)
    have a1 : (p + 1 - w' 1).toNatClampNeg < (p + 1 - w 1).toNatClampNeg := hq
    simp [mu, e0]
    omega
  · have e0 := hs 0 (by decide)
    have e1 := hs 1 (by decide)
    have a1 : (p + 1 - w' 2).toNatClampNeg < (p + 1 - w 2).toNatClampNeg := hq
    simp [mu, e0, e1]
    omega
  · have e0 := hs 0 (by decide)
    have e1 := hs 1 (by decide)
    have e2 := hs 2 (by decide)
    have a1 : (p + 1 - w' 3).toNatClampNeg < (p + 1 - w 3).toNatClampNeg := hq
    simp [mu, e0, e1, e2]
    omega
  · have e0 := hs 0 (by decide)
    have e1 := hs 1 (by decide)
    have e2 := hs 2 (by decide)
    have e3 := hs 3 (by decide)
    have a1 : (p + 1 - w' 4).toNatClampNeg < (p + 1 - w 4).toNatClampNeg := hq
    simp [mu, e0, e1, e2, e3]
    omega
/-- the ring so far -/
def fI (M c : Nat) (I0 : Nat → Nat → Int32) (A : Int32) (J : Nat → Nat → Int32) (i : Int32) : Prop := mF M c I0 J ∧ J M 17 = A ∧ (∀ k : Int32, 0 ≤ k → k < i → (0 ≤ J (M + 48) k.toNatClampNeg ∧ J (M + 48) k.toNatClampNeg < A) ∧ 0 ≤ J (M + 20) (J (M + 48) k.toNatClampNeg).toNatClampNeg) ∧ (∀ k l : Int32, 0 ≤ k → k < l → l < i → ¬ J (M + 48) k.toNatClampNeg = J (M + 48) l.toNatClampNeg)
/-- what the swapping keeps -/
def sW (M c : Nat) (I0 : Nat → Nat → Int32) (m : Int32) (J : Nat → Nat → Int32) (p : Int32) : Prop := mF M c I0 J ∧ J M 74 = m ∧ (∀ k : Int32, 0 ≤ k → k < m → 0 ≤ J (M + 48) k.toNatClampNeg ∧ J (M + 48) k.toNatClampNeg ≤ 29) ∧ (∀ k : Int32, 0 ≤ k → k < p → 0 ≤ J (M + 49) k.toNatClampNeg)
end SI

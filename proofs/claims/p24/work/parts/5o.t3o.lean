/-! tools -/
section YO
variable {d n t M : Nat} {K L : Nat → Nat} {I I0 J J0 J1 J2 : Nat → Nat → Int32} {R : Nat → Nat → Nat} {P : Option Value → AH → Prop} {f : Nat → Int32} {e : Int32}
theorem lp_st {i z : Int32} (h0 : 0 ≤ i) (w : i < z) : z.toNatClampNeg - i.toNatClampNeg = (z.toNatClampNeg - (i + 1).toNatClampNeg) + 1 ∧ 0 ≤ i + 1 ∧ i + 1 ≤ z ∧ (i + 1).toNatClampNeg = i.toNatClampNeg + 1 := by
  have a := Int32.le_iff_toInt_le.mp h0
  have b := Int32.lt_iff_toInt_lt.mp w
  have c := Int32.toInt_lt z
  have c0 : (0 : Int32).toInt = 0 := rfl
  have c1 : (1 : Int32).toInt = 1 := rfl
  rw [c0] at a
  have e : (i + 1).toInt = i.toInt + 1 := by rw [ti_add (by omega), c1]
  refine ⟨?_, by rw [Int32.le_iff_toInt_le, e, c0]; omega, by rw [Int32.le_iff_toInt_le, e]; omega, ?_⟩
  · show z.toInt.toNat - i.toInt.toNat = (z.toInt.toNat - (i + 1).toInt.toNat) + 1
    rw [e]
    omega
  · show (i + 1).toInt.toNat = i.toInt.toNat + 1
    rw [e]
    omega
theorem lt_p1 {i z : Int32} (w : i < z) : i < i + 1 := by
  have b := Int32.lt_iff_toInt_lt.mp w
  have c := Int32.toInt_lt z
  have c2 := Int32.le_toInt i
  have c1 : (1 : Int32).toInt = 1 := rfl
  have e : (i + 1).toInt = i.toInt + 1 := by rw [ti_add (by omega), c1]
  rw [Int32.lt_iff_toInt_lt, e]
  omega
theorem lp_end {i z : Int32} (h1 : i ≤ z) (w : ¬ i < z) : z.toNatClampNeg - i.toNatClampNeg = 0 ∧ i = z := by
  have e : i = z := Int32.le_antisymm h1 (Int32.not_lt.mp w)
  subst e
  exact ⟨Nat.sub_self _, rfl⟩
theorem lp_0 {z : Int32} : z.toNatClampNeg - (0 : Int32).toNatClampNeg = z.toNatClampNeg := by
  rw [show (0 : Int32).toNatClampNeg = 0 from rfl, Nat.sub_zero]
/-- what a call comes to is one thing -/
theorem does_and {d mid : Nat} {as : List Value} {h : AH} {P Q : Option Value → AH → Prop} (h1 : a_does d mid as h P) (h2 : a_does d mid as h Q) : a_does d mid as h (fun r h' => P r h' ∧ Q r h') := by
  obtain ⟨f, r, k, e1, p⟩ := h1
  obtain ⟨g, r2, k2, e2, q⟩ := h2
  have e3 := a_meth_more _ _ _ _ _ f (max f g) (by omega) e1
  have e4 := a_meth_more _ _ _ _ _ g (max f g) (by omega) e2
  rw [e3] at e4
  cases e4
  exact ⟨max f g, r, k, e3, p, q⟩
end YO

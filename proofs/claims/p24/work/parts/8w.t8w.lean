/-! askOf -/
section ZW0
variable {d n t C c : Nat} {K L : Nat → Nat} {I I0 J J0 J1 J2 : Nat → Nat → Int32} {R : Nat → Nat → Nat} {P : Option Value → AH → Prop}
variable {Y Z W : Nat → Nat → Int32}
theorem w10 {w : Int32} (e0 : ¬ w = 0) (e1 : ¬ w = 1) (e2 : ¬ w = 2) (e3 : ¬ w = 3) (e4 : ¬ w = 4) (e5 : ¬ w = 5) (e6 : ¬ w = 6) (e7 : ¬ w = 7) (e8 : ¬ w = 8) (e9 : ¬ w = 9) : ¬ (0 ≤ w ∧ w ≤ 9) := fun q => by
  have c0 : (0 : Int32).toInt = 0 := rfl
  have c9 : (9 : Int32).toInt = 9 := rfl
  have q0 := Int32.le_iff_toInt_le.mp q.1
  have q1 := Int32.le_iff_toInt_le.mp q.2
  rw [c0] at q0
  rw [c9] at q1
  have h : w.toInt = 0 ∨ w.toInt = 1 ∨ w.toInt = 2 ∨ w.toInt = 3 ∨ w.toInt = 4 ∨ w.toInt = 5 ∨ w.toInt = 6 ∨ w.toInt = 7 ∨ w.toInt = 8 ∨ w.toInt = 9 := by omega
  rcases h with h | h | h | h | h | h | h | h | h | h
  · exact e0 (Int32.toInt_inj.mp h)
  · exact e1 (Int32.toInt_inj.mp h)
  · exact e2 (Int32.toInt_inj.mp h)
  · exact e3 (Int32.toInt_inj.mp h)
  · exact e4 (Int32.toInt_inj.mp h)
  · exact e5 (Int32.toInt_inj.mp h)
  · exact e6 (Int32.toInt_inj.mp h)
  · exact e7 (Int32.toInt_inj.mp h)
  · exact e8 (Int32.toInt_inj.mp h)
  · exact e9 (Int32.toInt_inj.mp h)
end ZW0
section ZW1
variable {d n t M : Nat} {K L : Nat → Nat} {I I0 J J0 J1 J2 : Nat → Nat → Int32} {R : Nat → Nat → Nat} {P : Option Value → AH → Prop} {f : Nat → Int32} {e : Int32}
variable {Y Z W : Nat → Nat → Int32}
end ZW1

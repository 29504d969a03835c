/-! hosts: who stands -/
section ZV0
variable {Y Z : Nat → Nat → Int32}
theorem le_199 (x : Int32) : (x ≤ 199) = (x < 200) := propext ⟨fun q => Int32.lt_of_le_of_lt q (by decide), fun q => by grind⟩
end ZV0
section ZV1
variable {d n t C c : Nat} {K L : Nat → Nat} {I I0 J J0 J1 J2 : Nat → Nat → Int32} {R : Nat → Nat → Nat} {P : Option Value → AH → Prop}
variable {Y Z W : Nat → Nat → Int32}
end ZV1
section ZV2
variable {d n t M : Nat} {K L : Nat → Nat} {I I0 J J0 J1 J2 : Nat → Nat → Int32} {R : Nat → Nat → Nat} {P : Option Value → AH → Prop} {f : Nat → Int32} {e : Int32}
variable {Y Z W : Nat → Nat → Int32}
end ZV2

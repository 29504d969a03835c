/-! values of calls that change nothing -/
section ZS1
variable {d n t C c : Nat} {K L : Nat → Nat} {I I0 J J0 J1 J2 : Nat → Nat → Int32} {R : Nat → Nat → Nat} {P : Option Value → AH → Prop}
variable {Y Z W : Nat → Nat → Int32} {b : Nat}
theorem ca_gen {D mid : Nat} {as : List Value} {v : Int32} {Y Z : Nat → Nat → Int32} (A : a_does D mid as (n + 1, t, K, L, J, R) (fun _ h' => ∃ n2 t2 K2 L2 J2 R2, h' = (n2 + 1, t2, K2, L2, J2, R2) ∧ aNx b C c n2 t2 K2 L2 J2 R2 Y Z)) (V : a_does D mid as (n + 1, t, K, L, J, R) (fun r _ => r = some (.int v))) (hP : ∀ n2 t2 K2 L2 J2 R2, aNx b C c n2 t2 K2 L2 J2 R2 Y Z → P (some (.int v)) (n2 + 1, t2, K2, L2, J2, R2)) : a_does D mid as (n + 1, t, K, L, J, R) P := by
  refine does_mono (does_and A V) (fun r h' q => ?_)
  obtain ⟨⟨n2, t2, K2, L2, J2, R2, e1, hx⟩, e2⟩ := q
  rw [e1, e2]
  exact hP _ _ _ _ _ _ hx
theorem ra_gen {D mid : Nat} {as : List Value} {v : Int32} (A : a_does D mid as (n + 1, t, K, L, J, R) (fun _ h' => ∃ J3, h' = (n + 1, t, K, L, J3, R) ∧ lawI b C (c + 1) n t K L J3 R)) (V : a_does D mid as (n + 1, t, K, L, J, R) (fun r _ => r = some (.int v))) (hP : ∀ J3, lawI b C (c + 1) n t K L J3 R → P (some (.int v)) (n + 1, t, K, L, J3, R)) : a_does D mid as (n + 1, t, K, L, J, R) P := by
  refine does_mono (does_and A V) (fun r h' q => ?_)
  obtain ⟨⟨J3, e1, hx⟩, e2⟩ := q
  rw [e1, e2]
  exact hP _ hx
end ZS1

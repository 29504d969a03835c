/-! values of calls that change nothing -/
section Z9G
variable {d n t C c : Nat} {K L : Nat → Nat} {I I0 J J0 J1 J2 : Nat → Nat → Int32} {R : Nat → Nat → Nat} {P : Option Value → AH → Prop}
variable {Y Z W : Nat → Nat → Int32} {b : Nat}
theorem ca_best {u1 u2 u3 u4 : Int32} (hb : b < C) (h : lawI b C c n t K L J R) (hP : ∀ n2 t2 K2 L2 J2 R2, aNx b C c n2 t2 K2 L2 J2 R2 (yv (C + 44) J) (yv (C + 44) J) → P (some (.int (beV (yv (C + 44) J) u1 u2 u3 u4))) (n2 + 1, t2, K2, L2, J2, R2)) : a_does 700 128 [a_rf C, .int u1, .int u2, .int u3, .int u4] (n + 1, t, K, L, J, R) P := by
  refine ca_gen (b := b) (C := C) (c := c) (Y := (yv (C + 44) J)) (Z := (yv (C + 44) J)) ?_ ?_ hP
  · exact cd_best hb h (fun v n2 t2 K2 L2 J2 R2 hx => ⟨n2, t2, K2, L2, J2, R2, rfl, hx⟩)
  · exact cv_best h.1 h.2.2.2.2.2.1 (fun _ _ => rfl)
theorem ra_best {u1 u2 u3 u4 : Int32} (hx : aNx b C c n t K L J R Y Y) (hc : 120 * c + 130 ≤ 84000) (hP : ∀ J3, lawI b C (c + 1) n t K L J3 R → P (some (.int (beV Y u1 u2 u3 u4))) (n + 1, t, K, L, J3, R)) : a_does 700 242 [a_rf (C + 44), .int u1, .int u2, .int u3, .int u4] (n + 1, t, K, L, J, R) P := by
  refine ra_gen (b := b) (C := C) (c := c) ?_ ?_ hP
  · exact rd_best hx hc (fun v J3 hI => ⟨J3, rfl, hI⟩)
  · exact xv_best hx.1.2.1 hx.2.2.1 hx.2.1 hx.2.2.2.1.2.2.2.1 (fun _ => rfl)
end Z9G
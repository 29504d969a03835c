theorem sp_in {d : Nat} {v lo hi : Int32} {h : AH} {P : Option Value → AH → Prop} : a_does (d + 1) 174 [.int v, .int lo, .int hi] h P ↔ P (some (.int (if lo ≤ v ∧ v ≤ hi then 1 else 0))) h := by
  rw [a_enter1 (M := a_m174) rfl (a_cat_int (a_cat_int (a_cat_int a_cat_nil))) (show 3 ≤ 3 by decide)]
  show a_at d (a_xm a_m174) 0 [some (.int v), some (.int lo), some (.int hi)] [] h P ↔ _
  simp only [q174_0, q174_1, q174_2, q174_5, q174_6, q174_7, q174_10, q174_11, q174_14, q174_15]
  by_cases h1 : v < lo <;> by_cases h2 : hi < v <;> simp [h1, h2, ← Int32.not_lt]
theorem sp_isShift {d : Nat} {v : Int32} {h : AH} {P : Option Value → AH → Prop} : a_does (d + 2) 173 [.int v] h P ↔ P (some (.int (if 0 ≤ v ∧ v ≤ 199 then 1 else 0))) h := by
  rw [a_enter1 (M := a_m173) rfl (a_cat_int a_cat_nil) (show 1 ≤ 1 by decide)]
  show a_at (d + 1) (a_xm a_m173) 0 [some (.int v)] [] h P ↔ _
  simp only [q173_0, q173_1, q173_2, q173_5, q173_8, sp_in, a_sum_nil, true_and, Option.toList_some, List.cons_append, List.nil_append]
  split <;> simp
theorem sp_refuse {d M : Nat} {v : Int32} {n t : Nat} {K L : Nat → Nat} {I : Nat → Nat → Int32} {R : Nat → Nat → Nat} {P : Option Value → AH → Prop} (hM : ¬ M = 0) (hK : K M = 13) (hr : R M 28 = M + 24) (hk : K (M + 24) = 20) (hl : L (M + 24) = 7) (hv : -6 ≤ v ∧ v ≤ -1) (hP : P (some (.int v)) (n, t, K, L, a_ui I (M + 24) (-v).toNatClampNeg (I (M + 24) (-v).toNatClampNeg + 1), R)) : a_does (d + 1) 171 [a_rf M, .int v] (n, t, K, L, I, R) P := by
  rw [a_enter1 (M := a_m171) rfl (a_cat_rf (a_cat_int a_cat_nil)) (show 2 ≤ 2 by decide)]
  show a_at d (a_xm a_m171) 0 [some (a_rf M), some (.int v)] [] (n, t, K, L, I, R) P
  simp only [q171_0, q171_1, q171_4, q171_5, q171_6, q171_7, q171_8, q171_9, q171_10, q171_11, q171_12]
  sorry

theorem sp_in {d : Nat} {v lo hi : Int32} {h : AH} {P : Option Value → AH → Prop} : a_does (d + 1) 174 [.int v, .int lo, .int hi] h P ↔ P (some (.int (if lo ≤ v ∧ v ≤ hi then 1 else 0))) h := by
  rw [a_enter1 (M := a_m174) rfl (a_cat_int (a_cat_int (a_cat_int a_cat_nil))) (show 3 ≤ 3 by decide)]
  show a_at d (a_xm a_m174) 0 [some (.int v), some (.int lo), some (.int hi)] [] h P ↔ _
  simp only [q174_0, q174_1, q174_2, q174_5, q174_6, q174_7, q174_10, q174_11, q174_14, q174_15]
  by_cases h1 : v < lo <;> by_cases h2 : hi < v <;> simp [h1, h2, ← Int32.not_lt]
theorem sp_isShift {d : Nat} {v : Int32} {h : AH} {P : Option Value → AH → Prop} : a_does (d + 2) 173 [.int v] h P ↔ P (some (.int (if 0 ≤ v ∧ v ≤ 199 then 1 else 0))) h := by
  rw [a_enter1 (M := a_m173) rfl (a_cat_int a_cat_nil) (show 1 ≤ 1 by decide)]
  show a_at (d + 1) (a_xm a_m173) 0 [some (.int v)] [] h P ↔ _
  simp only [q173_0, q173_1, q173_2, q173_5, q173_8, sp_in, a_sum_nil, true_and, Option.toList_some, List.cons_append, List.nil_append]
  split <;> simp
theorem a_ok_iff (i : Int32) (n : Nat) : a_ok i n ↔ 0 ≤ i ∧ i.toNatClampNeg < n := by
  unfold a_ok
  simp only [not_or, Int32.not_lt, Nat.not_le]
theorem sp_refuse {d M : Nat} {v : Int32} {n t : Nat} {K L : Nat → Nat} {I : Nat → Nat → Int32} {R : Nat → Nat → Nat} {P : Option Value → AH → Prop} (hM : ¬ M = 0) (hK : K M = 13) (hr : R M 34 = M + 21) (hk : K (M + 21) = 20) (hl : L (M + 21) = 7) (hv : a_ok (-v) 7) : a_does (d + 1) 171 [a_rf M, .int v] (n, t, K, L, I, R) P ↔ P (some (.int v)) (n, t, K, L, a_ui I (M + 21) (-v).toNatClampNeg (I (M + 21) (-v).toNatClampNeg + 1), R) := by
  rw [a_enter1 (M := a_m171) rfl (a_cat_rf (a_cat_int a_cat_nil)) (show 2 ≤ 2 by decide)]
  show a_at d (a_xm a_m171) 0 [some (a_rf M), some (.int v)] [] (n, t, K, L, I, R) P ↔ _
  simp only [q171_0, q171_1, q171_4, q171_5, q171_6, q171_7, q171_8, q171_9, q171_10, q171_11, q171_12, hM, hK, hr, hk, hl, hv, Nat.add_eq_zero_iff, false_and, and_false, not_false_eq_true, true_and, and_true]
/-- the loop of mode: from s on -/
theorem lp_mode {d M : Nat} {a b m : Int32} {n t : Nat} {K L : Nat → Nat} {R : Nat → Nat → Nat} {P : Option Value → AH → Prop} (hM : ¬ M = 0) (hK : K M = 13) (hr : R M 1 = M + 1) (hk : K (M + 1) = 20) (hl : L (M + 1) = 200) (hb : b ≤ 199) : ∀ (z : Nat) (s c : Int32) (I : Nat → Nat → Int32), 0 ≤ s → s.toInt + z = 201 → (∀ c' J, (∀ x j, ¬ x = M + 1 → J x j = I x j) → P (some (.int c')) (n, t, K, L, J, R)) → a_at d (a_xm a_m172) 47 [some (a_rf M), some (.int a), some (.int b), some (.int m), some (.int c), some (.int s)] [] (n, t, K, L, I, R) P := by
  intro z
  induction z with
  | zero =>
    intro s c I h0 hz hP
    have : b < s := by rw [Int32.lt_iff_toInt_lt]; have := Int32.le_iff_toInt_le.mp hb; simp at this; omega
    simp only [q172_47, q172_49, q172_50, q172_88, q172_90, this, true_implies, not_true, false_implies, and_true]
    exact hP _ _ (fun _ _ _ => rfl)
  | succ z ih =>
    intro s c I h0 hz hP
    by_cases hsb : b < s
    · simp only [q172_47, q172_49, q172_50, q172_88, q172_90, hsb, true_implies, not_true, false_implies, and_true]
      exact hP _ _ (fun _ _ _ => rfl)
    · have hs1 : s.toInt ≤ 199 := by have h1 := Int32.le_iff_toInt_le.mp (Int32.not_lt.mp hsb); have := Int32.le_iff_toInt_le.mp hb; simp at this; omega
      have hok : a_ok s 200 := by rw [a_ok_iff]; refine ⟨h0, ?_⟩; show s.toInt.toNat < 200; have := Int32.le_iff_toInt_le.mp h0; simp at this; omega
      have hs2 : (s + 1).toInt = s.toInt + 1 := by
        have := Int32.le_iff_toInt_le.mp h0
        simp at this
        rw [Int32.toInt_add]
        simp [Int.bmod_def]
        omega
      rw [q172_47]
      simp only [q172_49, q172_50, q172_53, q172_55, q172_56, q172_59, q172_61, q172_62, q172_63, q172_66, q172_67, q172_70, q172_71, q172_72, q172_74, q172_75, q172_78, q172_80, q172_81, q172_82, q172_85, hsb, false_implies, true_and, not_false_eq_true, true_implies, hM, hK, hr, hk, hl, hok, Nat.add_eq_zero_iff, false_and, and_false, not_false_eq_true, a_nl_i, a_nl_r]
      have hn : ∀ c', a_at d (a_xm a_m172) 47 [some (a_rf M), some (.int a), some (.int b), some (.int m), some (.int c'), some (.int (s + 1))] [] (n, t, K, L, a_ui I (M + 1) s.toNatClampNeg m, R) P := fun c' => ih (s + 1) c' _ (by rw [Int32.le_iff_toInt_le, hs2]; have := Int32.le_iff_toInt_le.mp h0; simp at this ⊢; omega) (by omega) (fun c'' J hJ => hP c'' J (fun x j hx => (hJ x j hx).trans (by simp [a_ui, hx])))
      exact ⟨fun _ => hn _, fun _ => hn _⟩

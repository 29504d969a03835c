/-! the reference's small methods -/
section RL
variable {d n t M : Nat} {K L : Nat → Nat} {I : Nat → Nat → Int32} {R : Nat → Nat → Nat} {P : Option Value → AH → Prop}
theorem sp_in {v lo hi : Int32} {h : AH} : a_does (d + 1) 174 [.int v, .int lo, .int hi] h P ↔ P (some (.int (if lo ≤ v ∧ v ≤ hi then 1 else 0))) h := by
  rw [a_enter1 (M := a_m174) rfl (a_cat_int (a_cat_int (a_cat_int a_cat_nil))) (show 3 ≤ 3 by decide)]
  show a_at _ (a_xm a_m174) 0 [some (.int v), some (.int lo), some (.int hi)] [] _ _ ↔ _
  simp only [q174_0, q174_1, q174_2, q174_5, q174_6, q174_7, q174_10, q174_11, q174_14, q174_15]
  grind
theorem sp_isShift {v : Int32} {h : AH} : a_does (d + 2) 173 [.int v] h P ↔ P (some (.int (if 0 ≤ v ∧ v ≤ 199 then 1 else 0))) h := by
  rw [a_enter1 (M := a_m173) rfl (a_cat_int a_cat_nil) (show 1 ≤ 1 by decide)]
  show a_at _ (a_xm a_m173) 0 [some (.int v)] [] _ _ ↔ _
  simp only [q173_0, q173_1, q173_2, q173_5, q173_8, sp_in, as_nil, as_i, as_r, Nat.reduceAdd, Nat.reduceLeDiff, z_eq0, z_eq1, z_or, z_em, Classical.not_not, not_false_eq_true, not_true_eq_false, true_and, and_true, false_and, and_false, and_self, true_implies, false_implies, implies_true, Option.toList_some, Option.toList_none, List.cons_append, List.nil_append, Nat.add_eq_zero_iff, a_nl_i, a_nl_r, a_nl_n, true_or, or_true, eq_self]
theorem sp_isReader {v : Int32} {h : AH} : a_does (d + 2) 214 [.int v] h P ↔ P (some (.int (if 0 ≤ v ∧ v ≤ 5 then 1 else 0))) h := by
  rw [a_enter1 (M := a_m214) rfl (a_cat_int a_cat_nil) (show 1 ≤ 1 by decide)]
  show a_at _ (a_xm a_m214) 0 [some (.int v)] [] _ _ ↔ _
  simp only [q214_0, q214_1, q214_2, q214_3, q214_6, sp_in, as_nil, as_i, as_r, Nat.reduceAdd, Nat.reduceLeDiff, z_eq0, z_eq1, z_or, z_em, Classical.not_not, not_false_eq_true, not_true_eq_false, true_and, and_true, false_and, and_false, and_self, true_implies, false_implies, implies_true, Option.toList_some, Option.toList_none, List.cons_append, List.nil_append, Nat.add_eq_zero_iff, a_nl_i, a_nl_r, a_nl_n, true_or, or_true, eq_self]
theorem sp_isSpan {a b : Int32} {h : AH} : a_does (d + 3) 235 [.int a, .int b] h P ↔ P (some (.int (if (0 ≤ a ∧ a ≤ 199) ∧ (0 ≤ b ∧ b ≤ 199) ∧ a ≤ b then 1 else 0))) h := by
  rw [a_enter1 (M := a_m235) rfl (a_cat_int (a_cat_int a_cat_nil)) (show 2 ≤ 2 by decide)]
  show a_at _ (a_xm a_m235) 0 [some (.int a), some (.int b)] [] _ _ ↔ _
  simp only [q235_0, q235_1, q235_4, q235_7, q235_8, q235_11, q235_14, q235_15, q235_16, q235_19, q235_20, q235_23, q235_24, sp_isShift, as_nil, as_i, as_r, Nat.reduceAdd, Nat.reduceLeDiff, z_eq0, z_eq1, z_or, z_em, Classical.not_not, not_false_eq_true, not_true_eq_false, true_and, and_true, false_and, and_false, and_self, true_implies, false_implies, implies_true, Option.toList_some, Option.toList_none, List.cons_append, List.nil_append, Nat.add_eq_zero_iff, a_nl_i, a_nl_r, a_nl_n, true_or, or_true, eq_self]
  grind
theorem sp_isBench (hS : m_S M K L R) {v : Int32} : a_does (d + 2) 209 [a_rf M, .int v] (n, t, K, L, I, R) P ↔ P (some (.int (if 0 ≤ v ∧ v ≤ I M 6 - 1 then 1 else 0))) (n, t, K, L, I, R) := by
  rw [a_enter1 (M := a_m209) rfl (a_cat_rf (a_cat_int a_cat_nil)) (show 2 ≤ 2 by decide)]
  show a_at _ (a_xm a_m209) 0 [some (a_rf M), some (.int v)] [] _ _ ↔ _
  simp only [q209_0, q209_1, q209_2, q209_3, q209_6, q209_7, q209_8, q209_11, m_0 hS, m_K hS, sp_in, as_nil, as_i, as_r, Nat.reduceAdd, Nat.reduceLeDiff, z_eq0, z_eq1, z_or, z_em, Classical.not_not, not_false_eq_true, not_true_eq_false, true_and, and_true, false_and, and_false, and_self, true_implies, false_implies, implies_true, Option.toList_some, Option.toList_none, List.cons_append, List.nil_append, Nat.add_eq_zero_iff, a_nl_i, a_nl_r, a_nl_n, true_or, or_true, eq_self]
theorem sp_isAsk (hS : m_S M K L R) {v : Int32} : a_does (d + 2) 182 [a_rf M, .int v] (n, t, K, L, I, R) P ↔ P (some (.int (if 0 ≤ v ∧ v ≤ I M 17 - 1 then 1 else 0))) (n, t, K, L, I, R) := by
  rw [a_enter1 (M := a_m182) rfl (a_cat_rf (a_cat_int a_cat_nil)) (show 2 ≤ 2 by decide)]
  show a_at _ (a_xm a_m182) 0 [some (a_rf M), some (.int v)] [] _ _ ↔ _
  simp only [q182_0, q182_1, q182_2, q182_3, q182_6, q182_7, q182_8, q182_11, m_0 hS, m_K hS, sp_in, as_nil, as_i, as_r, Nat.reduceAdd, Nat.reduceLeDiff, z_eq0, z_eq1, z_or, z_em, Classical.not_not, not_false_eq_true, not_true_eq_false, true_and, and_true, false_and, and_false, and_self, true_implies, false_implies, implies_true, Option.toList_some, Option.toList_none, List.cons_append, List.nil_append, Nat.add_eq_zero_iff, a_nl_i, a_nl_r, a_nl_n, true_or, or_true, eq_self]
theorem sp_isBegun (hS : m_S M K L R) {v : Int32} : a_does (d + 1) 223 [a_rf M, .int v] (n, t, K, L, I, R) P ↔ P (some (.int (if 8 * v < I M 0 then 1 else 0))) (n, t, K, L, I, R) := by
  rw [a_enter1 (M := a_m223) rfl (a_cat_rf (a_cat_int a_cat_nil)) (show 2 ≤ 2 by decide)]
  show a_at _ (a_xm a_m223) 0 [some (a_rf M), some (.int v)] [] _ _ ↔ _
  simp only [q223_0, q223_1, q223_4, q223_6, q223_7, q223_8, q223_11, q223_12, q223_15, q223_16, m_0 hS, m_K hS, as_nil, as_i, as_r, Nat.reduceAdd, Nat.reduceLeDiff, z_eq0, z_eq1, z_or, z_em, Classical.not_not, not_false_eq_true, not_true_eq_false, true_and, and_true, false_and, and_false, and_self, true_implies, false_implies, implies_true, Option.toList_some, Option.toList_none, List.cons_append, List.nil_append, Nat.add_eq_zero_iff, a_nl_i, a_nl_r, a_nl_n, true_or, or_true, eq_self]
  grind
theorem sp_hasPlace (hS : m_S M K L R) {v : Int32} : a_does (d + 1) 185 [a_rf M, .int v] (n, t, K, L, I, R) P ↔ (0 ≤ v ∧ v < 30) ∧ P (some (.int (if 0 ≤ I (M + 20) v.toNatClampNeg then 1 else 0))) (n, t, K, L, I, R) := by
  rw [a_enter1 (M := a_m185) rfl (a_cat_rf (a_cat_int a_cat_nil)) (show 2 ≤ 2 by decide)]
  show a_at _ (a_xm a_m185) 0 [some (a_rf M), some (.int v)] [] _ _ ↔ _
  simp only [q185_0, q185_1, q185_4, q185_5, q185_6, q185_9, q185_10, q185_13, q185_14, m_0 hS, m_K hS, mR_atBench hS, mK_atBench hS, mL_atBench hS, as_nil, as_i, as_r, Nat.reduceAdd, Nat.reduceLeDiff, z_eq0, z_eq1, z_or, z_em, Classical.not_not, not_false_eq_true, not_true_eq_false, true_and, and_true, false_and, and_false, and_self, true_implies, false_implies, implies_true, Option.toList_some, Option.toList_none, List.cons_append, List.nil_append, Nat.add_eq_zero_iff, a_nl_i, a_nl_r, a_nl_n, true_or, or_true, eq_self, ok_4, ok_5, ok_6, ok_7, ok_9, ok_10, ok_20, ok_21, ok_24, ok_30, ok_48, ok_50, ok_60, ok_80, ok_120, ok_180, ok_192, ok_200, ok_900, ok_1000, ok_84000]
  grind
theorem sp_refuse (hS : m_S M K L R) {v : Int32} : a_does (d + 1) 171 [a_rf M, .int v] (n, t, K, L, I, R) P ↔ a_ok (-v) 7 ∧ P (some (.int v)) (n, t, K, L, a_ui I (M + 23) (-v).toNatClampNeg (I (M + 23) (-v).toNatClampNeg + 1), R) := by
  rw [a_enter1 (M := a_m171) rfl (a_cat_rf (a_cat_int a_cat_nil)) (show 2 ≤ 2 by decide)]
  show a_at _ (a_xm a_m171) 0 [some (a_rf M), some (.int v)] [] _ _ ↔ _
  simp only [q171_0, q171_1, q171_4, q171_5, q171_6, q171_7, q171_8, q171_9, q171_10, q171_11, q171_12, m_0 hS, m_K hS, mR_refused hS, mK_refused hS, mL_refused hS, as_nil, as_i, as_r, Nat.reduceAdd, Nat.reduceLeDiff, z_eq0, z_eq1, z_or, z_em, Classical.not_not, not_false_eq_true, not_true_eq_false, true_and, and_true, false_and, and_false, and_self, true_implies, false_implies, implies_true, Option.toList_some, Option.toList_none, List.cons_append, List.nil_append, Nat.add_eq_zero_iff, a_nl_i, a_nl_r, a_nl_n, true_or, or_true, eq_self, and_self_left]
theorem sp_refuseFar (hS : m_S M K L R) {v : Int32} : a_does (d + 1) 218 [a_rf M, .int v] (n, t, K, L, I, R) P ↔ a_ok (-v) 7 ∧ P (some (.int (1000000000 - v))) (n, t, K, L, a_ui I (M + 23) (-v).toNatClampNeg (I (M + 23) (-v).toNatClampNeg + 1), R) := by
  rw [a_enter1 (M := a_m218) rfl (a_cat_rf (a_cat_int a_cat_nil)) (show 2 ≤ 2 by decide)]
  show a_at _ (a_xm a_m218) 0 [some (a_rf M), some (.int v)] [] _ _ ↔ _
  simp only [q218_0, q218_1, q218_4, q218_5, q218_6, q218_7, q218_8, q218_9, q218_10, q218_11, q218_13, q218_14, q218_15, m_0 hS, m_K hS, mR_refused hS, mK_refused hS, mL_refused hS, as_nil, as_i, as_r, Nat.reduceAdd, Nat.reduceLeDiff, z_eq0, z_eq1, z_or, z_em, Classical.not_not, not_false_eq_true, not_true_eq_false, true_and, and_true, false_and, and_false, and_self, true_implies, false_implies, implies_true, Option.toList_some, Option.toList_none, List.cons_append, List.nil_append, Nat.add_eq_zero_iff, a_nl_i, a_nl_r, a_nl_n, true_or, or_true, eq_self, and_self_left]
theorem sp_refuse_1 (hS : m_S M K L R) : a_does (d + 1) 171 [a_rf M, .int (-1)] (n, t, K, L, I, R) P ↔ P (some (.int (-1))) (n, t, K, L, a_ui I (M + 23) 1 (I (M + 23) 1 + 1), R) := by
  rw [sp_refuse hS, eq_true ((ok_7 (- (-1))).mpr (by decide +kernel)), true_and]
  rfl
theorem sp_refuse_2 (hS : m_S M K L R) : a_does (d + 1) 171 [a_rf M, .int (-2)] (n, t, K, L, I, R) P ↔ P (some (.int (-2))) (n, t, K, L, a_ui I (M + 23) 2 (I (M + 23) 2 + 1), R) := by
  rw [sp_refuse hS, eq_true ((ok_7 (- (-2))).mpr (by decide +kernel)), true_and]
  rfl
theorem sp_refuse_3 (hS : m_S M K L R) : a_does (d + 1) 171 [a_rf M, .int (-3)] (n, t, K, L, I, R) P ↔ P (some (.int (-3))) (n, t, K, L, a_ui I (M + 23) 3 (I (M + 23) 3 + 1), R) := by
  rw [sp_refuse hS, eq_true ((ok_7 (- (-3))).mpr (by decide +kernel)), true_and]
  rfl
theorem sp_refuse_4 (hS : m_S M K L R) : a_does (d + 1) 171 [a_rf M, .int (-4)] (n, t, K, L, I, R) P ↔ P (some (.int (-4))) (n, t, K, L, a_ui I (M + 23) 4 (I (M + 23) 4 + 1), R) := by
  rw [sp_refuse hS, eq_true ((ok_7 (- (-4))).mpr (by decide +kernel)), true_and]
  rfl
theorem sp_refuse_5 (hS : m_S M K L R) : a_does (d + 1) 171 [a_rf M, .int (-5)] (n, t, K, L, I, R) P ↔ P (some (.int (-5))) (n, t, K, L, a_ui I (M + 23) 5 (I (M + 23) 5 + 1), R) := by
  rw [sp_refuse hS, eq_true ((ok_7 (- (-5))).mpr (by decide +kernel)), true_and]
  rfl
theorem sp_refuse_6 (hS : m_S M K L R) : a_does (d + 1) 171 [a_rf M, .int (-6)] (n, t, K, L, I, R) P ↔ P (some (.int (-6))) (n, t, K, L, a_ui I (M + 23) 6 (I (M + 23) 6 + 1), R) := by
  rw [sp_refuse hS, eq_true ((ok_7 (- (-6))).mpr (by decide +kernel)), true_and]
  rfl
theorem sp_refuseFar_1 (hS : m_S M K L R) : a_does (d + 1) 218 [a_rf M, .int (-1)] (n, t, K, L, I, R) P ↔ P (some (.int (1000000000 - (-1)))) (n, t, K, L, a_ui I (M + 23) 1 (I (M + 23) 1 + 1), R) := by
  rw [sp_refuseFar hS, eq_true ((ok_7 (- (-1))).mpr (by decide +kernel)), true_and]
  rfl
theorem sp_refuseFar_2 (hS : m_S M K L R) : a_does (d + 1) 218 [a_rf M, .int (-2)] (n, t, K, L, I, R) P ↔ P (some (.int (1000000000 - (-2)))) (n, t, K, L, a_ui I (M + 23) 2 (I (M + 23) 2 + 1), R) := by
  rw [sp_refuseFar hS, eq_true ((ok_7 (- (-2))).mpr (by decide +kernel)), true_and]
  rfl
theorem sp_topSign (hS : m_S M K L R) : a_does (d + 1) 205 [a_rf M] (n, t, K, L, I, R) P ↔ (I M 56 = 0 → P (some (.int 0)) (n, t, K, L, I, R)) ∧ (¬ I M 56 = 0 → (0 ≤ I M 56 - 1 ∧ I M 56 - 1 < 60) ∧ P (some (.int (I (M + 34) (I M 56 - 1).toNatClampNeg))) (n, t, K, L, I, R)) := by
  rw [a_enter1 (M := a_m205) rfl (a_cat_rf a_cat_nil) (show 1 ≤ 1 by decide)]
  show a_at _ (a_xm a_m205) 0 [some (a_rf M)] [] _ _ ↔ _
  simp only [q205_0, q205_1, q205_4, q205_7, q205_8, q205_11, q205_12, q205_15, q205_16, q205_19, q205_20, q205_21, q205_22, m_0 hS, m_K hS, mR_signs hS, mK_signs hS, mL_signs hS, as_nil, as_i, as_r, Nat.reduceAdd, Nat.reduceLeDiff, z_eq0, z_eq1, z_or, z_em, Classical.not_not, not_false_eq_true, not_true_eq_false, true_and, and_true, false_and, and_false, and_self, true_implies, false_implies, implies_true, Option.toList_some, Option.toList_none, List.cons_append, List.nil_append, Nat.add_eq_zero_iff, a_nl_i, a_nl_r, a_nl_n, true_or, or_true, eq_self, ok_4, ok_5, ok_6, ok_7, ok_9, ok_10, ok_20, ok_21, ok_24, ok_30, ok_48, ok_50, ok_60, ok_80, ok_120, ok_180, ok_192, ok_200, ok_900, ok_1000, ok_84000]
  grind
theorem sp_holdsAt (hS : m_S M K L R) {a b s : Int32} : a_does (d + 2) 224 [a_rf M, .int a, .int b, .int s] (n, t, K, L, I, R) P ↔ (0 ≤ a ∧ a < 30) ∧ P (some (.int (if 0 ≤ I (M + 20) a.toNatClampNeg ∧ I (M + 20) a.toNatClampNeg = b ∧ I (M + 21) a.toNatClampNeg ≤ s ∧ s < I (M + 21) a.toNatClampNeg + I (M + 10) a.toNatClampNeg then 1 else 0))) (n, t, K, L, I, R) := by
  rw [a_enter1 (M := a_m224) rfl (a_cat_rf (a_cat_int (a_cat_int (a_cat_int a_cat_nil)))) (show 4 ≤ 4 by decide)]
  show a_at _ (a_xm a_m224) 0 [some (a_rf M), some (.int a), some (.int b), some (.int s)] [] _ _ ↔ _
  simp only [q224_0, q224_1, q224_2, q224_5, q224_8, q224_9, q224_12, q224_13, q224_14, q224_15, q224_18, q224_19, q224_20, q224_23, q224_24, q224_25, q224_28, q224_29, q224_30, q224_33, q224_34, q224_35, q224_36, q224_39, q224_40, q224_41, q224_42, q224_45, q224_46, q224_49, q224_50, m_0 hS, m_K hS, mR_atBench hS, mK_atBench hS, mL_atBench hS, mR_atShift hS, mK_atShift hS, mL_atShift hS, mR_length hS, mK_length hS, mL_length hS, sp_hasPlace hS, as_nil, as_i, as_r, Nat.reduceAdd, Nat.reduceLeDiff, z_eq0, z_eq1, z_or, z_em, Classical.not_not, not_false_eq_true, not_true_eq_false, true_and, and_true, false_and, and_false, and_self, true_implies, false_implies, implies_true, Option.toList_some, Option.toList_none, List.cons_append, List.nil_append, Nat.add_eq_zero_iff, a_nl_i, a_nl_r, a_nl_n, true_or, or_true, eq_self, ok_4, ok_5, ok_6, ok_7, ok_9, ok_10, ok_20, ok_21, ok_24, ok_30, ok_48, ok_50, ok_60, ok_80, ok_120, ok_180, ok_192, ok_200, ok_900, ok_1000, ok_84000]
  by_cases h0 : 0 ≤ a ∧ a < 30
  · simp only [h0, and_self, true_and]
    grind
  · simp only [h0, false_and]
theorem sp_isInForce (hS : m_S M K L R) {a b s : Int32} : a_does (d + 1) 191 [a_rf M, .int a, .int b, .int s] (n, t, K, L, I, R) P ↔ (0 ≤ 50 * a ∧ 50 * a < 1000) ∧ (I (M + 28) (50 * a).toNatClampNeg = b → 0 ≤ a ∧ a < 20) ∧ P (some (.int (if I (M + 28) (50 * a).toNatClampNeg = b ∧ I (M + 30) a.toNatClampNeg ≤ s ∧ s < I (M + 31) a.toNatClampNeg then 1 else 0))) (n, t, K, L, I, R) := by
  rw [a_enter1 (M := a_m191) rfl (a_cat_rf (a_cat_int (a_cat_int (a_cat_int a_cat_nil)))) (show 4 ≤ 4 by decide)]
  show a_at _ (a_xm a_m191) 0 [some (a_rf M), some (.int a), some (.int b), some (.int s)] [] _ _ ↔ _
  simp only [q191_0, q191_1, q191_4, q191_6, q191_7, q191_8, q191_9, q191_10, q191_13, q191_14, q191_17, q191_18, q191_19, q191_20, q191_23, q191_24, q191_25, q191_28, q191_29, q191_30, q191_33, q191_34, q191_37, q191_38, m_0 hS, m_K hS, mR_written hS, mK_written hS, mL_written hS, mR_textFrom hS, mK_textFrom hS, mL_textFrom hS, mR_struckFrom hS, mK_struckFrom hS, mL_struckFrom hS, as_nil, as_i, as_r, Nat.reduceAdd, Nat.reduceLeDiff, z_eq0, z_eq1, z_or, z_em, Classical.not_not, not_false_eq_true, not_true_eq_false, true_and, and_true, false_and, and_false, and_self, true_implies, false_implies, implies_true, Option.toList_some, Option.toList_none, List.cons_append, List.nil_append, Nat.add_eq_zero_iff, a_nl_i, a_nl_r, a_nl_n, true_or, or_true, eq_self, ok_4, ok_5, ok_6, ok_7, ok_9, ok_10, ok_20, ok_21, ok_24, ok_30, ok_48, ok_50, ok_60, ok_80, ok_120, ok_180, ok_192, ok_200, ok_900, ok_1000, ok_84000]
  by_cases h0 : 0 ≤ 50 * a ∧ 50 * a < 1000
  · simp only [h0, and_self, true_and]
    grind
  · simp only [h0, false_and]
end RL

section
/-! the class's small methods -/
theorem a_isRA_22 : (a_isRA 22 = true) = True := eq_true (by decide)
theorem a_isRA_24 : (a_isRA 24 = true) = True := eq_true (by decide)
theorem a_isRA_32 : (a_isRA 32 = true) = True := eq_true (by decide)
theorem a_isA_20 : (a_isA 20 = true) = True := eq_true (by decide)
section K1
variable {d : Nat} {P : Option Value → AH → Prop}
theorem sp_max {a b : Int32} {h : AH} : a_does (d + 1) 35 [.int a, .int b] h P ↔ (a < b → P (some (.int b)) h) ∧ (¬ a < b → P (some (.int a)) h) := by
  rw [a_enter1 (M := a_m35) rfl (a_cat_int (a_cat_int a_cat_nil)) (show 2 ≤ 2 by decide)]
  show a_at _ (a_xm a_m35) 0 [some (.int a), some (.int b)] [] _ _ ↔ _
  simp only [q35_0, q35_1, q35_2, q35_5, q35_6, q35_9, q35_10, as_nil, as_i, as_r, Nat.reduceAdd, Nat.reduceLeDiff, z_eq0, z_eq1, z_or, z_em, Classical.not_not, not_false_eq_true, not_true_eq_false, true_and, and_true, false_and, and_false, and_self, true_implies, false_implies, implies_true, Option.toList_some, Option.toList_none, List.cons_append, List.nil_append, Nat.add_eq_zero_iff, a_nl_i, a_nl_r, a_nl_n, true_or, or_true, eq_self]
theorem sp_min {a b : Int32} {h : AH} : a_does (d + 1) 34 [.int a, .int b] h P ↔ (b < a → P (some (.int b)) h) ∧ (¬ b < a → P (some (.int a)) h) := by
  rw [a_enter1 (M := a_m34) rfl (a_cat_int (a_cat_int a_cat_nil)) (show 2 ≤ 2 by decide)]
  show a_at _ (a_xm a_m34) 0 [some (.int a), some (.int b)] [] _ _ ↔ _
  simp only [q34_0, q34_1, q34_2, q34_5, q34_6, q34_9, q34_10, as_nil, as_i, as_r, Nat.reduceAdd, Nat.reduceLeDiff, z_eq0, z_eq1, z_or, z_em, Classical.not_not, not_false_eq_true, not_true_eq_false, true_and, and_true, false_and, and_false, and_self, true_implies, false_implies, implies_true, Option.toList_some, Option.toList_none, List.cons_append, List.nil_append, Nat.add_eq_zero_iff, a_nl_i, a_nl_r, a_nl_n, true_or, or_true, eq_self]
theorem ck_bitCount {a : Int32} {h : AH} (hP : ∀ v, P (some (.int v)) h) : a_does (d + 1) 57 [.int a] h P := by
  rw [a_enter1 (M := a_m57) rfl (a_cat_int a_cat_nil) (show 1 ≤ 1 by decide)]
  show a_at _ (a_xm a_m57) 0 [some (.int a)] [] _ _
  simp only [q57_0, q57_1, q57_2, q57_3, q57_4, q57_7, q57_8, q57_9, q57_10, q57_11, q57_14, q57_15, q57_16, q57_17, q57_18, q57_21, q57_22, q57_23, q57_24, q57_25, q57_26, q57_27, q57_28, q57_29, q57_32, q57_33, q57_34, q57_35, q57_36, q57_38, q57_39, q57_40, q57_41, q57_42, q57_43, q57_45, q57_46, q57_47, q57_48, q57_49, q57_51, q57_52, as_nil, as_i, as_r, Nat.reduceAdd, Nat.reduceLeDiff, z_eq0, z_eq1, z_or, z_em, Classical.not_not, not_false_eq_true, not_true_eq_false, true_and, and_true, false_and, and_false, and_self, true_implies, false_implies, implies_true, Option.toList_some, Option.toList_none, List.cons_append, List.nil_append, Nat.add_eq_zero_iff, a_nl_i, a_nl_r, a_nl_n, true_or, or_true, eq_self]
  exact hP _
theorem ck_floorDiv {a b : Int32} {h : AH} (hb : ¬ b = 0) (hP : ∀ v, P (some (.int v)) h) : a_does (d + 1) 31 [.int a, .int b] h P := by
  rw [a_enter1 (M := a_m31) rfl (a_cat_int (a_cat_int a_cat_nil)) (show 2 ≤ 3 by decide)]
  show a_at _ (a_xm a_m31) 0 [some (.int a), some (.int b), none] [] _ _
  simp only [q31_0, q31_1, q31_2, q31_3, q31_4, q31_5, q31_6, q31_7, q31_10, q31_11, q31_12, q31_13, q31_14, q31_17, q31_18, q31_19, q31_20, q31_21, q31_22, as_nil, as_i, as_r, Nat.reduceAdd, Nat.reduceLeDiff, z_eq0, z_eq1, z_or, z_em, Classical.not_not, not_false_eq_true, not_true_eq_false, true_and, and_true, false_and, and_false, and_self, true_implies, false_implies, implies_true, Option.toList_some, Option.toList_none, List.cons_append, List.nil_append, Nat.add_eq_zero_iff, a_nl_i, a_nl_r, a_nl_n, true_or, or_true, eq_self]
  grind
theorem sp_isShiftC {v : Int32} {h : AH} : a_does (d + 1) 13 [.int v] h P ↔ P (some (.int (if 0 ≤ v ∧ v < 200 then 1 else 0))) h := by
  rw [a_enter1 (M := a_m13) rfl (a_cat_int a_cat_nil) (show 1 ≤ 1 by decide)]
  show a_at _ (a_xm a_m13) 0 [some (.int v)] [] _ _ ↔ _
  simp only [q13_0, q13_1, q13_4, q13_5, q13_8, q13_11, q13_12, q13_15, q13_16, as_nil, as_i, as_r, Nat.reduceAdd, Nat.reduceLeDiff, z_eq0, z_eq1, z_or, z_em, Classical.not_not, not_false_eq_true, not_true_eq_false, true_and, and_true, false_and, and_false, and_self, true_implies, false_implies, implies_true, Option.toList_some, Option.toList_none, List.cons_append, List.nil_append, Nat.add_eq_zero_iff, a_nl_i, a_nl_r, a_nl_n, true_or, or_true, eq_self]
  grind
theorem sp_areShifts {a b : Int32} {h : AH} : a_does (d + 2) 12 [.int a, .int b] h P ↔ P (some (.int (if (0 ≤ a ∧ a < 200) ∧ (0 ≤ b ∧ b < 200) ∧ a ≤ b then 1 else 0))) h := by
  rw [a_enter1 (M := a_m12) rfl (a_cat_int (a_cat_int a_cat_nil)) (show 2 ≤ 2 by decide)]
  show a_at _ (a_xm a_m12) 0 [some (.int a), some (.int b)] [] _ _ ↔ _
  simp only [q12_0, q12_1, q12_4, q12_7, q12_8, q12_11, q12_14, q12_15, q12_16, q12_19, q12_20, q12_23, q12_24, sp_isShiftC, as_nil, as_i, as_r, Nat.reduceAdd, Nat.reduceLeDiff, z_eq0, z_eq1, z_or, z_em, Classical.not_not, not_false_eq_true, not_true_eq_false, true_and, and_true, false_and, and_false, and_self, true_implies, false_implies, implies_true, Option.toList_some, Option.toList_none, List.cons_append, List.nil_append, Nat.add_eq_zero_iff, a_nl_i, a_nl_r, a_nl_n, true_or, or_true, eq_self]
  grind
theorem sp_isReaderC {v : Int32} {h : AH} : a_does (d + 1) 90 [.int v] h P ↔ P (some (.int (if 0 ≤ v ∧ v < 6 then 1 else 0))) h := by
  rw [a_enter1 (M := a_m90) rfl (a_cat_int a_cat_nil) (show 1 ≤ 1 by decide)]
  show a_at _ (a_xm a_m90) 0 [some (.int v)] [] _ _ ↔ _
  simp only [q90_0, q90_1, q90_4, q90_5, q90_7, q90_10, q90_11, q90_14, q90_15, as_nil, as_i, as_r, Nat.reduceAdd, Nat.reduceLeDiff, z_eq0, z_eq1, z_or, z_em, Classical.not_not, not_false_eq_true, not_true_eq_false, true_and, and_true, false_and, and_false, and_self, true_implies, false_implies, implies_true, Option.toList_some, Option.toList_none, List.cons_append, List.nil_append, Nat.add_eq_zero_iff, a_nl_i, a_nl_r, a_nl_n, true_or, or_true, eq_self]
  grind
theorem ck_isIn {a b : Int32} {h : AH} (hP : ∀ v, P (some (.int v)) h) : a_does (d + 1) 130 [.int a, .int b] h P := by
  rw [a_enter1 (M := a_m130) rfl (a_cat_int (a_cat_int a_cat_nil)) (show 2 ≤ 2 by decide)]
  show a_at _ (a_xm a_m130) 0 [some (.int a), some (.int b)] [] _ _
  repeat' first
    | with_reducible apply And.intro
    | with_reducible assumption
    | with_reducible intro _
    | with_reducible apply hP
    | simp only [q130_0, q130_1, q130_4, q130_5, q130_7, q130_10, q130_11, q130_12, q130_13, q130_14, q130_15, q130_18, q130_19, q130_22, q130_23, as_nil, as_i, as_r, Nat.reduceAdd, Nat.reduceLeDiff, z_eq0, z_eq1, z_or, z_em, Classical.not_not, not_false_eq_true, not_true_eq_false, true_and, and_true, false_and, and_false, and_self, true_implies, false_implies, implies_true, Option.toList_some, Option.toList_none, List.cons_append, List.nil_append, Nat.add_eq_zero_iff, a_nl_i, a_nl_r, a_nl_n, true_or, or_true, eq_self, a_isRA_22, a_isRA_24, a_isRA_32, a_isA_20, ok_4, ok_5, ok_6, ok_7, ok_9, ok_20, ok_21, ok_30, ok_50, ok_180, ok_192, ok_200]
  all_goals grind [ui_ap]
theorem ck_daysBelow {a b c : Int32} {h : AH} (hP : ∀ v, P (some (.int v)) h) : a_does (d + 1) 39 [.int a, .int b, .int c] h P := by
  rw [a_enter1 (M := a_m39) rfl (a_cat_int (a_cat_int (a_cat_int a_cat_nil))) (show 3 ≤ 3 by decide)]
  show a_at _ (a_xm a_m39) 0 [some (.int a), some (.int b), some (.int c)] [] _ _
  repeat' first
    | with_reducible apply And.intro
    | with_reducible assumption
    | with_reducible intro _
    | with_reducible apply hP
    | simp only [q39_0, q39_1, q39_2, q39_5, q39_6, q39_9, q39_10, q39_13, q39_14, q39_15, q39_16, q39_17, q39_20, q39_21, q39_24, q39_25, q39_26, q39_29, q39_30, q39_33, q39_34, as_nil, as_i, as_r, Nat.reduceAdd, Nat.reduceLeDiff, z_eq0, z_eq1, z_or, z_em, Classical.not_not, not_false_eq_true, not_true_eq_false, true_and, and_true, false_and, and_false, and_self, true_implies, false_implies, implies_true, Option.toList_some, Option.toList_none, List.cons_append, List.nil_append, Nat.add_eq_zero_iff, a_nl_i, a_nl_r, a_nl_n, true_or, or_true, eq_self, a_isRA_22, a_isRA_24, a_isRA_32, a_isA_20, ok_4, ok_5, ok_6, ok_7, ok_9, ok_20, ok_21, ok_30, ok_50, ok_180, ok_192, ok_200]
  all_goals grind [ui_ap]
theorem ck_daysAbove {a b c : Int32} {h : AH} (hP : ∀ v, P (some (.int v)) h) : a_does (d + 1) 40 [.int a, .int b, .int c] h P := by
  rw [a_enter1 (M := a_m40) rfl (a_cat_int (a_cat_int (a_cat_int a_cat_nil))) (show 3 ≤ 3 by decide)]
  show a_at _ (a_xm a_m40) 0 [some (.int a), some (.int b), some (.int c)] [] _ _
  repeat' first
    | with_reducible apply And.intro
    | with_reducible assumption
    | with_reducible intro _
    | with_reducible apply hP
    | simp only [q40_0, q40_1, q40_2, q40_5, q40_6, q40_8, q40_11, q40_12, q40_15, q40_16, q40_17, q40_18, q40_19, q40_22, q40_23, q40_26, q40_29, q40_30, q40_33, q40_36, q40_37, q40_40, q40_41, as_nil, as_i, as_r, Nat.reduceAdd, Nat.reduceLeDiff, z_eq0, z_eq1, z_or, z_em, Classical.not_not, not_false_eq_true, not_true_eq_false, true_and, and_true, false_and, and_false, and_self, true_implies, false_implies, implies_true, Option.toList_some, Option.toList_none, List.cons_append, List.nil_append, Nat.add_eq_zero_iff, a_nl_i, a_nl_r, a_nl_n, true_or, or_true, eq_self, a_isRA_22, a_isRA_24, a_isRA_32, a_isA_20, ok_4, ok_5, ok_6, ok_7, ok_9, ok_20, ok_21, ok_30, ok_50, ok_180, ok_192, ok_200]
  all_goals grind [ui_ap]
end K1
section K2
variable {d n t C : Nat} {K L : Nat → Nat} {I I0 J J0 J1 J2 : Nat → Nat → Int32} {R : Nat → Nat → Nat} {P : Option Value → AH → Prop}
theorem sp_askAt (hS : cS C K L R) (gA : ∀ j, R (C + 15) j = 0 ∨ K (R (C + 15) j) = 1) {v : Int32} : a_does (d + 1) 32 [a_rf (C + 14), .int v] (n, t, K, L, I, R) P ↔ ((0 ≤ v ∧ v < I (C + 14) 4 ∧ v < 30) → P (some (a_rf (R (C + 15) v.toNatClampNeg))) (n, t, K, L, I, R)) ∧ (¬ (0 ≤ v ∧ v < I (C + 14) 4 ∧ v < 30) → P (some (a_rf 0)) (n, t, K, L, I, R)) := by
  rw [a_enter1 (M := a_m32) rfl (a_cat_rf (a_cat_int a_cat_nil)) (show 2 ≤ 2 by decide)]
  show a_at _ (a_xm a_m32) 0 [some (a_rf (C + 14)), some (.int v)] [] _ _ ↔ _
  have := gA v.toNatClampNeg
  simp only [q32_0, q32_1, q32_4, q32_5, q32_6, q32_9, q32_12, q32_13, q32_15, q32_18, q32_19, q32_22, q32_23, q32_24, q32_27, q32_28, k_14 hS, z_14, r_14_2 hS, k_15 hS, l_15 hS, z_15, as_nil, as_i, as_r, Nat.reduceAdd, Nat.reduceLeDiff, z_eq0, z_eq1, z_or, z_em, Classical.not_not, not_false_eq_true, not_true_eq_false, true_and, and_true, false_and, and_false, and_self, true_implies, false_implies, implies_true, Option.toList_some, Option.toList_none, List.cons_append, List.nil_append, Nat.add_eq_zero_iff, a_nl_i, a_nl_r, a_nl_n, true_or, or_true, eq_self, a_isRA_22, a_isRA_24, a_isRA_32, a_isA_20, ok_4, ok_5, ok_6, ok_7, ok_9, ok_20, ok_21, ok_30, ok_50, ok_180, ok_192, ok_200]
  grind
theorem sp_benchAt (hS : cS C K L R) (gB : ∀ j, R (C + 16) j = 0 ∨ K (R (C + 16) j) = 3) {v : Int32} : a_does (d + 1) 46 [a_rf (C + 14), .int v] (n, t, K, L, I, R) P ↔ ((0 ≤ v ∧ v < I (C + 14) 5 ∧ v < 6) → P (some (a_rf (R (C + 16) v.toNatClampNeg))) (n, t, K, L, I, R)) ∧ (¬ (0 ≤ v ∧ v < I (C + 14) 5 ∧ v < 6) → P (some (a_rf 0)) (n, t, K, L, I, R)) := by
  rw [a_enter1 (M := a_m46) rfl (a_cat_rf (a_cat_int a_cat_nil)) (show 2 ≤ 2 by decide)]
  show a_at _ (a_xm a_m46) 0 [some (a_rf (C + 14)), some (.int v)] [] _ _ ↔ _
  have := gB v.toNatClampNeg
  simp only [q46_0, q46_1, q46_4, q46_5, q46_6, q46_9, q46_12, q46_13, q46_15, q46_18, q46_19, q46_22, q46_23, q46_24, q46_27, q46_28, k_14 hS, z_14, r_14_3 hS, k_16 hS, l_16 hS, z_16, as_nil, as_i, as_r, Nat.reduceAdd, Nat.reduceLeDiff, z_eq0, z_eq1, z_or, z_em, Classical.not_not, not_false_eq_true, not_true_eq_false, true_and, and_true, false_and, and_false, and_self, true_implies, false_implies, implies_true, Option.toList_some, Option.toList_none, List.cons_append, List.nil_append, Nat.add_eq_zero_iff, a_nl_i, a_nl_r, a_nl_n, true_or, or_true, eq_self, a_isRA_22, a_isRA_24, a_isRA_32, a_isA_20, ok_4, ok_5, ok_6, ok_7, ok_9, ok_20, ok_21, ok_30, ok_50, ok_180, ok_192, ok_200]
  grind
theorem sp_textAt (hS : cS C K L R) (gX : ∀ j, R (C + 8) j = 0 ∨ K (R (C + 8) j) = 11) {v : Int32} : a_does (d + 1) 61 [a_rf (C + 7), .int v] (n, t, K, L, I, R) P ↔ ((0 ≤ v ∧ v < I (C + 7) 3 ∧ v < 20) → P (some (a_rf (R (C + 8) v.toNatClampNeg))) (n, t, K, L, I, R)) ∧ (¬ (0 ≤ v ∧ v < I (C + 7) 3 ∧ v < 20) → P (some (a_rf 0)) (n, t, K, L, I, R)) := by
  rw [a_enter1 (M := a_m61) rfl (a_cat_rf (a_cat_int a_cat_nil)) (show 2 ≤ 2 by decide)]
  show a_at _ (a_xm a_m61) 0 [some (a_rf (C + 7)), some (.int v)] [] _ _ ↔ _
  have := gX v.toNatClampNeg
  simp only [q61_0, q61_1, q61_4, q61_5, q61_6, q61_9, q61_12, q61_13, q61_15, q61_18, q61_19, q61_22, q61_23, q61_24, q61_27, q61_28, k_7 hS, z_7, r_7_0 hS, k_8 hS, l_8 hS, z_8, as_nil, as_i, as_r, Nat.reduceAdd, Nat.reduceLeDiff, z_eq0, z_eq1, z_or, z_em, Classical.not_not, not_false_eq_true, not_true_eq_false, true_and, and_true, false_and, and_false, and_self, true_implies, false_implies, implies_true, Option.toList_some, Option.toList_none, List.cons_append, List.nil_append, Nat.add_eq_zero_iff, a_nl_i, a_nl_r, a_nl_n, true_or, or_true, eq_self, a_isRA_22, a_isRA_24, a_isRA_32, a_isA_20, ok_4, ok_5, ok_6, ok_7, ok_9, ok_20, ok_21, ok_30, ok_50, ok_180, ok_192, ok_200]
  grind
theorem sp_hasBegun (hS : cS C K L R) {v : Int32} : a_does (d + 1) 103 [a_rf (C + 1), .int v] (n, t, K, L, I, R) P ↔ P (some (.int (if v * 8 < I (C + 1) 6 then 1 else 0))) (n, t, K, L, I, R) := by
  rw [a_enter1 (M := a_m103) rfl (a_cat_rf (a_cat_int a_cat_nil)) (show 2 ≤ 2 by decide)]
  show a_at _ (a_xm a_m103) 0 [some (a_rf (C + 1)), some (.int v)] [] _ _ ↔ _
  simp only [q103_0, q103_1, q103_4, q103_5, q103_7, q103_8, q103_11, q103_12, q103_15, q103_16, k_1 hS, z_1, as_nil, as_i, as_r, Nat.reduceAdd, Nat.reduceLeDiff, z_eq0, z_eq1, z_or, z_em, Classical.not_not, not_false_eq_true, not_true_eq_false, true_and, and_true, false_and, and_false, and_self, true_implies, false_implies, implies_true, Option.toList_some, Option.toList_none, List.cons_append, List.nil_append, Nat.add_eq_zero_iff, a_nl_i, a_nl_r, a_nl_n, true_or, or_true, eq_self, a_isRA_22, a_isRA_24, a_isRA_32, a_isA_20, ok_4, ok_5, ok_6, ok_7, ok_9, ok_20, ok_21, ok_30, ok_50, ok_180, ok_192, ok_200]
  grind
theorem sp_isPlaced {a : Nat} : a_does (d + 1) 55 [a_rf a] (n, t, K, L, I, R) P ↔ (¬ a = 0 ∧ K a = 1) ∧ P (some (.int (if 0 ≤ I a 13 then 1 else 0))) (n, t, K, L, I, R) := by
  rw [a_enter1 (M := a_m55) rfl (a_cat_rf a_cat_nil) (show 1 ≤ 1 by decide)]
  show a_at _ (a_xm a_m55) 0 [some (a_rf a)] [] _ _ ↔ _
  simp only [q55_0, q55_1, q55_4, q55_7, q55_8, q55_11, q55_12, as_nil, as_i, as_r, Nat.reduceAdd, Nat.reduceLeDiff, z_eq0, z_eq1, z_or, z_em, Classical.not_not, not_false_eq_true, not_true_eq_false, true_and, and_true, false_and, and_false, and_self, true_implies, false_implies, implies_true, Option.toList_some, Option.toList_none, List.cons_append, List.nil_append, Nat.add_eq_zero_iff, a_nl_i, a_nl_r, a_nl_n, true_or, or_true, eq_self, a_isRA_22, a_isRA_24, a_isRA_32, a_isA_20, ok_4, ok_5, ok_6, ok_7, ok_9, ok_20, ok_21, ok_30, ok_50, ok_180, ok_192, ok_200]
  grind
theorem sp_last {a : Nat} : a_does (d + 1) 49 [a_rf a] (n, t, K, L, I, R) P ↔ (¬ a = 0 ∧ K a = 1) ∧ P (some (.int (I a 14 + I a 2 - 1))) (n, t, K, L, I, R) := by
  rw [a_enter1 (M := a_m49) rfl (a_cat_rf a_cat_nil) (show 1 ≤ 1 by decide)]
  show a_at _ (a_xm a_m49) 0 [some (a_rf a)] [] _ _ ↔ _
  simp only [q49_0, q49_1, q49_4, q49_5, q49_8, q49_9, q49_10, q49_11, as_nil, as_i, as_r, Nat.reduceAdd, Nat.reduceLeDiff, z_eq0, z_eq1, z_or, z_em, Classical.not_not, not_false_eq_true, not_true_eq_false, true_and, and_true, false_and, and_false, and_self, true_implies, false_implies, implies_true, Option.toList_some, Option.toList_none, List.cons_append, List.nil_append, Nat.add_eq_zero_iff, a_nl_i, a_nl_r, a_nl_n, true_or, or_true, eq_self, a_isRA_22, a_isRA_24, a_isRA_32, a_isA_20, ok_4, ok_5, ok_6, ok_7, ok_9, ok_20, ok_21, ok_30, ok_50, ok_180, ok_192, ok_200]
  grind
theorem sp_mayMove (hS : cS C K L R) {a : Nat} : a_does (d + 2) 117 [a_rf (C + 14), a_rf a] (n, t, K, L, I, R) P ↔ (¬ a = 0 ∧ K a = 1) ∧ P (some (.int (if 0 ≤ I a 13 ∧ ¬ I a 14 * 8 < I (C + 1) 6 then 1 else 0))) (n, t, K, L, I, R) := by
  rw [a_enter1 (M := a_m117) rfl (a_cat_rf (a_cat_rf a_cat_nil)) (show 2 ≤ 2 by decide)]
  show a_at _ (a_xm a_m117) 0 [some (a_rf (C + 14)), some (a_rf a)] [] _ _ ↔ _
  simp only [q117_0, q117_1, q117_4, q117_7, q117_8, q117_11, q117_12, q117_15, q117_18, q117_21, q117_22, q117_25, q117_26, k_14 hS, z_14, r_14_0 hS, k_1 hS, z_1, sp_isPlaced, sp_hasBegun hS, as_nil, as_i, as_r, Nat.reduceAdd, Nat.reduceLeDiff, z_eq0, z_eq1, z_or, z_em, Classical.not_not, not_false_eq_true, not_true_eq_false, true_and, and_true, false_and, and_false, and_self, true_implies, false_implies, implies_true, Option.toList_some, Option.toList_none, List.cons_append, List.nil_append, Nat.add_eq_zero_iff, a_nl_i, a_nl_r, a_nl_n, true_or, or_true, eq_self, a_isRA_22, a_isRA_24, a_isRA_32, a_isA_20, ok_4, ok_5, ok_6, ok_7, ok_9, ok_20, ok_21, ok_30, ok_50, ok_180, ok_192, ok_200]
  by_cases h : ¬ a = 0 ∧ K a = 1
  · simp only [h, true_and]
    grind
  · simp only [h, false_and]
theorem ck_rank {a : Nat} (ha : ¬ a = 0) (hk : K a = 1) (hP : ∀ v, P (some (.int v)) (n, t, K, L, I, R)) : a_does (d + 1) 122 [a_rf a] (n, t, K, L, I, R) P := by
  rw [a_enter1 (M := a_m122) rfl (a_cat_rf a_cat_nil) (show 1 ≤ 1 by decide)]
  show a_at _ (a_xm a_m122) 0 [some (a_rf a)] [] _ _
  repeat' first
    | with_reducible apply And.intro
    | with_reducible assumption
    | with_reducible intro _
    | with_reducible apply hP
    | simp only [q122_0, q122_1, q122_4, q122_5, q122_8, q122_9, q122_10, q122_11, q122_14, q122_15, q122_18, q122_19, q122_22, q122_23, as_nil, as_i, as_r, Nat.reduceAdd, Nat.reduceLeDiff, z_eq0, z_eq1, z_or, z_em, Classical.not_not, not_false_eq_true, not_true_eq_false, true_and, and_true, false_and, and_false, and_self, true_implies, false_implies, implies_true, Option.toList_some, Option.toList_none, List.cons_append, List.nil_append, Nat.add_eq_zero_iff, a_nl_i, a_nl_r, a_nl_n, true_or, or_true, eq_self, a_isRA_22, a_isRA_24, a_isRA_32, a_isA_20, ok_4, ok_5, ok_6, ok_7, ok_9, ok_20, ok_21, ok_30, ok_50, ok_180, ok_192, ok_200]
  all_goals grind [ui_ap]
theorem ck_isAheadOf {a b : Nat} (ha : ¬ a = 0) (hk : K a = 1) (hb : ¬ b = 0) (hkb : K b = 1) (hP : ∀ v, P (some (.int v)) (n, t, K, L, I, R)) : a_does (d + 2) 121 [a_rf a, a_rf b] (n, t, K, L, I, R) P := by
  rw [a_enter1 (M := a_m121) rfl (a_cat_rf (a_cat_rf a_cat_nil)) (show 2 ≤ 2 by decide)]
  show a_at _ (a_xm a_m121) 0 [some (a_rf a), some (a_rf b)] [] _ _
  repeat' first
    | with_reducible apply And.intro
    | with_reducible assumption
    | with_reducible intro _
    | with_reducible apply hP
    | with_reducible apply ck_rank
    | simp only [q121_0, q121_1, q121_4, q121_5, q121_8, q121_11, q121_12, q121_15, q121_16, q121_19, q121_22, q121_23, q121_26, q121_27, q121_28, q121_29, q121_32, q121_33, q121_36, q121_39, q121_40, q121_43, q121_44, q121_47, q121_50, q121_51, q121_54, q121_55, q121_56, q121_57, q121_60, q121_61, q121_64, q121_67, q121_68, q121_71, q121_72, as_nil, as_i, as_r, Nat.reduceAdd, Nat.reduceLeDiff, z_eq0, z_eq1, z_or, z_em, Classical.not_not, not_false_eq_true, not_true_eq_false, true_and, and_true, false_and, and_false, and_self, true_implies, false_implies, implies_true, Option.toList_some, Option.toList_none, List.cons_append, List.nil_append, Nat.add_eq_zero_iff, a_nl_i, a_nl_r, a_nl_n, true_or, or_true, eq_self, a_isRA_22, a_isRA_24, a_isRA_32, a_isA_20, ok_4, ok_5, ok_6, ok_7, ok_9, ok_20, ok_21, ok_30, ok_50, ok_180, ok_192, ok_200]
  all_goals grind [ui_ap]
theorem sp_inForce {x : Nat} {v : Int32} : a_does (d + 1) 62 [a_rf x, .int v] (n, t, K, L, I, R) P ↔ (¬ x = 0 ∧ K x = 11) ∧ P (some (.int (if I x 1 ≤ v ∧ v < I x 3 then 1 else 0))) (n, t, K, L, I, R) := by
  rw [a_enter1 (M := a_m62) rfl (a_cat_rf (a_cat_int a_cat_nil)) (show 2 ≤ 2 by decide)]
  show a_at _ (a_xm a_m62) 0 [some (a_rf x), some (.int v)] [] _ _ ↔ _
  simp only [q62_0, q62_1, q62_4, q62_5, q62_8, q62_9, q62_10, q62_13, q62_16, q62_17, q62_20, q62_21, as_nil, as_i, as_r, Nat.reduceAdd, Nat.reduceLeDiff, z_eq0, z_eq1, z_or, z_em, Classical.not_not, not_false_eq_true, not_true_eq_false, true_and, and_true, false_and, and_false, and_self, true_implies, false_implies, implies_true, Option.toList_some, Option.toList_none, List.cons_append, List.nil_append, Nat.add_eq_zero_iff, a_nl_i, a_nl_r, a_nl_n, true_or, or_true, eq_self, a_isRA_22, a_isRA_24, a_isRA_32, a_isA_20, ok_4, ok_5, ok_6, ok_7, ok_9, ok_20, ok_21, ok_30, ok_50, ok_180, ok_192, ok_200]
  grind
end K2
end
section
/-! frames -/
/-- the class's cells that only few calls change, and all that isn't the class's own -/
def eD (C : Nat) (K : Nat → Nat) (x j : Nat) : Prop := x < C ∨ (C + 44 ≤ x ∧ x ≤ C + 96) ∨ x = C + 1 ∨ x = C + 2 ∨ x = C + 3 ∨ x = C + 4 ∨ x = C + 5 ∨ x = C + 6 ∨ (x = C + 14 ∧ (j = 5 ∨ j = 6)) ∨ x = C + 18 ∨ (x = C + 17 ∧ j = 5) ∨ (x = C + 22 ∧ j = 8) ∨ x = C + 43 ∨ (x = C ∧ j = 10) ∨ x = C + 12 ∨ (x = C + 11 ∧ j = 2) ∨ (x = C + 7 ∧ j = 3) ∨ (C + 96 < x ∧ K x = 11)
def dC (C : Nat) (K L : Nat → Nat) (R : Nat → Nat → Nat) (I J : Nat → Nat → Int32) : Prop := cT C K L J R ∧ ∀ x j, ¬ x = C + 9 → ¬ x = C + 10 → J x j = I x j
def dL (C : Nat) (K L : Nat → Nat) (R : Nat → Nat → Nat) (I J : Nat → Nat → Int32) : Prop := cT C K L J R ∧ ∀ x j, ¬ x = C + 9 → ¬ x = C + 10 → ¬ (C + 96 < x ∧ (K x = 20 ∨ (K x = 1 ∧ (j = 13 ∨ j = 14)))) → J x j = I x j
def dG (C : Nat) (K L : Nat → Nat) (R : Nat → Nat → Nat) (I J : Nat → Nat → Int32) : Prop := cT C K L J R ∧ ∀ x j, eD C K x j → J x j = I x j
section K3
variable {C : Nat} {K L : Nat → Nat} {I I0 J J0 : Nat → Nat → Int32} {R : Nat → Nat → Nat}
theorem dC_refl (h : cT C K L I R) : dC C K L R I I := ⟨h, fun _ _ _ _ => rfl⟩
theorem dL_refl (h : cT C K L I R) : dL C K L R I I := ⟨h, fun _ _ _ _ _ => rfl⟩
theorem dG_refl (h : cT C K L I R) : dG C K L R I I := ⟨h, fun _ _ _ => rfl⟩
theorem dC_C (h : dC C K L R I0 I) (h2 : dC C K L R I J) : dC C K L R I0 J := ⟨h2.1, fun x j p q => (h2.2 x j p q).trans (h.2 x j p q)⟩
theorem dL_C (h : dL C K L R I0 I) (h2 : dC C K L R I J) : dL C K L R I0 J := ⟨h2.1, fun x j p q r => (h2.2 x j p q).trans (h.2 x j p q r)⟩
theorem dL_L (h : dL C K L R I0 I) (h2 : dL C K L R I J) : dL C K L R I0 J := ⟨h2.1, fun x j p q r => (h2.2 x j p q r).trans (h.2 x j p q r)⟩
theorem dG_C (h : dG C K L R I0 I) (h2 : dC C K L R I J) : dG C K L R I0 J := ⟨h2.1, fun x j p => (h2.2 x j (by unfold eD at p; omega) (by unfold eD at p; omega)).trans (h.2 x j p)⟩
theorem dG_L (h : dG C K L R I0 I) (h2 : dL C K L R I J) : dG C K L R I0 J := ⟨h2.1, fun x j p => (h2.2 x j (by unfold eD at p; omega) (by unfold eD at p; omega) (by unfold eD at p; omega)).trans (h.2 x j p)⟩
theorem dC_T (h : dC C K L R I J) : cT C K L J R := h.1
theorem dC_9 (h : dC C K L R I J) {k : Nat} {v : Int32} : dC C K L R I (a_ui J (C + 9) k v) := ⟨sT_Rules_facts h.1, fun x j p q => by rw [ui_ap, if_neg (fun e => p e.1)]; exact h.2 x j p q⟩
theorem dC_10 (h : dC C K L R I J) {k : Nat} {v : Int32} : dC C K L R I (a_ui J (C + 10) k v) := ⟨sT_Rules_stack h.1, fun x j p q => by rw [ui_ap, if_neg (fun e => q e.1)]; exact h.2 x j p q⟩
theorem dL_arr (h : dL C K L R I J) {x k : Nat} {v : Int32} (hx : C + 96 < x) (hk : K x = 20) : dL C K L R I (a_ui J x k v) := ⟨sT_arr h.1 hx hk, fun y j p q r => by rw [ui_ap, if_neg (fun e => r ⟨by omega, Or.inl (by rw [e.1]; exact hk)⟩)]; exact h.2 y j p q r⟩
theorem dL_place (h : dL C K L R I J) {x : Nat} {w v : Int32} (hx : C + 96 < x) (hk : K x = 1) (hv : 0 ≤ w → 0 ≤ v ∧ v ≤ 199 ∧ v + J x 2 ≤ 200) : dL C K L R I (a_ui (a_ui J x 13 w) x 14 v) := ⟨sT_place h.1 hx hk hv, fun y j p q r => by rw [ui_ap, if_neg (fun e => r ⟨by omega, Or.inr ⟨by rw [e.1]; exact hk, Or.inr e.2⟩⟩), ui_ap, if_neg (fun e => r ⟨by omega, Or.inr ⟨by rw [e.1]; exact hk, Or.inl e.2⟩⟩)]; exact h.2 y j p q r⟩
theorem dG_ui (h : dG C K L R I J) {x k : Nat} {v : Int32} (hT : cT C K L (a_ui J x k v) R) (hx : ¬ eD C K x k) : dG C K L R I (a_ui J x k v) := ⟨hT, fun y j p => by rw [ui_ap, if_neg (fun e => hx (by rw [← e.1, ← e.2]; exact p))]; exact h.2 y j p⟩

theorem dG_19 (h : dG C K L R I J) {k : Nat} {v : Int32} : dG C K L R I (a_ui J (C + 19) k v) := dG_ui h (sT_Panel_told h.1) (by unfold eD; omega)
theorem dG_20 (h : dG C K L R I J) {k : Nat} {v : Int32} : dG C K L R I (a_ui J (C + 20) k v) := dG_ui h (sT_Panel_marks h.1) (by unfold eD; omega)
theorem dG_21 (h : dG C K L R I J) {k : Nat} {v : Int32} : dG C K L R I (a_ui J (C + 21) k v) := dG_ui h (sT_Panel_habits h.1) (by unfold eD; omega)
theorem dG_24 (h : dG C K L R I J) {k : Nat} {v : Int32} : dG C K L R I (a_ui J (C + 24) k v) := dG_ui h (sT_Planner_passed h.1) (by unfold eD; omega)
theorem dG_25 (h : dG C K L R I J) {k : Nat} {v : Int32} : dG C K L R I (a_ui J (C + 25) k v) := dG_ui h (sT_Planner_oldBench h.1) (by unfold eD; omega)
theorem dG_26 (h : dG C K L R I J) {k : Nat} {v : Int32} : dG C K L R I (a_ui J (C + 26) k v) := dG_ui h (sT_Planner_oldShift h.1) (by unfold eD; omega)
theorem dG_29 (h : dG C K L R I J) {k : Nat} {v : Int32} : dG C K L R I (a_ui J (C + 29) k v) := dG_ui h (sT_Best_spots h.1) (by unfold eD; omega)
theorem dG_30 (h : dG C K L R I J) {k : Nat} {v : Int32} : dG C K L R I (a_ui J (C + 30) k v) := dG_ui h (sT_Best_watches h.1) (by unfold eD; omega)
theorem dG_32 (h : dG C K L R I J) {k : Nat} {v : Int32} : dG C K L R I (a_ui J (C + 32) k v) := dG_ui h (sT_Best_reach h.1) (by unfold eD; omega)
theorem dG_33 (h : dG C K L R I J) {k : Nat} {v : Int32} : dG C K L R I (a_ui J (C + 33) k v) := dG_ui h (sT_Best_tried h.1) (by unfold eD; omega)
theorem dG_36 (h : dG C K L R I J) {k : Nat} {v : Int32} : dG C K L R I (a_ui J (C + 36) k v) := dG_ui h (sT_Circle_wishes h.1) (by unfold eD; omega)
theorem dG_37 (h : dG C K L R I J) {k : Nat} {v : Int32} : dG C K L R I (a_ui J (C + 37) k v) := dG_ui h (sT_Circle_sound h.1) (by unfold eD; omega)
theorem dG_42 (h : dG C K L R I J) {k : Nat} {v : Int32} : dG C K L R I (a_ui J (C + 42) k v) := dG_ui h (sT_BeamHall_refused h.1) (by unfold eD; omega)
theorem dG_31 (h : dG C K L R I J) {k : Nat} {v : Int32} (hv : 0 ≤ v ∧ v ≤ 48) : dG C K L R I (a_ui J (C + 31) k v) := dG_ui h (sT_Best_spotCounts h.1 hv) (by unfold eD; omega)
theorem dG_Planner_orderSize (h : dG C K L R I J) {v : Int32} (hv : 0 ≤ v ∧ v ≤ 30) : dG C K L R I (a_ui J (C + 22) 6 v) := dG_ui h (sT_Planner_orderSize h.1 hv) (by unfold eD; omega)
theorem dG_Planner_passedCount (h : dG C K L R I J) {v : Int32} (hv : 0 ≤ v ∧ v ≤ 30) : dG C K L R I (a_ui J (C + 22) 7 v) := dG_ui h (sT_Planner_passedCount h.1 hv) (by unfold eD; omega)
theorem dG_Best_size (h : dG C K L R I J) {v : Int32} (hv : 0 ≤ v ∧ v ≤ 4) : dG C K L R I (a_ui J (C + 27) 8 v) := dG_ui h (sT_Best_size h.1 hv) (by unfold eD; omega)
theorem dG_Circle_size (h : dG C K L R I J) {v : Int32} (hv : 0 ≤ v ∧ v ≤ 5) : dG C K L R I (a_ui J (C + 35) 7 v) := dG_ui h (sT_Circle_size h.1 hv) (by unfold eD; omega)
theorem dG_Best_sum (h : dG C K L R I J) {v : Int32} : dG C K L R I (a_ui J (C + 27) 9 v) := dG_ui h (sT_Best_sum h.1) (by unfold eD; omega)
theorem dG_askf (h : dG C K L R I J) {x k : Nat} {v : Int32} (hx : C + 96 < x) (hk : K x = 1) (hf : ¬ k = 2 ∧ ¬ k = 4 ∧ ¬ k = 13 ∧ ¬ k = 14) : dG C K L R I (a_ui J x k v) := dG_ui h (sT_askf h.1 hx hk hf) (by unfold eD; omega)
end K3
section K4
variable {d n t C : Nat} {K L : Nat → Nat} {I I0 J J0 J1 J2 : Nat → Nat → Int32} {R : Nat → Nat → Nat} {P : Option Value → AH → Prop}
theorem okI {i : Int32} {n : Nat} (h0 : 0 ≤ i) (h : i.toInt < n) : a_ok i n := by
  unfold a_ok
  rw [not_or, Int32.not_lt, Nat.not_le]
  refine ⟨h0, ?_⟩
  have := Int32.le_iff_toInt_le.mp h0
  simp at this
  show i.toInt.toNat < n
  omega
theorem of_50 : Int32.ofNat 50 = 50 := rfl
theorem of_9 : Int32.ofNat 9 = 9 := rfl
def us (x k : Int32) : Int32 := (x.toUInt32 >>> (k.toUInt32 &&& Int32.toUInt32 31)).toInt32
def bcf (x : Int32) : Int32 :=
  let a := x - (us x 1 &&& 1431655765)
  let b := (a &&& 858993459) + (us a 2 &&& 858993459)
  let c := (b + us b 4) &&& 252645135
  let e := c + us c 8
  (e + us e 16) &&& 63
theorem sp_bitCount {a : Int32} {h : AH} : a_does (d + 1) 57 [.int a] h P ↔ P (some (.int (bcf a))) h := by
  rw [a_enter1 (M := a_m57) rfl (a_cat_int a_cat_nil) (show 1 ≤ 1 by decide)]
  show a_at _ (a_xm a_m57) 0 [some (.int a)] [] _ _ ↔ _
  simp only [q57_0, q57_1, q57_2, q57_3, q57_4, q57_7, q57_8, q57_9, q57_10, q57_11, q57_14, q57_15, q57_16, q57_17, q57_18, q57_21, q57_22, q57_23, q57_24, q57_25, q57_26, q57_27, q57_28, q57_29, q57_32, q57_33, q57_34, q57_35, q57_36, q57_38, q57_39, q57_40, q57_41, q57_42, q57_43, q57_45, q57_46, q57_47, q57_48, q57_49, q57_51, q57_52, as_nil, as_i, as_r, Nat.reduceAdd, Nat.reduceLeDiff, z_eq0, z_eq1, z_or, z_em, Classical.not_not, not_false_eq_true, not_true_eq_false, true_and, and_true, false_and, and_false, and_self, true_implies, false_implies, implies_true, Option.toList_some, Option.toList_none, List.cons_append, List.nil_append, Nat.add_eq_zero_iff, a_nl_i, a_nl_r, a_nl_n, true_or, or_true, eq_self]
  exact Iff.rfl
theorem bcf_8 {x : Int32} (h : 0 ≤ x ∧ x ≤ 255) : 0 ≤ bcf x ∧ bcf x ≤ 8 := by
  have h1 := Int32.le_iff_toInt_le.mp h.1
  have h2 := Int32.le_iff_toInt_le.mp h.2
  have h255 : (255 : Int32).toInt = 255 := rfl
  simp at h1
  have key : ∀ k : Fin 256, 0 ≤ bcf (Int32.ofInt k.val) ∧ bcf (Int32.ofInt k.val) ≤ 8 := by decide +kernel
  have e : x = Int32.ofInt ((⟨x.toInt.toNat, by omega⟩ : Fin 256).val : Nat) := by
    show x = Int32.ofInt (x.toInt.toNat : Nat)
    rw [show ((x.toInt.toNat : Nat) : Int) = x.toInt by omega, Int32.ofInt_toInt]
  rw [e]
  exact key _
def lf (g : Nat → Int32) (e : Int32) : Nat → Int32 → Int32 → Int32
  | 0, _, u => u
  | k + 1, s, u => if s < e ∧ s < 200 then lf g e k (s + 1) (u + bcf (g s.toNatClampNeg)) else u
theorem lf_rng {g : Nat → Int32} (hg : ∀ j, 0 ≤ g j ∧ g j ≤ 255) {e : Int32} : ∀ (k : Nat) (s u m : Int32), 0 ≤ s → s ≤ 300 → 0 ≤ m ∧ m ≤ 4 → e ≤ s + m → 0 ≤ u ∧ u ≤ 32 ∧ u + 8 * m ≤ 32 → 0 ≤ lf g e k s u ∧ lf g e k s u ≤ u + 8 * m := by
  intro k
  induction k with
  | zero => intro s u m h0 h1 h2 h3 h4; unfold lf; grind
  | succ k ih =>
    intro s u m h0 h1 h2 h3 h4
    unfold lf
    by_cases c : s < e ∧ s < 200
    · rw [if_pos c]
      have b := bcf_8 (hg s.toNatClampNeg)
      generalize bcf (g s.toNatClampNeg) = y at b
      have hm : 1 ≤ m := by clear ih hg; grind
      have := ih (s + 1) (u + y) (m - 1) (by clear ih hg; grind) (by clear ih hg; grind) (by clear ih hg; grind) (by clear ih hg; grind) (by clear ih hg; grind)
      generalize lf g e k (s + 1) (u + y) = z at this
      clear ih hg; grind
    · rw [if_neg c]
      clear ih hg; grind
theorem lk_lostFrom_5 (hS : cS C K L R) {f l : Int32} : ∀ k : Nat, ∀ s u : Int32, 0 ≤ s → 200 ≤ s.toInt + k → P (some (.int (lf (I (C + 3)) (f + l) k s u))) (n, t, K, L, I, R) → a_at (d + 1) (a_xm a_m56) 5 [some (a_rf (C + 1)), some (.int f), some (.int l), some (.int u), some (.int s)] [] (n, t, K, L, I, R) P := by
  intro k
  induction k with
  | zero =>
    intro s u h0 h1 hP
    have : ¬ s < 200 := by rw [Int32.not_lt, Int32.le_iff_toInt_le]; simp; omega
    rw [q56_5]
    simp only [q56_7, q56_8, q56_9, q56_10, q56_13, q56_15, q56_18, q56_40, q56_41, as_nil, as_i, as_r, Nat.reduceAdd, Nat.reduceLeDiff, z_eq0, z_eq1, z_or, z_em, Classical.not_not, not_false_eq_true, not_true_eq_false, true_and, and_true, false_and, and_false, and_self, true_implies, false_implies, implies_true, Option.toList_some, Option.toList_none, List.cons_append, List.nil_append, Nat.add_eq_zero_iff, a_nl_i, a_nl_r, a_nl_n, true_or, or_true, eq_self, a_isRA_22, a_isRA_24, a_isRA_32, a_isA_20, ok_4, ok_5, ok_6, ok_7, ok_9, ok_20, ok_21, ok_30, ok_50, ok_180, ok_192, ok_200]
    exact ⟨fun _ => hP, fun _ => ⟨fun _ => hP, fun h => absurd (Int32.not_le.mp h) this⟩⟩
  | succ k ih =>
    intro s u h0 h1 hP
    rw [q56_5]
    simp only [q56_7, q56_8, q56_9, q56_10, q56_13, q56_15, q56_18, q56_21, q56_22, q56_23, q56_26, q56_28, q56_29, q56_32, q56_33, q56_34, q56_37, q56_40, q56_41, k_1 hS, z_1, r_1_1 hS, k_3 hS, l_3 hS, z_3, as_nil, as_i, as_r, Nat.reduceAdd, Nat.reduceLeDiff, z_eq0, z_eq1, z_or, z_em, Classical.not_not, not_false_eq_true, not_true_eq_false, true_and, and_true, false_and, and_false, and_self, true_implies, false_implies, implies_true, Option.toList_some, Option.toList_none, List.cons_append, List.nil_append, Nat.add_eq_zero_iff, a_nl_i, a_nl_r, a_nl_n, true_or, or_true, eq_self, a_isRA_22, a_isRA_24, a_isRA_32, a_isA_20, ok_4, ok_5, ok_6, ok_7, ok_9, ok_20, ok_21, ok_30, ok_50, ok_180, ok_192, ok_200, sp_bitCount]
    unfold lf at hP
    refine ⟨fun h => ?_, fun h => ⟨fun h2 => ?_, fun h2 => ⟨by grind, ?_⟩⟩⟩
    · rw [if_neg (by grind)] at hP; exact hP
    · rw [if_neg (by grind)] at hP; exact hP
    · rw [if_pos (by grind)] at hP
      have h3 := Int32.lt_iff_toInt_lt.mp (Int32.not_le.mp h2)
      have h4 := Int32.le_iff_toInt_le.mp h0
      simp at h3 h4
      have h5 : (s + 1).toInt = s.toInt + 1 := by
        rw [Int32.toInt_add]
        simp [Int.bmod_def]
        omega
      exact ih (s + 1) _ (by grind) (by omega) hP
theorem ck_lostFrom (hS : cS C K L R) {f l : Int32} (h0 : 0 ≤ f) (hP : P (some (.int (lf (I (C + 3)) (f + l) 200 f 0))) (n, t, K, L, I, R)) : a_does (d + 2) 56 [a_rf (C + 1), .int f, .int l] (n, t, K, L, I, R) P := by
  rw [a_enter1 (M := a_m56) rfl (a_cat_rf (a_cat_int (a_cat_int a_cat_nil))) (show 3 ≤ 5 by decide)]
  show a_at _ (a_xm a_m56) 0 [some (a_rf (C + 1)), some (.int f), some (.int l), none, none] [] _ _
  simp only [q56_0, q56_1, q56_2, q56_3, as_nil, as_i, as_r, Nat.reduceAdd, Nat.reduceLeDiff, z_eq0, z_eq1, z_or, z_em, Classical.not_not, not_false_eq_true, not_true_eq_false, true_and, and_true, false_and, and_false, and_self, true_implies, false_implies, implies_true, Option.toList_some, Option.toList_none, List.cons_append, List.nil_append, Nat.add_eq_zero_iff, a_nl_i, a_nl_r, a_nl_n, true_or, or_true, eq_self, a_isRA_22, a_isRA_24, a_isRA_32, a_isA_20, ok_4, ok_5, ok_6, ok_7, ok_9, ok_20, ok_21, ok_30, ok_50, ok_180, ok_192, ok_200]
  have := Int32.le_iff_toInt_le.mp h0
  simp at this
  exact lk_lostFrom_5 hS 200 f 0 h0 (by omega) hP
def jn (g a b : Int32) : Int32 := if g.toInt = 2000 then a + b else if g.toInt = 2001 then a - b else if g.toInt = 2002 then a * b else if g.toInt = 2003 then (if a < b then 1 else 0) else if g.toInt = 2004 then (if a = b then 1 else 0) else if g.toInt = 2005 then (if b < a then 1 else 0) else if g.toInt = 2006 then a &&& b else if g.toInt = 2007 then a ||| b else if g.toInt = 2008 then a &&& (1 - b) else 0
theorem sp_joined {g a b : Int32} {h : AH} : a_does (d + 1) 65 [.int g, .int a, .int b] h P ↔ P (some (.int (jn g a b))) h := by
  rw [a_enter1 (M := a_m65) rfl (a_cat_int (a_cat_int (a_cat_int a_cat_nil))) (show 3 ≤ 3 by decide)]
  show a_at _ (a_xm a_m65) 0 [some (.int g), some (.int a), some (.int b)] [] _ _ ↔ _
  simp only [q65_0, q65_1, q65_52, q65_53, q65_54, q65_55, q65_56, q65_57, q65_58, q65_59, q65_60, q65_61, q65_62, q65_63, q65_64, q65_65, q65_66, q65_69, q65_70, q65_73, q65_74, q65_75, q65_76, q65_77, q65_80, q65_81, q65_84, q65_85, q65_86, q65_87, q65_88, q65_91, q65_92, q65_95, q65_96, q65_97, q65_98, q65_99, q65_100, q65_101, q65_102, q65_103, q65_104, q65_105, q65_106, q65_107, q65_108, q65_109, q65_110, q65_111, q65_112, a_sw, as_nil, as_i, as_r, Nat.reduceAdd, Nat.reduceLeDiff, z_eq0, z_eq1, z_or, z_em, Classical.not_not, not_false_eq_true, not_true_eq_false, true_and, and_true, false_and, and_false, and_self, true_implies, false_implies, implies_true, Option.toList_some, Option.toList_none, List.cons_append, List.nil_append, Nat.add_eq_zero_iff, a_nl_i, a_nl_r, a_nl_n, true_or, or_true, eq_self]
  unfold jn
  by_cases c0 : g.toInt = 2000
  · simp only [c0, if_true, if_false, true_implies, false_implies, true_and, and_true, not_true_eq_false, not_false_eq_true, Int.reduceEq]
    try grind
  · skip
    by_cases c1 : g.toInt = 2001
    · simp only [c0, c1, if_true, if_false, true_implies, false_implies, true_and, and_true, not_true_eq_false, not_false_eq_true, Int.reduceEq]
      try grind
    · skip
      by_cases c2 : g.toInt = 2002
      · simp only [c0, c1, c2, if_true, if_false, true_implies, false_implies, true_and, and_true, not_true_eq_false, not_false_eq_true, Int.reduceEq]
        try grind
      · skip
        by_cases c3 : g.toInt = 2003
        · simp only [c0, c1, c2, c3, if_true, if_false, true_implies, false_implies, true_and, and_true, not_true_eq_false, not_false_eq_true, Int.reduceEq]
          try grind
        · skip
          by_cases c4 : g.toInt = 2004
          · simp only [c0, c1, c2, c3, c4, if_true, if_false, true_implies, false_implies, true_and, and_true, not_true_eq_false, not_false_eq_true, Int.reduceEq]
            try grind
          · skip
            by_cases c5 : g.toInt = 2005
            · simp only [c0, c1, c2, c3, c4, c5, if_true, if_false, true_implies, false_implies, true_and, and_true, not_true_eq_false, not_false_eq_true, Int.reduceEq]
              try grind
            · skip
              by_cases c6 : g.toInt = 2006
              · simp only [c0, c1, c2, c3, c4, c5, c6, if_true, if_false, true_implies, false_implies, true_and, and_true, not_true_eq_false, not_false_eq_true, Int.reduceEq]
                try grind
              · skip
                by_cases c7 : g.toInt = 2007
                · simp only [c0, c1, c2, c3, c4, c5, c6, c7, if_true, if_false, true_implies, false_implies, true_and, and_true, not_true_eq_false, not_false_eq_true, Int.reduceEq]
                  try grind
                · skip
                  by_cases c8 : g.toInt = 2008
                  · simp only [c0, c1, c2, c3, c4, c5, c6, c7, c8, if_true, if_false, true_implies, false_implies, true_and, and_true, not_true_eq_false, not_false_eq_true, Int.reduceEq]
                    try grind
                  · simp only [c0, c1, c2, c3, c4, c5, c6, c7, c8, if_true, if_false, true_implies, false_implies, true_and, and_true, not_true_eq_false, not_false_eq_true]
def up1 (s : Nat → Int32) (k : Nat) (v : Int32) : Nat → Int32 := fun j => if j = k then v else s j
theorem up1_ui {a k : Nat} {v : Int32} : (a_ui J a k v) a = up1 (J a) k v := by funext j; simp [ui_ap, up1]
/-- what a text's signs come to: signs, facts, length; fuel, place, height, stack -/
def vs (cd fc : Nat → Int32) (ln : Int32) : Nat → Int32 → Int32 → (Nat → Int32) → Int32
  | 0, _, _, _ => 0
  | k + 1, i, o, s => if ln ≤ i then (if o ≤ 0 then 0 else s 0) else
    if cd i.toNatClampNeg = 2009 then (if o ≤ 0 then vs cd fc ln k (i + 1) o s else vs cd fc ln k (i + 1) o (up1 s (o - 1).toNatClampNeg (1 - s (o - 1).toNatClampNeg)))
    else if cd i.toNatClampNeg < 2000 then (if 50 ≤ o then vs cd fc ln k (i + 1) o s else vs cd fc ln k (i + 1) (o + 1) (up1 s o.toNatClampNeg (if 0 ≤ cd i.toNatClampNeg - 1000 ∧ cd i.toNatClampNeg - 1000 < 9 then fc (cd i.toNatClampNeg - 1000).toNatClampNeg else cd i.toNatClampNeg)))
    else if o ≤ 1 then vs cd fc ln k (i + 1) o s else vs cd fc ln k (i + 1) (o + (-1)) (up1 s (o + (-1) - 1).toNatClampNeg (jn (cd i.toNatClampNeg) (s (o + (-1) - 1).toNatClampNeg) (s (o + (-1)).toNatClampNeg)))
theorem cl_ne {i j : Int32} (h0 : 0 ≤ i) (h : i < j) : ¬ i.toNatClampNeg = j.toNatClampNeg := Nat.ne_of_lt (cl_lt h0 h)
/-- what lies above doesn't count -/
theorem vs_eq {cd fc : Nat → Int32} {ln : Int32} : ∀ (k : Nat) (i o : Int32) (s s' : Nat → Int32), 0 ≤ o → o ≤ 50 → (∀ j : Int32, 0 ≤ j → j < o → s j.toNatClampNeg = s' j.toNatClampNeg) → vs cd fc ln k i o s = vs cd fc ln k i o s' := by
  intro k
  induction k with
  | zero => intro i o s s' _ _ _; rfl
  | succ k ih =>
    intro i o s s' h0 h50 h
    unfold vs
    have hup : ∀ (p v : Int32), 0 ≤ p → ∀ j : Int32, 0 ≤ j → (¬ j = p → j < o) → up1 s p.toNatClampNeg v j.toNatClampNeg = up1 s' p.toNatClampNeg v j.toNatClampNeg := by
      intro p v hp j hj hjo
      unfold up1
      by_cases hjp : j = p
      · subst hjp; rw [if_pos rfl, if_pos rfl]
      · rw [if_neg (fun e => hjp (cl_inj hj hp e)), if_neg (fun e => hjp (cl_inj hj hp e))]
        exact h j hj (hjo hjp)
    by_cases c1 : ln ≤ i
    · rw [if_pos c1, if_pos c1]
      by_cases c2 : o ≤ 0
      · rw [if_pos c2, if_pos c2]
      · rw [if_neg c2, if_neg c2]
        exact h 0 (by decide) (by grind)
    · rw [if_neg c1, if_neg c1]
      by_cases c3 : cd i.toNatClampNeg = 2009
      · rw [if_pos c3, if_pos c3]
        by_cases c2 : o ≤ 0
        · rw [if_pos c2, if_pos c2]; exact ih _ _ _ _ h0 h50 h
        · rw [if_neg c2, if_neg c2, h (o - 1) (by grind) (by grind)]
          exact ih _ _ _ _ h0 h50 (fun j p q => hup (o - 1) _ (by grind) j p (fun _ => q))
      · rw [if_neg c3, if_neg c3]
        by_cases c4 : cd i.toNatClampNeg < 2000
        · rw [if_pos c4, if_pos c4]
          by_cases c5 : 50 ≤ o
          · rw [if_pos c5, if_pos c5]; exact ih _ _ _ _ h0 h50 h
          · rw [if_neg c5, if_neg c5]
            exact ih _ _ _ _ (by grind) (by grind) (fun j p q => hup o _ h0 j p (fun r => by grind))
        · rw [if_neg c4, if_neg c4]
          by_cases c6 : o ≤ 1
          · rw [if_pos c6, if_pos c6]; exact ih _ _ _ _ h0 h50 h
          · rw [if_neg c6, if_neg c6, h (o + (-1) - 1) (by grind) (by grind), h (o + (-1)) (by grind) (by grind)]
            exact ih _ _ _ _ (by grind) (by grind) (fun j p q => hup (o + (-1) - 1) _ (by grind) j p (fun _ => by grind))

theorem vs_fc {cd fc fc' : Nat → Int32} {ln : Int32} (h : ∀ j, j < 9 → fc j = fc' j) : ∀ (k : Nat) (i o : Int32) (s : Nat → Int32), vs cd fc ln k i o s = vs cd fc' ln k i o s := by
  intro k
  induction k with
  | zero => intro i o s; rfl
  | succ k ih =>
    intro i o s
    unfold vs
    have e : ∀ g : Int32, (if 0 ≤ g - 1000 ∧ g - 1000 < 9 then fc (g - 1000).toNatClampNeg else g) = (if 0 ≤ g - 1000 ∧ g - 1000 < 9 then fc' (g - 1000).toNatClampNeg else g) := by
      intro g
      by_cases c : 0 ≤ g - 1000 ∧ g - 1000 < 9
      · rw [if_pos c, if_pos c]
        exact h _ (show (g - 1000).toNatClampNeg < (9 : Int32).toNatClampNeg from cl_lt c.1 c.2)
      · rw [if_neg c, if_neg c]
    simp only [ih, e]
theorem lk_value_5 {x : Nat} (hx : K x = 11) (hT : cT C K L I R) {V : Int32} (hP : ∀ J, dC C K L R I J → J (C + 9) = I (C + 9) → P (some (.int V)) (n, t, K, L, J, R)) : ∀ (k : Nat) (i o : Int32) (J : Nat → Nat → Int32) (u v : Option Value), (L (R x 2) : Int) < i.toInt + k → 0 ≤ i ∧ i.toInt ≤ L (R x 2) → 0 ≤ o ∧ o ≤ 50 → dC C K L R I J → J (C + 9) = I (C + 9) → vs (I (R x 2)) (I (C + 9)) (Int32.ofNat (L (R x 2))) k i o (J (C + 10)) = V → a_at (d + 1) (a_xm a_m64) 5 [some (a_rf x), some (a_rf (C + 9)), some (a_rf (C + 10)), some (.int o), some (.int i), u, v] [] (n, t, K, L, J, R) P := by
  have hS := hT.s
  obtain ⟨x1, x2, x3, x4⟩ := hT.g_txt x hx
  have hlen : (Int32.ofNat (L (R x 2))).toInt = L (R x 2) := by
    rw [Int32.toInt_ofNat']
    simp [Int.bmod_def]
    omega
  have x0 : (x = 0) = False := eq_false (by omega)
  have y0 : (R x 2 = 0) = False := eq_false (by omega)
  intro k
  induction k with
  | zero =>
    intro i o J u v h1 h2 h3 h4 h5 h6
    omega
  | succ k ih =>
    intro i o J u v h1 h2 h3 h4 h5 h6
    have hc : ∀ j, J (R x 2) j = I (R x 2) j := fun j => h4.2 _ _ (by omega) (by omega)
    have hf : ∀ j, J (C + 9) j = I (C + 9) j := fun j => by rw [h5]
    have hi : ¬ Int32.ofNat (L (R x 2)) ≤ i → a_ok i (L (R x 2)) ∧ (L (R x 2) : Int) < (i + 1).toInt + k ∧ 0 ≤ i + 1 ∧ (i + 1).toInt ≤ L (R x 2) := by
      intro h
      have h7 := Int32.lt_iff_toInt_lt.mp (Int32.not_le.mp h)
      have h8 := Int32.le_iff_toInt_le.mp h2.1
      simp at h8
      rw [hlen] at h7
      have h9 : (i + 1).toInt = i.toInt + 1 := by
        rw [Int32.toInt_add]
        simp [Int.bmod_def]
        omega
      exact ⟨okI h2.1 (by omega), by omega, by rw [Int32.le_iff_toInt_le, h9]; simp; omega, by omega⟩
    rw [q64_5]
    simp only [q64_7, q64_8, q64_11, q64_12, q64_15, q64_16, q64_19, q64_21, q64_22, q64_24, q64_26, q64_29, q64_32, q64_33, q64_36, q64_37, q64_38, q64_39, q64_40, q64_41, q64_42, q64_43, q64_44, q64_45, q64_46, q64_47, q64_48, q64_51, q64_53, q64_56, q64_59, q64_60, q64_61, q64_64, q64_67, q64_68, q64_69, q64_70, q64_71, q64_73, q64_74, q64_75, q64_76, q64_77, q64_78, q64_79, q64_80, q64_81, q64_84, q64_85, q64_88, q64_89, q64_90, q64_91, q64_94, q64_96, q64_99, q64_100, q64_102, q64_103, q64_104, q64_106, q64_109, q64_111, q64_112, q64_113, q64_116, q64_117, q64_119, q64_120, q64_123, q64_125, q64_126, q64_129, q64_132, q64_135, q64_136, q64_139, q64_140, q64_141, q64_142, q64_145, q64_146, as_nil, as_i, as_r, Nat.reduceAdd, Nat.reduceLeDiff, z_eq0, z_eq1, z_or, z_em, Classical.not_not, not_false_eq_true, not_true_eq_false, true_and, and_true, false_and, and_false, and_self, true_implies, false_implies, implies_true, Option.toList_some, Option.toList_none, List.cons_append, List.nil_append, Nat.add_eq_zero_iff, a_nl_i, a_nl_r, a_nl_n, true_or, or_true, eq_self, a_isRA_22, a_isRA_24, a_isRA_32, a_isA_20, ok_4, ok_5, ok_6, ok_7, ok_9, ok_20, ok_21, ok_30, ok_50, ok_180, ok_192, ok_200, k_9 hS, l_9 hS, z_9, k_10 hS, l_10 hS, z_10, of_50, of_9, sp_joined, hx, x0, x3, y0, hc, hf]
    unfold vs at h6
    refine ⟨fun c1 => ?_, fun c1 => ?_⟩
    · rw [if_pos c1] at h6
      refine ⟨fun c2 => ?_, fun c2 => ⟨by decide, ?_⟩⟩
      · rw [if_pos c2] at h6; subst h6; exact hP J h4 h5
      · rw [if_neg c2] at h6; subst h6; exact hP J h4 h5
    · obtain ⟨e1, e2, e3⟩ := hi c1
      rw [if_neg c1] at h6
      have hput : ∀ (o2 p w : Int32) (u v : Option Value), 0 ≤ o2 ∧ o2 ≤ 50 → vs (I (R x 2)) (I (C + 9)) (Int32.ofNat (L (R x 2))) k (i + 1) o2 (up1 (J (C + 10)) p.toNatClampNeg w) = V → a_at (d + 1) (a_xm a_m64) 5 [some (a_rf x), some (a_rf (C + 9)), some (a_rf (C + 10)), some (.int o2), some (.int (i + 1)), u, v] [] (n, t, K, L, (a_ui J (C + 10) p.toNatClampNeg w), R) P := fun o2 p w u v q1 q2 => ih (i + 1) o2 _ u v e2 e3 q1 (dC_10 h4) (by rw [← h5]; funext j; simp [ui_ap]) (by rw [up1_ui]; exact q2)
      refine ⟨e1, fun c3 => ?_, fun c3 => ?_⟩
      · rw [if_neg c3] at h6
        refine ⟨fun c4 => ?_, fun c4 => ?_⟩
        · rw [if_pos c4] at h6
          refine ⟨fun c5 => ?_, fun c5 => ?_⟩
          · rw [if_pos c5] at h6
            exact ih _ _ _ _ _ e2 e3 h3 h4 h5 h6
          · rw [if_neg c5] at h6
            repeat' first
              | with_reducible apply And.intro
              | with_reducible intro _
              | with_reducible apply hput
            all_goals (clear ih hput hP hi; grind)
        · rw [if_neg c4] at h6
          refine ⟨fun c6 => ?_, fun c6 => ?_⟩
          · rw [if_pos c6] at h6
            exact ih _ _ _ _ _ e2 e3 h3 h4 h5 h6
          · rw [if_neg c6] at h6
            repeat' first
              | with_reducible apply And.intro
              | with_reducible intro _
              | with_reducible apply hput
            all_goals (clear ih hput hP hi; grind)
      · rw [if_pos c3] at h6
        refine ⟨fun c2 => ?_, fun c2 => ?_⟩
        · rw [if_pos c2] at h6
          exact ih _ _ _ _ _ e2 e3 h3 h4 h5 h6
        · rw [if_neg c2] at h6
          repeat' first
            | with_reducible apply And.intro
            | with_reducible intro _
            | with_reducible apply hput
          all_goals (clear ih hput hP hi; grind)
theorem ck_value {x : Nat} (hx : K x = 11) (hT : cT C K L I R) (hP : ∀ J, dC C K L R I J → J (C + 9) = I (C + 9) → P (some (.int (vs (I (R x 2)) (I (C + 9)) (Int32.ofNat (L (R x 2))) 60 0 0 (fun _ => 0)))) (n, t, K, L, J, R)) : a_does (d + 2) 64 [a_rf x, a_rf (C + 9), a_rf (C + 10)] (n, t, K, L, I, R) P := by
  have hS := hT.s
  have x4 := (hT.g_txt x hx).2.2.2
  have e := vs_eq (cd := I (R x 2)) (fc := I (C + 9)) (ln := Int32.ofNat (L (R x 2))) 60 0 0 (I (C + 10)) (fun _ => 0) (by decide) (by decide) (fun j p q => by grind)
  rw [a_enter1 (M := a_m64) rfl (a_cat_rf (a_cat_rf (a_cat_rf a_cat_nil))) (show 3 ≤ 7 by decide)]
  show a_at _ (a_xm a_m64) 0 [some (a_rf x), some (a_rf (C + 9)), some (a_rf (C + 10)), none, none, none, none] [] _ _
  simp only [q64_0, q64_1, q64_2, q64_3, as_nil, as_i, as_r, Nat.reduceAdd, Nat.reduceLeDiff, z_eq0, z_eq1, z_or, z_em, Classical.not_not, not_false_eq_true, not_true_eq_false, true_and, and_true, false_and, and_false, and_self, true_implies, false_implies, implies_true, Option.toList_some, Option.toList_none, List.cons_append, List.nil_append, Nat.add_eq_zero_iff, a_nl_i, a_nl_r, a_nl_n, true_or, or_true, eq_self, a_isRA_22, a_isRA_24, a_isRA_32, a_isA_20, ok_4, ok_5, ok_6, ok_7, ok_9, ok_20, ok_21, ok_30, ok_50, ok_180, ok_192, ok_200]
  exact lk_value_5 hx hT hP 60 0 0 I _ _ (by simp; omega) ⟨by decide, by simp⟩ (by decide) (dC_refl hT) rfl e
theorem cn_0 : Int32.toNatClampNeg 0 = 0 := rfl
theorem cn_1 : Int32.toNatClampNeg 1 = 1 := rfl
theorem cn_2 : Int32.toNatClampNeg 2 = 2 := rfl
theorem cn_3 : Int32.toNatClampNeg 3 = 3 := rfl
theorem cn_4 : Int32.toNatClampNeg 4 = 4 := rfl
theorem cn_5 : Int32.toNatClampNeg 5 = 5 := rfl
theorem cn_6 : Int32.toNatClampNeg 6 = 6 := rfl
theorem cn_7 : Int32.toNatClampNeg 7 = 7 := rfl
theorem cn_8 : Int32.toNatClampNeg 8 = 8 := rfl
/-- what a text is told of an ask -/
def lq (J : Nat → Nat → Int32) (a : Nat) (b s w : Int32) (j : Nat) : Int32 := if j = 8 then w else if j = 7 then b else if j = 6 then s else if j = 5 then (if 0 < J a 12 then J a 12 else 0) else if j = 4 then J a 9 else if j = 3 then J a 2 else if j = 2 then J a 1 else if j = 1 then J a 0 else if j = 0 then J a 5 else 0
theorem ck_learn {a : Nat} (ha : K a = 1) (hT : cT C K L I R) {b s w : Int32} (hP : ∀ J, dC C K L R I J → (∀ j, j < 9 → J (C + 9) j = lq I a b s w j) → P none (n, t, K, L, J, R)) : a_does (d + 2) 63 [a_rf (C + 7), a_rf a, .int b, .int s, .int w] (n, t, K, L, I, R) P := by
  have hS := hT.s
  have a1 := (hT.g_ask a ha).1
  have a0 : (a = 0) = False := eq_false (by omega)
  have a9 : (a = C + 9) = False := eq_false (by omega)
  rw [a_enter1 (M := a_m63) rfl (a_cat_rf (a_cat_rf (a_cat_int (a_cat_int (a_cat_int a_cat_nil))))) (show 5 ≤ 5 by decide)]
  show a_at _ (a_xm a_m63) 0 [some (a_rf (C + 7)), some (a_rf a), some (.int b), some (.int s), some (.int w)] [] _ _
  simp only [q63_0, q63_1, q63_4, q63_5, q63_6, q63_9, q63_10, q63_11, q63_14, q63_15, q63_16, q63_19, q63_20, q63_21, q63_24, q63_25, q63_26, q63_29, q63_30, q63_31, q63_34, q63_35, q63_36, q63_39, q63_40, q63_41, q63_44, q63_45, q63_46, q63_49, q63_50, q63_51, q63_54, q63_55, q63_56, q63_57, q63_60, q63_63, q63_64, q63_65, q63_68, q63_70, q63_71, q63_72, q63_73, q63_76, q63_78, q63_79, q63_80, q63_81, q63_84, q63_86, q63_88, q63_89, k_7 hS, z_7, r_7_1 hS, k_9 hS, l_9 hS, z_9, sp_max, as_nil, as_i, as_r, Nat.reduceAdd, Nat.reduceLeDiff, z_eq0, z_eq1, z_or, z_em, Classical.not_not, not_false_eq_true, not_true_eq_false, true_and, and_true, false_and, and_false, and_self, true_implies, false_implies, implies_true, Option.toList_some, Option.toList_none, List.cons_append, List.nil_append, Nat.add_eq_zero_iff, a_nl_i, a_nl_r, a_nl_n, true_or, or_true, eq_self, a_isRA_22, a_isRA_24, a_isRA_32, a_isA_20, ok_4, ok_5, ok_6, ok_7, ok_9, ok_20, ok_21, ok_30, ok_50, ok_180, ok_192, ok_200, ui_ap, cc_ne, cc_n0, cc_0n, Nat.reduceEqDiff, reduceIte, if_true, if_false, ha, a0, a9]
  repeat' first
    | with_reducible apply And.intro
    | with_reducible intro _
    | with_reducible apply hP
    | with_reducible apply dC_9
  all_goals first
    | exact dC_refl hT
    | decide
    | (simp only [ui_ap, true_and, lq, cn_0, cn_1, cn_2, cn_3, cn_4, cn_5, cn_6, cn_7, cn_8]; grind)
/-- the text that counts -/
def cf (C : Nat) (R : Nat → Nat → Nat) (I : Nat → Nat → Int32) (s : Int32) : Nat → Int32 → Nat → Nat
  | 0, _, f => f
  | k + 1, i, f => if I (C + 7) 3 ≤ i then f else cf C R I s k (i + 1) (if ¬ R (C + 8) i.toNatClampNeg = 0 ∧ I (R (C + 8) i.toNatClampNeg) 0 = 79 ∧ (I (R (C + 8) i.toNatClampNeg) 1 ≤ s ∧ s < I (R (C + 8) i.toNatClampNeg) 3) ∧ (f = 0 ∨ I f 1 ≤ I (R (C + 8) i.toNatClampNeg) 1) then R (C + 8) i.toNatClampNeg else f)
theorem lk_counting_4 (hT : cT C K L I R) {s : Int32} {V : Nat} (hP : (V = 0 ∨ K V = 11) → P (some (a_rf V)) (n, t, K, L, I, R)) : ∀ (k : Nat) (i : Int32) (f : Nat) (u : Option Value), (20 : Int) < i.toInt + k → 0 ≤ i ∧ i ≤ 20 → (f = 0 ∨ K f = 11) → cf C R I s k i f = V → a_at (d + 1) (a_xm a_m60) 4 [some (a_rf (C + 7)), some (.int s), some (a_rf f), some (.int i), u] [] (n, t, K, L, I, R) P := by
  have hS := hT.s
  have gX := hT.g_textsR
  have gc := hT.g_texts
  intro k
  induction k with
  | zero =>
    intro i f u h1 h2 hf h3
    have := Int32.le_iff_toInt_le.mp h2.2
    have h20 : (20 : Int32).toInt = 20 := rfl
    omega
  | succ k ih =>
    intro i f u h1 h2 hf h3
    have hi : i < 20 → (20 : Int) < (i + 1).toInt + k ∧ (0 ≤ i + 1 ∧ i + 1 ≤ 20) := by
      intro h
      have h7 := Int32.lt_iff_toInt_lt.mp h
      have h8 := Int32.le_iff_toInt_le.mp h2.1
      simp at h7 h8
      have h9 : (i + 1).toInt = i.toInt + 1 := by
        rw [Int32.toInt_add]
        simp [Int.bmod_def]
        omega
      exact ⟨by omega, by grind⟩
    have gx := gX i.toNatClampNeg
    unfold cf at h3
    rw [q60_4]
    simp only [q60_5, q60_6, q60_9, q60_12, q60_13, q60_14, k_7 hS, z_7, sp_textAt hS gX, as_nil, as_i, as_r, Nat.reduceAdd, Nat.reduceLeDiff, z_eq0, z_eq1, z_or, z_em, Classical.not_not, not_false_eq_true, not_true_eq_false, true_and, and_true, false_and, and_false, and_self, true_implies, false_implies, implies_true, Option.toList_some, Option.toList_none, List.cons_append, List.nil_append, Nat.add_eq_zero_iff, a_nl_i, a_nl_r, a_nl_n, true_or, or_true, eq_self, a_isRA_22, a_isRA_24, a_isRA_32, a_isA_20, ok_4, ok_5, ok_6, ok_7, ok_9, ok_20, ok_21, ok_30, ok_50, ok_180, ok_192, ok_200]
    refine ⟨fun c1 => ?_, fun c1 => ?_⟩
    · rw [if_pos c1] at h3
      subst h3
      simp only [q60_68, q60_69, as_nil, as_i, as_r, Nat.reduceAdd, Nat.reduceLeDiff, z_eq0, z_eq1, z_or, z_em, Classical.not_not, not_false_eq_true, not_true_eq_false, true_and, and_true, false_and, and_false, and_self, true_implies, false_implies, implies_true, Option.toList_some, Option.toList_none, List.cons_append, List.nil_append, Nat.add_eq_zero_iff, a_nl_i, a_nl_r, a_nl_n, true_or, or_true, eq_self, a_isRA_22, a_isRA_24, a_isRA_32, a_isA_20, ok_4, ok_5, ok_6, ok_7, ok_9, ok_20, ok_21, ok_30, ok_50, ok_180, ok_192, ok_200]
      exact hP hf
    · rw [if_neg c1] at h3
      have hlt : i < 20 := by clear ih hP hi gX; grind
      obtain ⟨e1, e2⟩ := hi hlt
      have hn : ∀ f2 u, (f2 = 0 ∨ K f2 = 11) → cf C R I s k (i + 1) f2 = V → a_at (d + 1) (a_xm a_m60) 62 [some (a_rf (C + 7)), some (.int s), some (a_rf f2), some (.int i), u] [] (n, t, K, L, I, R) P := fun f2 u q1 q2 => by
        simp only [q60_62, q60_65, as_nil, as_i, as_r, Nat.reduceAdd, Nat.reduceLeDiff, z_eq0, z_eq1, z_or, z_em, Classical.not_not, not_false_eq_true, not_true_eq_false, true_and, and_true, false_and, and_false, and_self, true_implies, false_implies, implies_true, Option.toList_some, Option.toList_none, List.cons_append, List.nil_append, Nat.add_eq_zero_iff, a_nl_i, a_nl_r, a_nl_n, true_or, or_true, eq_self, a_isRA_22, a_isRA_24, a_isRA_32, a_isA_20, ok_4, ok_5, ok_6, ok_7, ok_9, ok_20, ok_21, ok_30, ok_50, ok_180, ok_192, ok_200]
        exact ih (i + 1) f2 u e1 e2 q1 q2
      repeat' first
        | with_reducible apply And.intro
        | with_reducible intro _
        | with_reducible apply hn
        | simp only [q60_17, q60_19, q60_21, q60_24, q60_26, q60_29, q60_31, q60_34, q60_36, q60_37, q60_40, q60_43, q60_44, q60_47, q60_49, q60_52, q60_53, q60_56, q60_59, q60_61, k_7 hS, z_7, sp_inForce, as_nil, as_i, as_r, Nat.reduceAdd, Nat.reduceLeDiff, z_eq0, z_eq1, z_or, z_em, Classical.not_not, not_false_eq_true, not_true_eq_false, true_and, and_true, false_and, and_false, and_self, true_implies, false_implies, implies_true, Option.toList_some, Option.toList_none, List.cons_append, List.nil_append, Nat.add_eq_zero_iff, a_nl_i, a_nl_r, a_nl_n, true_or, or_true, eq_self, a_isRA_22, a_isRA_24, a_isRA_32, a_isA_20, ok_4, ok_5, ok_6, ok_7, ok_9, ok_20, ok_21, ok_30, ok_50, ok_180, ok_192, ok_200]
      all_goals (clear ih hn hP hi gX; grind)
theorem ck_counting (hT : cT C K L I R) {s : Int32} (hP : (cf C R I s 30 0 0 = 0 ∨ K (cf C R I s 30 0 0) = 11) → P (some (a_rf (cf C R I s 30 0 0))) (n, t, K, L, I, R)) : a_does (d + 2) 60 [a_rf (C + 7), .int s] (n, t, K, L, I, R) P := by
  have hS := hT.s
  rw [a_enter1 (M := a_m60) rfl (a_cat_rf (a_cat_int a_cat_nil)) (show 2 ≤ 5 by decide)]
  show a_at _ (a_xm a_m60) 0 [some (a_rf (C + 7)), some (.int s), none, none, none] [] _ _
  simp only [q60_0, q60_1, q60_2, q60_3, as_nil, as_i, as_r, Nat.reduceAdd, Nat.reduceLeDiff, z_eq0, z_eq1, z_or, z_em, Classical.not_not, not_false_eq_true, not_true_eq_false, true_and, and_true, false_and, and_false, and_self, true_implies, false_implies, implies_true, Option.toList_some, Option.toList_none, List.cons_append, List.nil_append, Nat.add_eq_zero_iff, a_nl_i, a_nl_r, a_nl_n, true_or, or_true, eq_self, a_isRA_22, a_isRA_24, a_isRA_32, a_isA_20, ok_4, ok_5, ok_6, ok_7, ok_9, ok_20, ok_21, ok_30, ok_50, ok_180, ok_192, ok_200]
  exact lk_counting_4 hT hP 30 0 0 _ (by decide) (by decide) (Or.inl rfl) rfl
/-- what rules say is owed for an ask that lost w hours -/
def ow (C : Nat) (L : Nat → Nat) (R : Nat → Nat → Nat) (I : Nat → Nat → Int32) (a : Nat) (w : Int32) : Int32 :=
  let x := cf C R I (I a 14) 30 0 0
  if x = 0 then w / 8 else
    let v := vs (I (R x 2)) (lq I a (I a 13) (I a 14) w) (Int32.ofNat (L (R x 2))) 60 0 0 (fun _ => 0)
    let y := if v < I a 2 then v else I a 2
    if 0 < y then y else 0
theorem ow_pos {a : Nat} {w : Int32} (h : ¬ cf C R I (I a 14) 30 0 0 = 0) : ow C L R I a w = (if 0 < (if vs (I (R (cf C R I (I a 14) 30 0 0) 2)) (lq I a (I a 13) (I a 14) w) (Int32.ofNat (L (R (cf C R I (I a 14) 30 0 0) 2))) 60 0 0 (fun _ => 0) < I a 2 then vs (I (R (cf C R I (I a 14) 30 0 0) 2)) (lq I a (I a 13) (I a 14) w) (Int32.ofNat (L (R (cf C R I (I a 14) 30 0 0) 2))) 60 0 0 (fun _ => 0) else I a 2) then (if vs (I (R (cf C R I (I a 14) 30 0 0) 2)) (lq I a (I a 13) (I a 14) w) (Int32.ofNat (L (R (cf C R I (I a 14) 30 0 0) 2))) 60 0 0 (fun _ => 0) < I a 2 then vs (I (R (cf C R I (I a 14) 30 0 0) 2)) (lq I a (I a 13) (I a 14) w) (Int32.ofNat (L (R (cf C R I (I a 14) 30 0 0) 2))) 60 0 0 (fun _ => 0) else I a 2) else 0) := by
  unfold ow
  simp only [h, if_false]
theorem ow_zero {a : Nat} {w : Int32} (h : cf C R I (I a 14) 30 0 0 = 0) : ow C L R I a w = w / 8 := by
  unfold ow
  simp only [h, if_true]
theorem ck_owed {a : Nat} (ha : K a = 1) (hT : cT C K L I R) {w : Int32} (hP : ∀ J, dC C K L R I J → P (some (.int (ow C L R I a w))) (n, t, K, L, J, R)) : a_does (d + 3) 59 [a_rf (C + 7), a_rf a, .int w] (n, t, K, L, I, R) P := by
  have hS := hT.s
  have ga := hT.g_ask a ha
  have a0 : (a = 0) = False := eq_false (by omega)
  rw [a_enter1 (M := a_m59) rfl (a_cat_rf (a_cat_rf (a_cat_int a_cat_nil))) (show 3 ≤ 4 by decide)]
  show a_at _ (a_xm a_m59) 0 [some (a_rf (C + 7)), some (a_rf a), some (.int w), none] [] _ _
  simp only [q59_0, q59_1, q59_2, q59_5, k_7 hS, z_7, as_nil, as_i, as_r, Nat.reduceAdd, Nat.reduceLeDiff, z_eq0, z_eq1, z_or, z_em, Classical.not_not, not_false_eq_true, not_true_eq_false, true_and, and_true, false_and, and_false, and_self, true_implies, false_implies, implies_true, Option.toList_some, Option.toList_none, List.cons_append, List.nil_append, Nat.add_eq_zero_iff, a_nl_i, a_nl_r, a_nl_n, true_or, or_true, eq_self, a_isRA_22, a_isRA_24, a_isRA_32, a_isA_20, ok_4, ok_5, ok_6, ok_7, ok_9, ok_20, ok_21, ok_30, ok_50, ok_180, ok_192, ok_200, ha, a0]
  refine ck_counting hT (fun hx => ?_)
  simp only [q59_8, q59_9, q59_10, q59_13, q59_14, q59_16, q59_17, as_nil, as_i, as_r, Nat.reduceAdd, Nat.reduceLeDiff, z_eq0, z_eq1, z_or, z_em, Classical.not_not, not_false_eq_true, not_true_eq_false, true_and, and_true, false_and, and_false, and_self, true_implies, false_implies, implies_true, Option.toList_some, Option.toList_none, List.cons_append, List.nil_append, Nat.add_eq_zero_iff, a_nl_i, a_nl_r, a_nl_n, true_or, or_true, eq_self, a_isRA_22, a_isRA_24, a_isRA_32, a_isA_20, ok_4, ok_5, ok_6, ok_7, ok_9, ok_20, ok_21, ok_30, ok_50, ok_180, ok_192, ok_200, ha, a0]
  have hz : cf C R I (I a 14) 30 0 0 = 0 → ow C L R I a w = w / 8 := fun h => by unfold ow; simp only [h, if_true]
  refine ⟨fun h => ?_, fun h => ?_⟩
  · have := hP I (dC_refl hT)
    rw [hz h] at this
    first
      | exact this
      | exact ⟨by decide, this⟩
  · simp only [q59_18, q59_19, q59_20, q59_21, q59_24, q59_25, q59_28, q59_29, k_7 hS, z_7, as_nil, as_i, as_r, Nat.reduceAdd, Nat.reduceLeDiff, z_eq0, z_eq1, z_or, z_em, Classical.not_not, not_false_eq_true, not_true_eq_false, true_and, and_true, false_and, and_false, and_self, true_implies, false_implies, implies_true, Option.toList_some, Option.toList_none, List.cons_append, List.nil_append, Nat.add_eq_zero_iff, a_nl_i, a_nl_r, a_nl_n, true_or, or_true, eq_self, a_isRA_22, a_isRA_24, a_isRA_32, a_isA_20, ok_4, ok_5, ok_6, ok_7, ok_9, ok_20, ok_21, ok_30, ok_50, ok_180, ok_192, ok_200, ha, a0]
    refine ck_learn ha hT (fun J c1 e1 => ?_)
    have e2 : J a 2 = I a 2 := c1.2 _ _ (by omega) (by omega)
    have hk := hx.resolve_left h
    have gx := hT.g_txt _ hk
    have hcode : J (R (cf C R I (I a 14) 30 0 0) 2) = I (R (cf C R I (I a 14) 30 0 0) 2) := by
      funext j
      exact c1.2 _ _ (by omega) (by omega)
    simp only [q59_32, q59_33, q59_34, q59_37, q59_38, q59_39, q59_42, q59_43, q59_46, k_7 hS, z_7, r_7_1 hS, k_9 hS, l_9 hS, z_9, r_7_2 hS, k_10 hS, l_10 hS, z_10, as_nil, as_i, as_r, Nat.reduceAdd, Nat.reduceLeDiff, z_eq0, z_eq1, z_or, z_em, Classical.not_not, not_false_eq_true, not_true_eq_false, true_and, and_true, false_and, and_false, and_self, true_implies, false_implies, implies_true, Option.toList_some, Option.toList_none, List.cons_append, List.nil_append, Nat.add_eq_zero_iff, a_nl_i, a_nl_r, a_nl_n, true_or, or_true, eq_self, a_isRA_22, a_isRA_24, a_isRA_32, a_isA_20, ok_4, ok_5, ok_6, ok_7, ok_9, ok_20, ok_21, ok_30, ok_50, ok_180, ok_192, ok_200, ha, a0, e2]
    refine ⟨⟨h, hk⟩, ck_value hk c1.1 (fun J2 c2 e3 => ?_)⟩
    simp only [q59_49, q59_52, q59_55, sp_min, sp_max, as_nil, as_i, as_r, Nat.reduceAdd, Nat.reduceLeDiff, z_eq0, z_eq1, z_or, z_em, Classical.not_not, not_false_eq_true, not_true_eq_false, true_and, and_true, false_and, and_false, and_self, true_implies, false_implies, implies_true, Option.toList_some, Option.toList_none, List.cons_append, List.nil_append, Nat.add_eq_zero_iff, a_nl_i, a_nl_r, a_nl_n, true_or, or_true, eq_self, a_isRA_22, a_isRA_24, a_isRA_32, a_isA_20, ok_4, ok_5, ok_6, ok_7, ok_9, ok_20, ok_21, ok_30, ok_50, ok_180, ok_192, ok_200]
    rw [hcode, vs_fc e1]
    have := hP J2 (dC_C c1 c2)
    rw [ow_pos h] at this
    revert this
    generalize vs (I (R (cf C R I (I a 14) 30 0 0) 2)) (lq I a (I a 13) (I a 14) w) (Int32.ofNat (L (R (cf C R I (I a 14) 30 0 0) 2))) 60 0 0 (fun _ => 0) = y
    intro this
    repeat' first
      | with_reducible apply And.intro
      | with_reducible intro _
    all_goals (clear hP hz; grind)
theorem cf_C (h : dC C K L R I J) (hT : cT C K L I R) {s : Int32} : ∀ (k : Nat) (i : Int32) (f : Nat), (f = 0 ∨ K f = 11) → cf C R J s k i f = cf C R I s k i f := by
  have hS := hT.s
  have e1 : J (C + 7) 3 = I (C + 7) 3 := h.2 _ _ (by omega) (by omega)
  have e2 : ∀ x j, K x = 11 → J x j = I x j := fun x j hx => by
    have := (hT.g_txt x hx).1
    exact h.2 _ _ (by omega) (by omega)
  intro k
  induction k with
  | zero => intro i f _; rfl
  | succ k ih =>
    intro i f hf
    unfold cf
    rw [e1]
    have hX := hT.g_textsR i.toNatClampNeg
    generalize R (C + 8) i.toNatClampNeg = x at hX
    have ec : (¬ x = 0 ∧ J x 0 = 79 ∧ (J x 1 ≤ s ∧ s < J x 3) ∧ (f = 0 ∨ J f 1 ≤ J x 1)) = (¬ x = 0 ∧ I x 0 = 79 ∧ (I x 1 ≤ s ∧ s < I x 3) ∧ (f = 0 ∨ I f 1 ≤ I x 1)) := by
      rcases hX with hX | hX
      · simp [hX]
      · rw [e2 x 0 hX, e2 x 1 hX, e2 x 3 hX]
        rcases hf with hf | hf
        · simp [hf]
        · rw [e2 f 1 hf]
    simp only [ec]
    rw [ih _ _ (by split; rename_i q; exact Or.inr (hX.resolve_left q.1); exact hf)]
theorem cf_11 (hT : cT C K L I R) {s : Int32} : ∀ (k : Nat) (i : Int32) (f : Nat), (f = 0 ∨ K f = 11) → cf C R I s k i f = 0 ∨ K (cf C R I s k i f) = 11 := by
  have hS := hT.s
  intro k
  induction k with
  | zero => intro i f hf; exact hf
  | succ k ih =>
    intro i f hf
    unfold cf
    split
    · exact hf
    · refine ih _ _ ?_
      split
      · rename_i q
        exact Or.inr ((hT.g_textsR i.toNatClampNeg).resolve_left q.1)
      · exact hf
theorem ow_C (h : dC C K L R I J) {a : Nat} (ha : K a = 1) {w : Int32} (hT : cT C K L I R) : ow C L R J a w = ow C L R I a w := by
  have hS := hT.s
  have a1 := (hT.g_ask a ha).1
  have e : ∀ j, J a j = I a j := fun j => h.2 _ _ (by omega) (by omega)
  have e2 : ∀ b s w, lq J a b s w = lq I a b s w := fun b s w => by
    funext j
    simp only [lq, e]
  have e3 := cf_C h hT (s := I a 14) 30 0 0 (Or.inl rfl)
  have e4 := cf_11 hT (s := I a 14) 30 0 0 (Or.inl rfl)
  simp only [ow, e, e3, e2]
  generalize cf C R I (I a 14) 30 0 0 = x at e4
  rcases e4 with e4 | e4
  · simp [e4]
  · have x1 := hT.g_txt x e4
    have : J (R x 2) = I (R x 2) := by funext j; exact h.2 _ _ (by omega) (by omega)
    rw [this]
/-- hours lost of an ask's place -/
def lw (C : Nat) (I : Nat → Nat → Int32) (a : Nat) : Int32 := if 0 ≤ I a 13 then lf (I (C + 3)) (I a 14 + I a 2) 200 (I a 14) 0 else 0
def hw (C : Nat) (L : Nat → Nat) (R : Nat → Nat → Nat) (I : Nat → Nat → Int32) (a : Nat) : Int32 := if 0 ≤ I a 13 then ow C L R I a (lw C I a) else 0
theorem ck_loss {a : Nat} (ha : K a = 1) (hT : cT C K L I R) (hP : P (some (.int (lw C I a))) (n, t, K, L, I, R)) : a_does (d + 3) 54 [a_rf (C + 14), a_rf a] (n, t, K, L, I, R) P := by
  have hS := hT.s
  have ga := hT.g_ask a ha
  have a0 : (a = 0) = False := eq_false (by omega)
  rw [a_enter1 (M := a_m54) rfl (a_cat_rf (a_cat_rf a_cat_nil)) (show 2 ≤ 2 by decide)]
  show a_at _ (a_xm a_m54) 0 [some (a_rf (C + 14)), some (a_rf a)] [] _ _
  simp only [q54_0, q54_1, q54_4, q54_7, q54_8, q54_11, q54_12, q54_15, q54_16, q54_19, q54_22, q54_25, q54_26, k_14 hS, z_14, r_14_0 hS, k_1 hS, z_1, sp_isPlaced, as_nil, as_i, as_r, Nat.reduceAdd, Nat.reduceLeDiff, z_eq0, z_eq1, z_or, z_em, Classical.not_not, not_false_eq_true, not_true_eq_false, true_and, and_true, false_and, and_false, and_self, true_implies, false_implies, implies_true, Option.toList_some, Option.toList_none, List.cons_append, List.nil_append, Nat.add_eq_zero_iff, a_nl_i, a_nl_r, a_nl_n, true_or, or_true, eq_self, a_isRA_22, a_isRA_24, a_isRA_32, a_isA_20, ok_4, ok_5, ok_6, ok_7, ok_9, ok_20, ok_21, ok_30, ok_50, ok_180, ok_192, ok_200, ha, a0]
  unfold lw at hP
  refine ⟨fun h => ?_, fun h => ?_⟩
  · first
      | (rw [if_neg h] at hP; exact hP)
      | (rw [if_pos h] at hP; refine ck_lostFrom hS (ga.2.2.2 h).1 ?_; simp only [q54_0, q54_1, q54_4, q54_7, q54_8, q54_11, q54_12, q54_15, q54_16, q54_19, q54_22, q54_25, q54_26, k_14 hS, z_14, r_14_0 hS, k_1 hS, z_1, sp_isPlaced, as_nil, as_i, as_r, Nat.reduceAdd, Nat.reduceLeDiff, z_eq0, z_eq1, z_or, z_em, Classical.not_not, not_false_eq_true, not_true_eq_false, true_and, and_true, false_and, and_false, and_self, true_implies, false_implies, implies_true, Option.toList_some, Option.toList_none, List.cons_append, List.nil_append, Nat.add_eq_zero_iff, a_nl_i, a_nl_r, a_nl_n, true_or, or_true, eq_self, a_isRA_22, a_isRA_24, a_isRA_32, a_isA_20, ok_4, ok_5, ok_6, ok_7, ok_9, ok_20, ok_21, ok_30, ok_50, ok_180, ok_192, ok_200]; exact hP)
  · first
      | (rw [if_neg h] at hP; exact hP)
      | (rw [if_pos h] at hP; refine ck_lostFrom hS (ga.2.2.2 h).1 ?_; simp only [q54_0, q54_1, q54_4, q54_7, q54_8, q54_11, q54_12, q54_15, q54_16, q54_19, q54_22, q54_25, q54_26, k_14 hS, z_14, r_14_0 hS, k_1 hS, z_1, sp_isPlaced, as_nil, as_i, as_r, Nat.reduceAdd, Nat.reduceLeDiff, z_eq0, z_eq1, z_or, z_em, Classical.not_not, not_false_eq_true, not_true_eq_false, true_and, and_true, false_and, and_false, and_self, true_implies, false_implies, implies_true, Option.toList_some, Option.toList_none, List.cons_append, List.nil_append, Nat.add_eq_zero_iff, a_nl_i, a_nl_r, a_nl_n, true_or, or_true, eq_self, a_isRA_22, a_isRA_24, a_isRA_32, a_isA_20, ok_4, ok_5, ok_6, ok_7, ok_9, ok_20, ok_21, ok_30, ok_50, ok_180, ok_192, ok_200]; exact hP)
theorem ck_hallOwed {a : Nat} (ha : K a = 1) (hT : cT C K L I R) (hP : ∀ J, dC C K L R I J → P (some (.int (hw C L R I a))) (n, t, K, L, J, R)) : a_does (d + 4) 58 [a_rf (C + 14), a_rf a] (n, t, K, L, I, R) P := by
  have hS := hT.s
  have ga := hT.g_ask a ha
  have a0 : (a = 0) = False := eq_false (by omega)
  rw [a_enter1 (M := a_m58) rfl (a_cat_rf (a_cat_rf a_cat_nil)) (show 2 ≤ 2 by decide)]
  show a_at _ (a_xm a_m58) 0 [some (a_rf (C + 14)), some (a_rf a)] [] _ _
  simp only [q58_0, q58_1, q58_4, k_14 hS, z_14, sp_isPlaced, as_nil, as_i, as_r, Nat.reduceAdd, Nat.reduceLeDiff, z_eq0, z_eq1, z_or, z_em, Classical.not_not, not_false_eq_true, not_true_eq_false, true_and, and_true, false_and, and_false, and_self, true_implies, false_implies, implies_true, Option.toList_some, Option.toList_none, List.cons_append, List.nil_append, Nat.add_eq_zero_iff, a_nl_i, a_nl_r, a_nl_n, true_or, or_true, eq_self, a_isRA_22, a_isRA_24, a_isRA_32, a_isA_20, ok_4, ok_5, ok_6, ok_7, ok_9, ok_20, ok_21, ok_30, ok_50, ok_180, ok_192, ok_200, ha, a0]
  unfold hw at hP
  refine ⟨fun h => ?_, fun h => ?_⟩
  · rw [if_neg h] at hP
    simp only [q58_20, q58_23, q58_24, as_nil, as_i, as_r, Nat.reduceAdd, Nat.reduceLeDiff, z_eq0, z_eq1, z_or, z_em, Classical.not_not, not_false_eq_true, not_true_eq_false, true_and, and_true, false_and, and_false, and_self, true_implies, false_implies, implies_true, Option.toList_some, Option.toList_none, List.cons_append, List.nil_append, Nat.add_eq_zero_iff, a_nl_i, a_nl_r, a_nl_n, true_or, or_true, eq_self, a_isRA_22, a_isRA_24, a_isRA_32, a_isA_20, ok_4, ok_5, ok_6, ok_7, ok_9, ok_20, ok_21, ok_30, ok_50, ok_180, ok_192, ok_200]
    exact hP I (dC_refl hT)
  · have h : 0 ≤ I a 13 := by grind
    rw [if_pos h] at hP
    simp only [q58_7, q58_8, q58_11, q58_12, q58_13, q58_14, k_14 hS, z_14, r_14_1 hS, k_7 hS, z_7, as_nil, as_i, as_r, Nat.reduceAdd, Nat.reduceLeDiff, z_eq0, z_eq1, z_or, z_em, Classical.not_not, not_false_eq_true, not_true_eq_false, true_and, and_true, false_and, and_false, and_self, true_implies, false_implies, implies_true, Option.toList_some, Option.toList_none, List.cons_append, List.nil_append, Nat.add_eq_zero_iff, a_nl_i, a_nl_r, a_nl_n, true_or, or_true, eq_self, a_isRA_22, a_isRA_24, a_isRA_32, a_isA_20, ok_4, ok_5, ok_6, ok_7, ok_9, ok_20, ok_21, ok_30, ok_50, ok_180, ok_192, ok_200, ha, a0]
    refine ck_loss ha hT ?_
    simp only [q58_0, q58_1, q58_4, q58_7, q58_8, q58_11, q58_12, q58_13, q58_14, q58_17, q58_20, q58_23, q58_24, k_14 hS, z_14, r_14_1 hS, k_7 hS, z_7, sp_isPlaced, as_nil, as_i, as_r, Nat.reduceAdd, Nat.reduceLeDiff, z_eq0, z_eq1, z_or, z_em, Classical.not_not, not_false_eq_true, not_true_eq_false, true_and, and_true, false_and, and_false, and_self, true_implies, false_implies, implies_true, Option.toList_some, Option.toList_none, List.cons_append, List.nil_append, Nat.add_eq_zero_iff, a_nl_i, a_nl_r, a_nl_n, true_or, or_true, eq_self, a_isRA_22, a_isRA_24, a_isRA_32, a_isA_20, ok_4, ok_5, ok_6, ok_7, ok_9, ok_20, ok_21, ok_30, ok_50, ok_180, ok_192, ok_200, ha, a0]
    refine ck_owed ha hT (fun J h2 => ?_)
    simp only [q58_0, q58_1, q58_4, q58_7, q58_8, q58_11, q58_12, q58_13, q58_14, q58_17, q58_20, q58_23, q58_24, k_14 hS, z_14, r_14_1 hS, k_7 hS, z_7, sp_isPlaced, as_nil, as_i, as_r, Nat.reduceAdd, Nat.reduceLeDiff, z_eq0, z_eq1, z_or, z_em, Classical.not_not, not_false_eq_true, not_true_eq_false, true_and, and_true, false_and, and_false, and_self, true_implies, false_implies, implies_true, Option.toList_some, Option.toList_none, List.cons_append, List.nil_append, Nat.add_eq_zero_iff, a_nl_i, a_nl_r, a_nl_n, true_or, or_true, eq_self, a_isRA_22, a_isRA_24, a_isRA_32, a_isA_20, ok_4, ok_5, ok_6, ok_7, ok_9, ok_20, ok_21, ok_30, ok_50, ok_180, ok_192, ok_200, ha, a0]
    exact hP J h2
theorem div8 {w : Int32} (h : 0 ≤ w ∧ w ≤ 32) : 0 ≤ w / 8 ∧ w / 8 ≤ 4 := by
  have h1 := Int32.le_iff_toInt_le.mp h.1
  have h2 := Int32.le_iff_toInt_le.mp h.2
  have h32 : (32 : Int32).toInt = 32 := rfl
  have h8 : (8 : Int32).toInt = 8 := rfl
  have h4 : (4 : Int32).toInt = 4 := rfl
  simp at h1
  rw [Int32.le_iff_toInt_le, Int32.le_iff_toInt_le, ti_div h.1 (by decide), h8, h4]
  simp
  omega
theorem hw_rng {a : Nat} (ha : K a = 1) (hT : cT C K L I R) : 0 ≤ hw C L R I a ∧ hw C L R I a ≤ 4 := by
  have hS := hT.s
  have ga := hT.g_ask a ha
  unfold hw
  split
  · rename_i hb
    have hl : 0 ≤ lw C I a ∧ lw C I a ≤ 32 := by
      unfold lw
      rw [if_pos hb]
      have := lf_rng hT.g_lost (e := I a 14 + I a 2) 200 (I a 14) 0 (I a 2) (ga.2.2.2 hb).1 (by clear hT; grind) (by clear hT; grind) (Int32.le_refl _) (by clear hT; grind)
      generalize lf (I (C + 3)) (I a 14 + I a 2) 200 (I a 14) 0 = z at this
      clear hT; grind
    by_cases h : cf C R I (I a 14) 30 0 0 = 0
    · rw [ow_zero h]
      exact div8 hl
    · rw [ow_pos h]
      generalize vs (I (R (cf C R I (I a 14) 30 0 0) 2)) (lq I a (I a 13) (I a 14) (lw C I a)) (Int32.ofNat (L (R (cf C R I (I a 14) 30 0 0) 2))) 60 0 0 (fun _ => 0) = y
      clear hT; grind
  · decide
theorem hw_C (h : dC C K L R I J) {a : Nat} (ha : K a = 1) (hT : cT C K L I R) : hw C L R J a = hw C L R I a := by
  have hS := hT.s
  have a1 := (hT.g_ask a ha).1
  have e : ∀ j, J a j = I a j := fun j => h.2 _ _ (by omega) (by omega)
  have e1 : J (C + 3) = I (C + 3) := by funext j; exact h.2 _ _ (by omega) (by omega)
  have e2 : lw C J a = lw C I a := by unfold lw; rw [e 13, e 14, e 2, e1]
  unfold hw
  rw [e 13, e2, ow_C h ha hT]
end K4
end
section
/-! the class: what changes nothing -/
section K5
variable {d n t C : Nat} {K L : Nat → Nat} {I I0 J J0 J1 J2 : Nat → Nat → Int32} {R : Nat → Nat → Nat} {P : Option Value → AH → Prop}
theorem ck_isOthers {b : Nat} (hb : K b = 3) (hT : cT C K L I R) {s k : Int32} (hs : 0 ≤ s ∧ s < 200) (hP : ∀ v, P (some (.int v)) (n, t, K, L, I, R)) : a_does (d + 1) 105 [a_rf b, .int s, .int k] (n, t, K, L, I, R) P := by
  have hS := hT.s
  obtain ⟨b1, ⟨w1, w2, w3⟩, ⟨s1, s2, s3⟩, ⟨h1, h2, h3⟩, ⟨p1, p2, p3⟩, q1⟩ := hT.g_bnc b hb
  have b0 : (b = 0) = False := eq_false (by omega)
  have w0 : (R b 2 = 0) = False := eq_false (by omega)
  have s0 : (R b 3 = 0) = False := eq_false (by omega)
  have h0 : (R b 4 = 0) = False := eq_false (by omega)
  have p0 : (R b 5 = 0) = False := eq_false (by omega)
  rw [a_enter1 (M := a_m105) rfl (a_cat_rf (a_cat_int (a_cat_int a_cat_nil))) (show 3 ≤ 3 by decide)]
  show a_at _ (a_xm a_m105) 0 [some (a_rf b), some (.int s), some (.int k)] [] _ _
  repeat' first
    | with_reducible apply And.intro
    | with_reducible assumption
    | with_reducible intro _
    | with_reducible apply hP
    | simp only [q105_0, q105_1, q105_4, q105_5, q105_6, q105_8, q105_11, q105_12, q105_15, q105_16, q105_17, q105_18, q105_21, q105_22, q105_25, q105_26, as_nil, as_i, as_r, Nat.reduceAdd, Nat.reduceLeDiff, z_eq0, z_eq1, z_or, z_em, Classical.not_not, not_false_eq_true, not_true_eq_false, true_and, and_true, false_and, and_false, and_self, true_implies, false_implies, implies_true, Option.toList_some, Option.toList_none, List.cons_append, List.nil_append, Nat.add_eq_zero_iff, a_nl_i, a_nl_r, a_nl_n, true_or, or_true, eq_self, a_isRA_22, a_isRA_24, a_isRA_32, a_isA_20, ok_4, ok_5, ok_6, ok_7, ok_9, ok_20, ok_21, ok_30, ok_50, ok_180, ok_192, ok_200, hb, b0, w0, w2, w3, s0, s2, s3, h0, h2, h3, p0, p2]
  all_goals grind [ui_ap]
theorem lk_standing_6 {b : Nat} (hb : K b = 3) (hT : cT C K L I R) {f e k : Int32} (he : e ≤ 199) (hP : ∀ v, P (some (.int v)) (n, t, K, L, I, R)) : ∀ s : Int32, s ≤ 200 → ∀ o, 0 ≤ s → a_at d (a_xm a_m109) 6 [some (a_rf b), some (.int f), some (.int e), some (.int k), some (.int o), some (.int s)] [] (n, t, K, L, I, R) P := by
  have hS := hT.s
  obtain ⟨b1, ⟨w1, w2, w3⟩, ⟨s1, s2, s3⟩, ⟨h1, h2, h3⟩, ⟨p1, p2, p3⟩, q1⟩ := hT.g_bnc b hb
  have b0 : (b = 0) = False := eq_false (by omega)
  have w0 : (R b 2 = 0) = False := eq_false (by omega)
  have s0 : (R b 3 = 0) = False := eq_false (by omega)
  have h0 : (R b 4 = 0) = False := eq_false (by omega)
  have p0 : (R b 5 = 0) = False := eq_false (by omega)
  refine up_ind 200 (fun s hk ih => ?_)
  intro o q0
  rw [q109_6]
  repeat' first
    | with_reducible apply And.intro
    | with_reducible assumption
    | with_reducible intro _
    | with_reducible apply hP
    | with_reducible apply ih
    | simp only [q109_8, q109_9, q109_12, q109_13, q109_16, q109_18, q109_19, q109_20, q109_23, q109_25, q109_26, q109_29, q109_31, q109_32, q109_33, q109_35, q109_38, q109_41, q109_43, as_nil, as_i, as_r, Nat.reduceAdd, Nat.reduceLeDiff, z_eq0, z_eq1, z_or, z_em, Classical.not_not, not_false_eq_true, not_true_eq_false, true_and, and_true, false_and, and_false, and_self, true_implies, false_implies, implies_true, Option.toList_some, Option.toList_none, List.cons_append, List.nil_append, Nat.add_eq_zero_iff, a_nl_i, a_nl_r, a_nl_n, true_or, or_true, eq_self, a_isRA_22, a_isRA_24, a_isRA_32, a_isA_20, ok_4, ok_5, ok_6, ok_7, ok_9, ok_20, ok_21, ok_30, ok_50, ok_180, ok_192, ok_200, hb, b0, w0, w2, w3, s0, s2, s3, h0, h2, h3, p0, p2]
  all_goals grind [ui_ap]
theorem ck_standing {b : Nat} (hb : K b = 3) (hT : cT C K L I R) {f e k : Int32} (hf : 0 ≤ f ∧ f ≤ 200) (he : e ≤ 199) (hP : ∀ v, P (some (.int v)) (n, t, K, L, I, R)) : a_does (d + 1) 109 [a_rf b, .int f, .int e, .int k] (n, t, K, L, I, R) P := by
  rw [a_enter1 (M := a_m109) rfl (a_cat_rf (a_cat_int (a_cat_int (a_cat_int a_cat_nil)))) (show 4 ≤ 6 by decide)]
  show a_at _ (a_xm a_m109) 0 [some (a_rf b), some (.int f), some (.int e), some (.int k), none, none] [] _ _
  simp only [q109_0, q109_1, q109_3, q109_4, as_nil, as_i, as_r, Nat.reduceAdd, Nat.reduceLeDiff, z_eq0, z_eq1, z_or, z_em, Classical.not_not, not_false_eq_true, not_true_eq_false, true_and, and_true, false_and, and_false, and_self, true_implies, false_implies, implies_true, Option.toList_some, Option.toList_none, List.cons_append, List.nil_append, Nat.add_eq_zero_iff, a_nl_i, a_nl_r, a_nl_n, true_or, or_true, eq_self, a_isRA_22, a_isRA_24, a_isRA_32, a_isA_20, ok_4, ok_5, ok_6, ok_7, ok_9, ok_20, ok_21, ok_30, ok_50, ok_180, ok_192, ok_200]
  exact lk_standing_6 hb hT he hP f hf.2 0 hf.1
theorem cp_settle {b : Nat} (hb : K b = 3) (hT : cT C K L I R) {s k g : Int32} (hs : 0 ≤ s ∧ s < 200) (hP : P none (n, t, K, L, (a_ui (a_ui I (R b 2) s.toNatClampNeg k) (R b 3) s.toNatClampNeg g), R)) : a_does (d + 1) 52 [a_rf b, .int s, .int k, .int g] (n, t, K, L, I, R) P := by
  have hS := hT.s
  obtain ⟨b1, ⟨w1, w2, w3⟩, ⟨s1, s2, s3⟩, ⟨h1, h2, h3⟩, ⟨p1, p2, p3⟩, q1⟩ := hT.g_bnc b hb
  have b0 : (b = 0) = False := eq_false (by omega)
  have w0 : (R b 2 = 0) = False := eq_false (by omega)
  have s0 : (R b 3 = 0) = False := eq_false (by omega)
  have h0 : (R b 4 = 0) = False := eq_false (by omega)
  have p0 : (R b 5 = 0) = False := eq_false (by omega)
  rw [a_enter1 (M := a_m52) rfl (a_cat_rf (a_cat_int (a_cat_int (a_cat_int a_cat_nil)))) (show 4 ≤ 4 by decide)]
  show a_at _ (a_xm a_m52) 0 [some (a_rf b), some (.int s), some (.int k), some (.int g)] [] _ _
  repeat' first
    | with_reducible apply And.intro
    | with_reducible assumption
    | with_reducible intro _
    | with_reducible apply hP
    | simp only [q52_0, q52_1, q52_4, q52_5, q52_6, q52_7, q52_8, q52_11, q52_12, q52_13, q52_14, as_nil, as_i, as_r, Nat.reduceAdd, Nat.reduceLeDiff, z_eq0, z_eq1, z_or, z_em, Classical.not_not, not_false_eq_true, not_true_eq_false, true_and, and_true, false_and, and_false, and_self, true_implies, false_implies, implies_true, Option.toList_some, Option.toList_none, List.cons_append, List.nil_append, Nat.add_eq_zero_iff, a_nl_i, a_nl_r, a_nl_n, true_or, or_true, eq_self, a_isRA_22, a_isRA_24, a_isRA_32, a_isA_20, ok_4, ok_5, ok_6, ok_7, ok_9, ok_20, ok_21, ok_30, ok_50, ok_180, ok_192, ok_200, hb, b0, w0, w2, w3, s0, s2, s3, h0, h2, h3, p0, p2]
  all_goals grind [ui_ap]
theorem ck_settle {b : Nat} (hb : K b = 3) {I0 : Nat → Nat → Int32} (hL : dL C K L R I0 I) {s k g : Int32} (hs : 0 ≤ s ∧ s < 200) (hP : ∀ J, dL C K L R I0 J → P none (n, t, K, L, J, R)) : a_does (d + 1) 52 [a_rf b, .int s, .int k, .int g] (n, t, K, L, I, R) P := by
  have hT := hL.1
  obtain ⟨b1, ⟨w1, w2, w3⟩, ⟨s1, s2, s3⟩, -⟩ := hT.g_bnc b hb
  exact cp_settle hb hT hs (hP _ (dL_arr (dL_arr hL w1 w2) s1 s2))
theorem lk_date_3 {b : Nat} (hb : K b = 3) {f e k : Int32} (hP : ∀ J, dL C K L R I J → P none (n, t, K, L, J, R)) : ∀ s : Int32, s ≤ 200 → ∀ J, 0 ≤ s → dL C K L R I J → a_at d (a_xm a_m50) 3 [some (a_rf b), some (.int f), some (.int e), some (.int k), some (.int s)] [] (n, t, K, L, J, R) P := by
  refine up_ind 200 (fun s hk ih => ?_)
  intro J q0 hL
  have hT := hL.1
  have hS := hT.s
  obtain ⟨b1, ⟨w1, w2, w3⟩, ⟨s1, s2, s3⟩, ⟨h1, h2, h3⟩, ⟨p1, p2, p3⟩, q1⟩ := hT.g_bnc b hb
  have b0 : (b = 0) = False := eq_false (by omega)
  have w0 : (R b 2 = 0) = False := eq_false (by omega)
  have s0 : (R b 3 = 0) = False := eq_false (by omega)
  have h0 : (R b 4 = 0) = False := eq_false (by omega)
  have p0 : (R b 5 = 0) = False := eq_false (by omega)
  have hw : ∀ k v, dL C K L R I (a_ui J (R b 4) k v) := fun k v => dL_arr hL h1 h2
  rw [q50_3]
  repeat' first
    | with_reducible apply And.intro
    | with_reducible assumption
    | with_reducible intro _
    | with_reducible apply hP
    | with_reducible apply ih
    | with_reducible apply hw
    | simp only [q50_5, q50_6, q50_9, q50_11, q50_14, q50_17, q50_18, q50_21, q50_23, q50_24, q50_25, q50_28, q50_31, as_nil, as_i, as_r, Nat.reduceAdd, Nat.reduceLeDiff, z_eq0, z_eq1, z_or, z_em, Classical.not_not, not_false_eq_true, not_true_eq_false, true_and, and_true, false_and, and_false, and_self, true_implies, false_implies, implies_true, Option.toList_some, Option.toList_none, List.cons_append, List.nil_append, Nat.add_eq_zero_iff, a_nl_i, a_nl_r, a_nl_n, true_or, or_true, eq_self, a_isRA_22, a_isRA_24, a_isRA_32, a_isA_20, ok_4, ok_5, ok_6, ok_7, ok_9, ok_20, ok_21, ok_30, ok_50, ok_180, ok_192, ok_200, hb, b0, w0, w2, w3, s0, s2, s3, h0, h2, h3, p0, p2]
  all_goals grind [ui_ap]
theorem ck_date {b : Nat} (hb : K b = 3) {I0 : Nat → Nat → Int32} (hL : dL C K L R I0 I) {f e k : Int32} (hf : 0 ≤ f ∧ f ≤ 200) (hP : ∀ J, dL C K L R I0 J → P none (n, t, K, L, J, R)) : a_does (d + 1) 50 [a_rf b, .int f, .int e, .int k] (n, t, K, L, I, R) P := by
  have hS := hL.1.s
  rw [a_enter1 (M := a_m50) rfl (a_cat_rf (a_cat_int (a_cat_int (a_cat_int a_cat_nil)))) (show 4 ≤ 5 by decide)]
  show a_at _ (a_xm a_m50) 0 [some (a_rf b), some (.int f), some (.int e), some (.int k), none] [] _ _
  simp only [q50_0, q50_1, as_nil, as_i, as_r, Nat.reduceAdd, Nat.reduceLeDiff, z_eq0, z_eq1, z_or, z_em, Classical.not_not, not_false_eq_true, not_true_eq_false, true_and, and_true, false_and, and_false, and_self, true_implies, false_implies, implies_true, Option.toList_some, Option.toList_none, List.cons_append, List.nil_append, Nat.add_eq_zero_iff, a_nl_i, a_nl_r, a_nl_n, true_or, or_true, eq_self, a_isRA_22, a_isRA_24, a_isRA_32, a_isA_20, ok_4, ok_5, ok_6, ok_7, ok_9, ok_20, ok_21, ok_30, ok_50, ok_180, ok_192, ok_200]
  exact lk_date_3 hb (fun J h => hP J (dL_L hL h)) f hf.2 I hf.1 (dL_refl hL.1)
theorem past_ok {p i e : Int32} {n : Nat} (h0 : 0 ≤ i) (h1 : i < p) (h2 : p ≤ 16384) (h3 : 5 * p.toNatClampNeg ≤ n) (h4 : 0 ≤ e ∧ e ≤ 4) : a_ok (i * 5 + e) n := by
  have e0 := Int32.le_iff_toInt_le.mp h0
  have e1 := Int32.lt_iff_toInt_lt.mp h1
  have e2 := Int32.le_iff_toInt_le.mp h2
  have e4 := Int32.le_iff_toInt_le.mp h4.1
  have e5 := Int32.le_iff_toInt_le.mp h4.2
  have c1 : (16384 : Int32).toInt = 16384 := rfl
  have c2 : (4 : Int32).toInt = 4 := rfl
  have c5 : (5 : Int32).toInt = 5 := rfl
  simp at e0 e4
  have hp : (p.toNatClampNeg : Int) = p.toInt := by
    show (p.toInt.toNat : Int) = p.toInt
    omega
  have hv : (i * 5 + e).toInt = i.toInt * 5 + e.toInt := by
    rw [Int32.toInt_add, Int32.toInt_mul, c5]
    simp only [Int.bmod_def]
    omega
  refine okI ?_ ?_
  · rw [Int32.le_iff_toInt_le, hv]
    simp
    omega
  · rw [hv]
    omega
theorem past_ok0 {p i : Int32} {n : Nat} (h0 : 0 ≤ i) (h1 : i < p) (h2 : p ≤ 16384) (h3 : 5 * p.toNatClampNeg ≤ n) : a_ok (i * 5) n := by
  have := past_ok (e := 0) h0 h1 h2 h3 (by decide)
  simpa using this
theorem lk_knownOn_19 {b : Nat} (hb : K b = 3) (hT : cT C K L I R) {s k : Int32} (hP : ∀ v, P (some (.int v)) (n, t, K, L, I, R)) : ∀ i : Int32, i ≤ 16384 → ∀ u, 0 ≤ i → a_at d (a_xm a_m161) 19 [some (a_rf b), some (.int s), some (.int k), some (.int i), u] [] (n, t, K, L, I, R) P := by
  have hS := hT.s
  obtain ⟨b1, ⟨w1, w2, w3⟩, ⟨s1, s2, s3⟩, ⟨h1, h2, h3⟩, ⟨p1, p2, p3⟩, q1⟩ := hT.g_bnc b hb
  have b0 : (b = 0) = False := eq_false (by omega)
  have w0 : (R b 2 = 0) = False := eq_false (by omega)
  have s0 : (R b 3 = 0) = False := eq_false (by omega)
  have h0 : (R b 4 = 0) = False := eq_false (by omega)
  have p0 : (R b 5 = 0) = False := eq_false (by omega)
  refine up_ind 16384 (fun i hk ih => ?_)
  intro u q0
  have k0 : ¬ I b 6 ≤ i → a_ok (i * 5) (L (R b 5)) := fun h => past_ok0 q0 (Int32.not_le.mp h) q1.2.1 q1.2.2
  have k1 : ¬ I b 6 ≤ i → ∀ e, 0 ≤ e ∧ e ≤ 4 → a_ok (i * 5 + e) (L (R b 5)) := fun h e he => past_ok q0 (Int32.not_le.mp h) q1.2.1 q1.2.2 he
  rw [q161_19]
  simp only [q161_20, q161_21, q161_24, as_nil, as_i, as_r, Nat.reduceAdd, Nat.reduceLeDiff, z_eq0, z_eq1, z_or, z_em, Classical.not_not, not_false_eq_true, not_true_eq_false, true_and, and_true, false_and, and_false, and_self, true_implies, false_implies, implies_true, Option.toList_some, Option.toList_none, List.cons_append, List.nil_append, Nat.add_eq_zero_iff, a_nl_i, a_nl_r, a_nl_n, true_or, or_true, eq_self, a_isRA_22, a_isRA_24, a_isRA_32, a_isA_20, ok_4, ok_5, ok_6, ok_7, ok_9, ok_20, ok_21, ok_30, ok_50, ok_180, ok_192, ok_200, hb, b0, w0, w2, w3, s0, s2, s3, h0, h2, h3, p0, p2]
  refine ⟨fun c1 => ?_, fun c1 => ?_⟩
  · simp only [q161_98, q161_100, as_nil, as_i, as_r, Nat.reduceAdd, Nat.reduceLeDiff, z_eq0, z_eq1, z_or, z_em, Classical.not_not, not_false_eq_true, not_true_eq_false, true_and, and_true, false_and, and_false, and_self, true_implies, false_implies, implies_true, Option.toList_some, Option.toList_none, List.cons_append, List.nil_append, Nat.add_eq_zero_iff, a_nl_i, a_nl_r, a_nl_n, true_or, or_true, eq_self, a_isRA_22, a_isRA_24, a_isRA_32, a_isA_20, ok_4, ok_5, ok_6, ok_7, ok_9, ok_20, ok_21, ok_30, ok_50, ok_180, ok_192, ok_200]
    exact hP _
  · have k0 := k0 c1
    have k1 := k1 c1
    have m1 := k1 1 (by decide)
    have m2 := k1 2 (by decide)
    have m3 := k1 3 (by decide)
    have m4 := k1 4 (by decide)
    have ih := ih (by grind)
    repeat' first
      | with_reducible apply And.intro
      | with_reducible assumption
      | with_reducible intro _
      | with_reducible apply hP
      | with_reducible apply ih
      | simp only [q161_27, q161_28, q161_29, q161_30, q161_32, q161_33, q161_36, q161_38, q161_39, q161_40, q161_41, q161_42, q161_45, q161_46, q161_47, q161_50, q161_52, q161_53, q161_54, q161_55, q161_58, q161_59, q161_62, q161_64, q161_65, q161_66, q161_67, q161_68, q161_71, q161_72, q161_73, q161_76, q161_78, q161_79, q161_80, q161_81, q161_84, q161_85, q161_88, q161_90, q161_91, q161_92, q161_95, as_nil, as_i, as_r, Nat.reduceAdd, Nat.reduceLeDiff, z_eq0, z_eq1, z_or, z_em, Classical.not_not, not_false_eq_true, not_true_eq_false, true_and, and_true, false_and, and_false, and_self, true_implies, false_implies, implies_true, Option.toList_some, Option.toList_none, List.cons_append, List.nil_append, Nat.add_eq_zero_iff, a_nl_i, a_nl_r, a_nl_n, true_or, or_true, eq_self, a_isRA_22, a_isRA_24, a_isRA_32, a_isA_20, ok_4, ok_5, ok_6, ok_7, ok_9, ok_20, ok_21, ok_30, ok_50, ok_180, ok_192, ok_200, hb, b0, w0, w2, w3, s0, s2, s3, h0, h2, h3, p0, p2]
    all_goals grind [ui_ap]
theorem ck_knownOn {b : Nat} (hb : K b = 3) (hT : cT C K L I R) {s k : Int32} (hs : 0 ≤ s ∧ s < 200) (hP : ∀ v, P (some (.int v)) (n, t, K, L, I, R)) : a_does (d + 1) 161 [a_rf b, .int s, .int k] (n, t, K, L, I, R) P := by
  have hS := hT.s
  obtain ⟨b1, ⟨w1, w2, w3⟩, ⟨s1, s2, s3⟩, ⟨h1, h2, h3⟩, ⟨p1, p2, p3⟩, q1⟩ := hT.g_bnc b hb
  have b0 : (b = 0) = False := eq_false (by omega)
  have w0 : (R b 2 = 0) = False := eq_false (by omega)
  have s0 : (R b 3 = 0) = False := eq_false (by omega)
  have h0 : (R b 4 = 0) = False := eq_false (by omega)
  have p0 : (R b 5 = 0) = False := eq_false (by omega)
  have hl : ∀ u, a_at d (a_xm a_m161) 19 [some (a_rf b), some (.int s), some (.int k), some (.int 0), u] [] (n, t, K, L, I, R) P := fun u => lk_knownOn_19 hb hT hP 0 (by decide) u (by decide)
  rw [a_enter1 (M := a_m161) rfl (a_cat_rf (a_cat_int (a_cat_int a_cat_nil))) (show 3 ≤ 5 by decide)]
  show a_at _ (a_xm a_m161) 0 [some (a_rf b), some (.int s), some (.int k), none, none] [] _ _
  repeat' first
    | with_reducible apply And.intro
    | with_reducible assumption
    | with_reducible intro _
    | with_reducible apply hP
    | with_reducible apply hl
    | simp only [q161_0, q161_1, q161_4, q161_5, q161_6, q161_7, q161_10, q161_11, q161_14, q161_15, q161_16, q161_17, q161_18, as_nil, as_i, as_r, Nat.reduceAdd, Nat.reduceLeDiff, z_eq0, z_eq1, z_or, z_em, Classical.not_not, not_false_eq_true, not_true_eq_false, true_and, and_true, false_and, and_false, and_self, true_implies, false_implies, implies_true, Option.toList_some, Option.toList_none, List.cons_append, List.nil_append, Nat.add_eq_zero_iff, a_nl_i, a_nl_r, a_nl_n, true_or, or_true, eq_self, a_isRA_22, a_isRA_24, a_isRA_32, a_isA_20, ok_4, ok_5, ok_6, ok_7, ok_9, ok_20, ok_21, ok_30, ok_50, ok_180, ok_192, ok_200, hb, b0, w0, w2, w3, s0, s2, s3, h0, h2, h3, p0, p2]
  all_goals grind [ui_ap]
end K5
end
section
/-! the class: what fits -/
section K6
variable {d n t C : Nat} {K L : Nat → Nat} {I I0 J J0 J1 J2 : Nat → Nat → Int32} {R : Nat → Nat → Nat} {P : Option Value → AH → Prop}
theorem le_maxI (s : Int32) : s ≤ 2147483647 := by
  have := Int32.toInt_lt s
  rw [Int32.le_iff_toInt_le]
  have e : (2147483647 : Int32).toInt = 2147483647 := rfl
  omega
/-- l shifts from s on are all there -/
def fitP (s l : Int32) : Prop := 0 ≤ s ∧ s ≤ 199 ∧ s + l ≤ 200
def atP (s i : Int32) : Prop := i = 0 ∨ fitP s i
theorem ti_add {a b : Int32} (h : -2147483648 ≤ a.toInt + b.toInt ∧ a.toInt + b.toInt < 2147483648) : (a + b).toInt = a.toInt + b.toInt := by
  rw [Int32.toInt_add]
  simp only [Int.bmod_def]
  omega
theorem sh_next {s i : Int32} (h0 : 0 ≤ i) (h1 : i < 4) (q : atP s i) (h2 : 0 ≤ s + i) (h3 : s + i < 200) : atP s (i + 1) := by
  have c4 : (4 : Int32).toInt = 4 := rfl
  have c1 : (1 : Int32).toInt = 1 := rfl
  have c0 : (0 : Int32).toInt = 0 := rfl
  have c200 : (200 : Int32).toInt = 200 := rfl
  have c199 : (199 : Int32).toInt = 199 := rfl
  have e0 := Int32.le_iff_toInt_le.mp h0
  have e1 := Int32.lt_iff_toInt_lt.mp h1
  have e2 := Int32.le_iff_toInt_le.mp h2
  have e3 := Int32.lt_iff_toInt_lt.mp h3
  have ei : (i + 1).toInt = i.toInt + 1 := by rw [ti_add (by omega)]; omega
  refine Or.inr ?_
  rcases q with q | ⟨q1, q2, q3⟩
  · subst q
    have ez : s + 0 = s := by simp
    rw [ez] at h2 h3 e2 e3
    refine ⟨h2, ?_, ?_⟩
    · rw [Int32.le_iff_toInt_le]; omega
    · rw [Int32.le_iff_toInt_le, ti_add (by omega)]; omega
  · refine ⟨q1, q2, ?_⟩
    have g1 := Int32.le_iff_toInt_le.mp q1
    have g2 := Int32.le_iff_toInt_le.mp q2
    have es : (s + i).toInt = s.toInt + i.toInt := ti_add (by omega)
    rw [Int32.le_iff_toInt_le, ti_add (by omega)]
    omega
theorem sh_end {s i l : Int32} (q : atP s i) (h : i ≤ 4) (h1 : 1 ≤ l) (h2 : l ≤ i) : fitP s l := by
  have c4 : (4 : Int32).toInt = 4 := rfl
  have c1 : (1 : Int32).toInt = 1 := rfl
  have c0 : (0 : Int32).toInt = 0 := rfl
  have c200 : (200 : Int32).toInt = 200 := rfl
  have c199 : (199 : Int32).toInt = 199 := rfl
  have e0 := Int32.le_iff_toInt_le.mp h
  have e1 := Int32.le_iff_toInt_le.mp h1
  have e2 := Int32.le_iff_toInt_le.mp h2
  rcases q with q | ⟨q1, q2, q3⟩
  · subst q
    omega
  · refine ⟨q1, q2, ?_⟩
    have g1 := Int32.le_iff_toInt_le.mp q1
    have g2 := Int32.le_iff_toInt_le.mp q2
    have g3 := Int32.le_iff_toInt_le.mp q3
    have es : (s + i).toInt = s.toInt + i.toInt := ti_add (by omega)
    rw [Int32.le_iff_toInt_le, ti_add (by omega)]
    omega
theorem dC_at (h : dC C K L R I J) (hT : cT C K L I R) {a : Nat} (ha : K a = 1) (j : Nat) : J a j = I a j := by
  have := (hT.g_ask a ha).1
  exact h.2 _ _ (by omega) (by omega)
theorem dL_at (h : dL C K L R I J) (hT : cT C K L I R) {a : Nat} (ha : K a = 1) (j : Nat) (h1 : ¬ j = 13) (h2 : ¬ j = 14) : J a j = I a j := by
  have := (hT.g_ask a ha).1
  refine h.2 _ _ (by omega) (by omega) ?_
  intro q
  rw [ha] at q
  omega
theorem lk_areAllFree_2 (hT : cT C K L I R) {q : Int32} (hP : ∀ v, P (some (.int v)) (n, t, K, L, I, R)) : ∀ i : Int32, i ≤ 30 → ∀ (o : Int32) u, 0 ≤ i → a_at (d + 1) (a_xm a_m131) 2 [some (a_rf (C + 14)), some (.int q), some (.int i), u] [] (n, t, K, L, I, R) P := by
  have hS := hT.s
  have gA := hT.g_asksR
  have gB := hT.g_benchesR
  have gX := hT.g_textsR
  have gc := hT.g_asks
  refine up_ind 30 (fun i hk ih => ?_)
  intro o u q0
  have gi := gA i.toNatClampNeg
  rw [q131_2]
  repeat' first
    | with_reducible apply And.intro
    | with_reducible assumption
    | with_reducible intro _
    | with_reducible apply hP
    | with_reducible apply ih
    | with_reducible apply ck_isIn
    | simp only [q131_3, q131_4, q131_7, q131_10, q131_11, q131_12, q131_15, q131_16, q131_17, q131_18, q131_21, q131_24, q131_25, q131_28, q131_29, q131_32, q131_35, q131_36, q131_39, q131_42, q131_43, q131_44, q131_47, q131_50, q131_51, k_14 hS, z_14, sp_askAt hS gA, sp_isPlaced, as_nil, as_i, as_r, Nat.reduceAdd, Nat.reduceLeDiff, z_eq0, z_eq1, z_or, z_em, Classical.not_not, not_false_eq_true, not_true_eq_false, true_and, and_true, false_and, and_false, and_self, true_implies, false_implies, implies_true, Option.toList_some, Option.toList_none, List.cons_append, List.nil_append, Nat.add_eq_zero_iff, a_nl_i, a_nl_r, a_nl_n, true_or, or_true, eq_self, a_isRA_22, a_isRA_24, a_isRA_32, a_isA_20, ok_4, ok_5, ok_6, ok_7, ok_9, ok_20, ok_21, ok_30, ok_50, ok_180, ok_192, ok_200]
  all_goals grind [ui_ap]
theorem ck_areAllFree (hT : cT C K L I R) {q : Int32} (hP : ∀ v, P (some (.int v)) (n, t, K, L, I, R)) : a_does (d + 2) 131 [a_rf (C + 14), .int q] (n, t, K, L, I, R) P := by
  have hS := hT.s
  rw [a_enter1 (M := a_m131) rfl (a_cat_rf (a_cat_int a_cat_nil)) (show 2 ≤ 4 by decide)]
  show a_at _ (a_xm a_m131) 0 [some (a_rf (C + 14)), some (.int q), none, none] [] _ _
  simp only [q131_0, q131_1, as_nil, as_i, as_r, Nat.reduceAdd, Nat.reduceLeDiff, z_eq0, z_eq1, z_or, z_em, Classical.not_not, not_false_eq_true, not_true_eq_false, true_and, and_true, false_and, and_false, and_self, true_implies, false_implies, implies_true, Option.toList_some, Option.toList_none, List.cons_append, List.nil_append, Nat.add_eq_zero_iff, a_nl_i, a_nl_r, a_nl_n, true_or, or_true, eq_self, a_isRA_22, a_isRA_24, a_isRA_32, a_isA_20, ok_4, ok_5, ok_6, ok_7, ok_9, ok_20, ok_21, ok_30, ok_50, ok_180, ok_192, ok_200]
  exact lk_areAllFree_2 hT hP 0 (by decide) 0 _ (by decide)
theorem lk_placedAsks_4 (hT : cT C K L I R) (hP : ∀ v, P (some (.int v)) (n, t, K, L, I, R)) : ∀ i : Int32, i ≤ 30 → ∀ (o : Int32) u, 0 ≤ i → a_at (d + 1) (a_xm a_m167) 4 [some (a_rf (C + 14)), some (.int o), some (.int i), u] [] (n, t, K, L, I, R) P := by
  have hS := hT.s
  have gA := hT.g_asksR
  have gB := hT.g_benchesR
  have gX := hT.g_textsR
  have gc := hT.g_asks
  refine up_ind 30 (fun i hk ih => ?_)
  intro o u q0
  have gi := gA i.toNatClampNeg
  rw [q167_4]
  repeat' first
    | with_reducible apply And.intro
    | with_reducible assumption
    | with_reducible intro _
    | with_reducible apply hP
    | with_reducible apply ih
    | with_reducible apply ck_isIn
    | simp only [q167_5, q167_6, q167_9, q167_12, q167_13, q167_14, q167_17, q167_18, q167_19, q167_22, q167_23, q167_26, q167_29, q167_32, q167_35, q167_38, q167_39, k_14 hS, z_14, sp_askAt hS gA, sp_isPlaced, as_nil, as_i, as_r, Nat.reduceAdd, Nat.reduceLeDiff, z_eq0, z_eq1, z_or, z_em, Classical.not_not, not_false_eq_true, not_true_eq_false, true_and, and_true, false_and, and_false, and_self, true_implies, false_implies, implies_true, Option.toList_some, Option.toList_none, List.cons_append, List.nil_append, Nat.add_eq_zero_iff, a_nl_i, a_nl_r, a_nl_n, true_or, or_true, eq_self, a_isRA_22, a_isRA_24, a_isRA_32, a_isA_20, ok_4, ok_5, ok_6, ok_7, ok_9, ok_20, ok_21, ok_30, ok_50, ok_180, ok_192, ok_200]
  all_goals grind [ui_ap]
theorem ck_placedAsks (hT : cT C K L I R) (hP : ∀ v, P (some (.int v)) (n, t, K, L, I, R)) : a_does (d + 2) 167 [a_rf (C + 14)] (n, t, K, L, I, R) P := by
  have hS := hT.s
  rw [a_enter1 (M := a_m167) rfl (a_cat_rf a_cat_nil) (show 1 ≤ 4 by decide)]
  show a_at _ (a_xm a_m167) 0 [some (a_rf (C + 14)), none, none, none] [] _ _
  simp only [q167_0, q167_1, q167_2, q167_3, as_nil, as_i, as_r, Nat.reduceAdd, Nat.reduceLeDiff, z_eq0, z_eq1, z_or, z_em, Classical.not_not, not_false_eq_true, not_true_eq_false, true_and, and_true, false_and, and_false, and_self, true_implies, false_implies, implies_true, Option.toList_some, Option.toList_none, List.cons_append, List.nil_append, Nat.add_eq_zero_iff, a_nl_i, a_nl_r, a_nl_n, true_or, or_true, eq_self, a_isRA_22, a_isRA_24, a_isRA_32, a_isA_20, ok_4, ok_5, ok_6, ok_7, ok_9, ok_20, ok_21, ok_30, ok_50, ok_180, ok_192, ok_200]
  exact lk_placedAsks_4 hT hP 0 (by decide) 0 _ (by decide)
theorem lk_placedShifts_4 (hT : cT C K L I R) (hP : ∀ v, P (some (.int v)) (n, t, K, L, I, R)) : ∀ i : Int32, i ≤ 30 → ∀ (o : Int32) u, 0 ≤ i → a_at (d + 1) (a_xm a_m168) 4 [some (a_rf (C + 14)), some (.int o), some (.int i), u] [] (n, t, K, L, I, R) P := by
  have hS := hT.s
  have gA := hT.g_asksR
  have gB := hT.g_benchesR
  have gX := hT.g_textsR
  have gc := hT.g_asks
  refine up_ind 30 (fun i hk ih => ?_)
  intro o u q0
  have gi := gA i.toNatClampNeg
  rw [q168_4]
  repeat' first
    | with_reducible apply And.intro
    | with_reducible assumption
    | with_reducible intro _
    | with_reducible apply hP
    | with_reducible apply ih
    | with_reducible apply ck_isIn
    | simp only [q168_5, q168_6, q168_9, q168_12, q168_13, q168_14, q168_17, q168_18, q168_19, q168_22, q168_23, q168_26, q168_29, q168_30, q168_31, q168_34, q168_35, q168_36, q168_39, q168_42, q168_43, k_14 hS, z_14, sp_askAt hS gA, sp_isPlaced, as_nil, as_i, as_r, Nat.reduceAdd, Nat.reduceLeDiff, z_eq0, z_eq1, z_or, z_em, Classical.not_not, not_false_eq_true, not_true_eq_false, true_and, and_true, false_and, and_false, and_self, true_implies, false_implies, implies_true, Option.toList_some, Option.toList_none, List.cons_append, List.nil_append, Nat.add_eq_zero_iff, a_nl_i, a_nl_r, a_nl_n, true_or, or_true, eq_self, a_isRA_22, a_isRA_24, a_isRA_32, a_isA_20, ok_4, ok_5, ok_6, ok_7, ok_9, ok_20, ok_21, ok_30, ok_50, ok_180, ok_192, ok_200]
  all_goals grind [ui_ap]
theorem ck_placedShifts (hT : cT C K L I R) (hP : ∀ v, P (some (.int v)) (n, t, K, L, I, R)) : a_does (d + 2) 168 [a_rf (C + 14)] (n, t, K, L, I, R) P := by
  have hS := hT.s
  rw [a_enter1 (M := a_m168) rfl (a_cat_rf a_cat_nil) (show 1 ≤ 4 by decide)]
  show a_at _ (a_xm a_m168) 0 [some (a_rf (C + 14)), none, none, none] [] _ _
  simp only [q168_0, q168_1, q168_2, q168_3, as_nil, as_i, as_r, Nat.reduceAdd, Nat.reduceLeDiff, z_eq0, z_eq1, z_or, z_em, Classical.not_not, not_false_eq_true, not_true_eq_false, true_and, and_true, false_and, and_false, and_self, true_implies, false_implies, implies_true, Option.toList_some, Option.toList_none, List.cons_append, List.nil_append, Nat.add_eq_zero_iff, a_nl_i, a_nl_r, a_nl_n, true_or, or_true, eq_self, a_isRA_22, a_isRA_24, a_isRA_32, a_isA_20, ok_4, ok_5, ok_6, ok_7, ok_9, ok_20, ok_21, ok_30, ok_50, ok_180, ok_192, ok_200]
  exact lk_placedShifts_4 hT hP 0 (by decide) 0 _ (by decide)
theorem ck_areAsks (hT : cT C K L I R) {q : Int32} (hP : ∀ v, P (some (.int v)) (n, t, K, L, I, R)) : a_does (d + 1) 129 [a_rf (C + 14), .int q] (n, t, K, L, I, R) P := by
  have hS := hT.s
  rw [a_enter1 (M := a_m129) rfl (a_cat_rf (a_cat_int a_cat_nil)) (show 2 ≤ 2 by decide)]
  show a_at _ (a_xm a_m129) 0 [some (a_rf (C + 14)), some (.int q)] [] _ _
  repeat' first
    | with_reducible apply And.intro
    | with_reducible assumption
    | with_reducible intro _
    | with_reducible apply hP
    | simp only [q129_0, q129_1, q129_4, q129_5, q129_7, q129_10, q129_11, q129_12, q129_15, q129_16, q129_19, q129_20, q129_23, q129_24, k_14 hS, z_14, as_nil, as_i, as_r, Nat.reduceAdd, Nat.reduceLeDiff, z_eq0, z_eq1, z_or, z_em, Classical.not_not, not_false_eq_true, not_true_eq_false, true_and, and_true, false_and, and_false, and_self, true_implies, false_implies, implies_true, Option.toList_some, Option.toList_none, List.cons_append, List.nil_append, Nat.add_eq_zero_iff, a_nl_i, a_nl_r, a_nl_n, true_or, or_true, eq_self, a_isRA_22, a_isRA_24, a_isRA_32, a_isA_20, ok_4, ok_5, ok_6, ok_7, ok_9, ok_20, ok_21, ok_30, ok_50, ok_180, ok_192, ok_200]
  all_goals grind [ui_ap]
theorem ck_isBeyondDays {a : Nat} (ha : K a = 1) (hT : cT C K L I R) {s : Int32} (hP : ∀ v, P (some (.int v)) (n, t, K, L, I, R)) : a_does (d + 1) 111 [a_rf (C + 14), a_rf a, .int s] (n, t, K, L, I, R) P := by
  have hS := hT.s
  obtain ⟨a1, a2, a4, a3⟩ := hT.g_ask a ha
  have a0 : (a = 0) = False := eq_false (by omega)
  rw [a_enter1 (M := a_m111) rfl (a_cat_rf (a_cat_rf (a_cat_int a_cat_nil))) (show 3 ≤ 3 by decide)]
  show a_at _ (a_xm a_m111) 0 [some (a_rf (C + 14)), some (a_rf a), some (.int s)] [] _ _
  repeat' first
    | with_reducible apply And.intro
    | with_reducible assumption
    | with_reducible intro _
    | with_reducible apply hP
    | simp only [q111_0, q111_1, q111_4, q111_5, q111_8, q111_9, q111_10, q111_13, q111_16, q111_17, q111_18, q111_21, q111_24, q111_25, q111_28, q111_29, k_14 hS, z_14, as_nil, as_i, as_r, Nat.reduceAdd, Nat.reduceLeDiff, z_eq0, z_eq1, z_or, z_em, Classical.not_not, not_false_eq_true, not_true_eq_false, true_and, and_true, false_and, and_false, and_self, true_implies, false_implies, implies_true, Option.toList_some, Option.toList_none, List.cons_append, List.nil_append, Nat.add_eq_zero_iff, a_nl_i, a_nl_r, a_nl_n, true_or, or_true, eq_self, a_isRA_22, a_isRA_24, a_isRA_32, a_isA_20, ok_4, ok_5, ok_6, ok_7, ok_9, ok_20, ok_21, ok_30, ok_50, ok_180, ok_192, ok_200, ha, a0]
  all_goals grind [ui_ap]
theorem ck_isTooNear {a : Nat} (ha : K a = 1) (hT : cT C K L I R) {s : Int32} (hP : ∀ v, P (some (.int v)) (n, t, K, L, I, R)) : a_does (d + 2) 110 [a_rf (C + 14), a_rf a, .int s] (n, t, K, L, I, R) P := by
  have hS := hT.s
  obtain ⟨a1, a2, a4, a3⟩ := hT.g_ask a ha
  have a0 : (a = 0) = False := eq_false (by omega)
  have gA := hT.g_asksR
  have gB := hT.g_benchesR
  have gX := hT.g_textsR
  have gi := gA (I a 10).toNatClampNeg
  rw [a_enter1 (M := a_m110) rfl (a_cat_rf (a_cat_rf (a_cat_int a_cat_nil))) (show 3 ≤ 4 by decide)]
  show a_at _ (a_xm a_m110) 0 [some (a_rf (C + 14)), some (a_rf a), some (.int s), none] [] _ _
  repeat' first
    | with_reducible apply And.intro
    | with_reducible assumption
    | with_reducible intro _
    | with_reducible apply hP
    | simp only [q110_0, q110_1, q110_4, q110_5, q110_8, q110_9, q110_10, q110_11, q110_12, q110_15, q110_18, q110_19, q110_20, q110_23, q110_24, q110_27, q110_30, q110_31, q110_32, q110_35, q110_36, q110_37, q110_38, q110_39, q110_42, q110_45, q110_46, q110_49, q110_50, k_14 hS, z_14, sp_askAt hS gA, sp_isPlaced, sp_last, as_nil, as_i, as_r, Nat.reduceAdd, Nat.reduceLeDiff, z_eq0, z_eq1, z_or, z_em, Classical.not_not, not_false_eq_true, not_true_eq_false, true_and, and_true, false_and, and_false, and_self, true_implies, false_implies, implies_true, Option.toList_some, Option.toList_none, List.cons_append, List.nil_append, Nat.add_eq_zero_iff, a_nl_i, a_nl_r, a_nl_n, true_or, or_true, eq_self, a_isRA_22, a_isRA_24, a_isRA_32, a_isA_20, ok_4, ok_5, ok_6, ok_7, ok_9, ok_20, ok_21, ok_30, ok_50, ok_180, ok_192, ok_200, ha, a0]
  all_goals grind [ui_ap]
theorem ck_fixedBar {a : Nat} (ha : K a = 1) (hT : cT C K L I R) {b s : Int32} (hP : ∀ v : Int32, (v = 0 → 0 ≤ s ∧ s < 200) → P (some (.int v)) (n, t, K, L, I, R)) : a_does (d + 2) 102 [a_rf (C + 14), a_rf a, .int b, .int s] (n, t, K, L, I, R) P := by
  have hS := hT.s
  obtain ⟨a1, a2, a4, a3⟩ := hT.g_ask a ha
  have a0 : (a = 0) = False := eq_false (by omega)
  have gA := hT.g_asksR
  have gB := hT.g_benchesR
  have gX := hT.g_textsR
  have gi := gB b.toNatClampNeg
  rw [a_enter1 (M := a_m102) rfl (a_cat_rf (a_cat_rf (a_cat_int (a_cat_int a_cat_nil)))) (show 4 ≤ 5 by decide)]
  show a_at _ (a_xm a_m102) 0 [some (a_rf (C + 14)), some (a_rf a), some (.int b), some (.int s), none] [] _ _
  repeat' first
    | with_reducible apply And.intro
    | with_reducible assumption
    | with_reducible intro _
    | with_reducible apply hP
    | simp only [q102_0, q102_1, q102_2, q102_5, q102_7, q102_9, q102_12, q102_13, q102_16, q102_17, q102_18, q102_19, q102_20, q102_23, q102_24, q102_25, q102_27, q102_30, q102_31, q102_34, q102_35, q102_36, q102_37, q102_40, q102_41, q102_42, q102_43, q102_46, q102_49, q102_50, q102_53, q102_54, q102_57, q102_60, q102_61, q102_62, q102_63, q102_66, q102_69, q102_70, q102_71, q102_72, q102_75, q102_76, q102_79, q102_82, q102_83, q102_84, q102_87, q102_90, q102_91, q102_92, q102_93, q102_96, q102_97, q102_100, q102_103, q102_104, q102_105, q102_106, q102_107, q102_108, q102_111, q102_112, q102_115, q102_116, k_14 hS, z_14, r_14_0 hS, k_1 hS, z_1, r_1_0 hS, k_2 hS, l_2 hS, z_2, r_1_1 hS, k_3 hS, l_3 hS, z_3, sp_benchAt hS gB, sp_isShiftC, sp_hasBegun hS, as_nil, as_i, as_r, Nat.reduceAdd, Nat.reduceLeDiff, z_eq0, z_eq1, z_or, z_em, Classical.not_not, not_false_eq_true, not_true_eq_false, true_and, and_true, false_and, and_false, and_self, true_implies, false_implies, implies_true, Option.toList_some, Option.toList_none, List.cons_append, List.nil_append, Nat.add_eq_zero_iff, a_nl_i, a_nl_r, a_nl_n, true_or, or_true, eq_self, a_isRA_22, a_isRA_24, a_isRA_32, a_isA_20, ok_4, ok_5, ok_6, ok_7, ok_9, ok_20, ok_21, ok_30, ok_50, ok_180, ok_192, ok_200, ha, a0]
  all_goals grind [ui_ap]
theorem ck_isHadByOther {a : Nat} (ha : K a = 1) (hT : cT C K L I R) {b s : Int32} (hs : 0 ≤ s ∧ s < 200) (hP : ∀ v, P (some (.int v)) (n, t, K, L, I, R)) : a_does (d + 2) 104 [a_rf (C + 14), a_rf a, .int b, .int s] (n, t, K, L, I, R) P := by
  have hS := hT.s
  obtain ⟨a1, a2, a4, a3⟩ := hT.g_ask a ha
  have a0 : (a = 0) = False := eq_false (by omega)
  have gA := hT.g_asksR
  have gB := hT.g_benchesR
  have gX := hT.g_textsR
  have gi := gB b.toNatClampNeg
  rw [a_enter1 (M := a_m104) rfl (a_cat_rf (a_cat_rf (a_cat_int (a_cat_int a_cat_nil)))) (show 4 ≤ 5 by decide)]
  show a_at _ (a_xm a_m104) 0 [some (a_rf (C + 14)), some (a_rf a), some (.int b), some (.int s), none] [] _ _
  repeat' first
    | with_reducible apply And.intro
    | with_reducible assumption
    | with_reducible intro _
    | with_reducible apply hP
    | with_reducible apply ck_isOthers
    | simp only [q104_0, q104_1, q104_2, q104_5, q104_7, q104_9, q104_12, q104_14, q104_15, q104_16, q104_19, q104_22, q104_25, q104_26, q104_29, q104_30, k_14 hS, z_14, sp_benchAt hS gB, as_nil, as_i, as_r, Nat.reduceAdd, Nat.reduceLeDiff, z_eq0, z_eq1, z_or, z_em, Classical.not_not, not_false_eq_true, not_true_eq_false, true_and, and_true, false_and, and_false, and_self, true_implies, false_implies, implies_true, Option.toList_some, Option.toList_none, List.cons_append, List.nil_append, Nat.add_eq_zero_iff, a_nl_i, a_nl_r, a_nl_n, true_or, or_true, eq_self, a_isRA_22, a_isRA_24, a_isRA_32, a_isA_20, ok_4, ok_5, ok_6, ok_7, ok_9, ok_20, ok_21, ok_30, ok_50, ok_180, ok_192, ok_200, ha, a0]
  all_goals grind [ui_ap]
theorem lk_isGearElsewhere_12 {a : Nat} (ha : K a = 1) (hT : cT C K L I R) {b s : Int32} (hs : 0 ≤ s ∧ s < 200) (hP : ∀ v, P (some (.int v)) (n, t, K, L, I, R)) : ∀ i : Int32, i ≤ 6 → ∀ u w, 0 ≤ i → a_at (d + 1) (a_xm a_m106) 12 [some (a_rf (C + 14)), some (a_rf a), some (.int b), some (.int s), some (.int i), u, w] [] (n, t, K, L, I, R) P := by
  have hS := hT.s
  obtain ⟨a1, a2, a4, a3⟩ := hT.g_ask a ha
  have a0 : (a = 0) = False := eq_false (by omega)
  have gA := hT.g_asksR
  have gB := hT.g_benchesR
  have gX := hT.g_textsR
  have gc := hT.g_benches
  refine up_ind 6 (fun i hk ih => ?_)
  intro u w q0
  have gi := gB i.toNatClampNeg
  have hw : K (R (C + 16) i.toNatClampNeg) = 3 → K (R (R (C + 16) i.toNatClampNeg) 2) = 20 ∧ a_ok s (L (R (R (C + 16) i.toNatClampNeg) 2)) ∧ ¬ R (R (C + 16) i.toNatClampNeg) 2 = 0 := fun hb => by
    obtain ⟨b1, ⟨w1, w2, w3⟩, -⟩ := hT.g_bnc _ hb
    exact ⟨w2, by rw [w3, ok_200]; exact hs, by omega⟩
  rw [q106_12]
  repeat' first
    | with_reducible apply And.intro
    | with_reducible assumption
    | with_reducible intro _
    | with_reducible apply hP
    | with_reducible apply ih
    | with_reducible apply ck_isOthers
    | simp only [q106_14, q106_15, q106_18, q106_21, q106_22, q106_24, q106_27, q106_29, q106_31, q106_32, q106_35, q106_37, q106_40, q106_42, q106_43, q106_44, q106_47, q106_50, q106_53, q106_54, q106_56, q106_59, q106_60, q106_61, q106_64, q106_66, q106_68, q106_71, q106_73, q106_76, q106_77, q106_80, q106_83, q106_84, q106_85, q106_88, q106_91, q106_92, k_14 hS, z_14, sp_benchAt hS gB, sp_askAt hS gA, as_nil, as_i, as_r, Nat.reduceAdd, Nat.reduceLeDiff, z_eq0, z_eq1, z_or, z_em, Classical.not_not, not_false_eq_true, not_true_eq_false, true_and, and_true, false_and, and_false, and_self, true_implies, false_implies, implies_true, Option.toList_some, Option.toList_none, List.cons_append, List.nil_append, Nat.add_eq_zero_iff, a_nl_i, a_nl_r, a_nl_n, true_or, or_true, eq_self, a_isRA_22, a_isRA_24, a_isRA_32, a_isA_20, ok_4, ok_5, ok_6, ok_7, ok_9, ok_20, ok_21, ok_30, ok_50, ok_180, ok_192, ok_200, ha, a0]
  all_goals grind [ui_ap]
theorem ck_isGearElsewhere {a : Nat} (ha : K a = 1) (hT : cT C K L I R) {b s : Int32} (hs : 0 ≤ s ∧ s < 200) (hP : ∀ v, P (some (.int v)) (n, t, K, L, I, R)) : a_does (d + 2) 106 [a_rf (C + 14), a_rf a, .int b, .int s] (n, t, K, L, I, R) P := by
  have hS := hT.s
  obtain ⟨a1, a2, a4, a3⟩ := hT.g_ask a ha
  have a0 : (a = 0) = False := eq_false (by omega)
  have hl := fun u w => lk_isGearElsewhere_12 (d := d) ha hT hs (b := b) hP 0 (by decide) u w (by decide)
  rw [a_enter1 (M := a_m106) rfl (a_cat_rf (a_cat_rf (a_cat_int (a_cat_int a_cat_nil)))) (show 4 ≤ 7 by decide)]
  show a_at _ (a_xm a_m106) 0 [some (a_rf (C + 14)), some (a_rf a), some (.int b), some (.int s), none, none, none] [] _ _
  repeat' first
    | with_reducible apply And.intro
    | with_reducible assumption
    | with_reducible intro _
    | with_reducible apply hP
    | with_reducible apply hl
    | simp only [q106_0, q106_1, q106_4, q106_7, q106_8, q106_9, q106_10, k_14 hS, z_14, as_nil, as_i, as_r, Nat.reduceAdd, Nat.reduceLeDiff, z_eq0, z_eq1, z_or, z_em, Classical.not_not, not_false_eq_true, not_true_eq_false, true_and, and_true, false_and, and_false, and_self, true_implies, false_implies, implies_true, Option.toList_some, Option.toList_none, List.cons_append, List.nil_append, Nat.add_eq_zero_iff, a_nl_i, a_nl_r, a_nl_n, true_or, or_true, eq_self, a_isRA_22, a_isRA_24, a_isRA_32, a_isA_20, ok_4, ok_5, ok_6, ok_7, ok_9, ok_20, ok_21, ok_30, ok_50, ok_180, ok_192, ok_200, ha, a0]
  all_goals grind [ui_ap]
theorem lk_freeHosts_32 {a : Nat} (ha : K a = 1) (hT : cT C K L I R) {b s f e : Int32} (hf : 0 ≤ f ∧ f ≤ 200) (he : e ≤ 199) (hP : ∀ v, P (some (.int v)) (n, t, K, L, I, R)) : ∀ i : Int32, i ≤ 6 → ∀ o u, 0 ≤ i → a_at (d + 1) (a_xm a_m108) 32 [some (a_rf (C + 14)), some (a_rf a), some (.int b), some (.int s), some (.int f), some (.int e), some (.int o), some (.int i), u] [] (n, t, K, L, I, R) P := by
  have hS := hT.s
  obtain ⟨a1, a2, a4, a3⟩ := hT.g_ask a ha
  have a0 : (a = 0) = False := eq_false (by omega)
  have gA := hT.g_asksR
  have gB := hT.g_benchesR
  have gX := hT.g_textsR
  have gc := hT.g_benches
  have gb := gB b.toNatClampNeg
  refine up_ind 6 (fun i hk ih => ?_)
  intro o u q0
  have gi := gB i.toNatClampNeg
  rw [q108_32]
  repeat' first
    | with_reducible apply And.intro
    | with_reducible assumption
    | with_reducible intro _
    | with_reducible apply hP
    | with_reducible apply ih
    | with_reducible apply ck_standing
    | simp only [q108_34, q108_35, q108_38, q108_41, q108_42, q108_44, q108_47, q108_49, q108_51, q108_54, q108_56, q108_58, q108_60, q108_62, q108_63, q108_66, q108_69, q108_70, q108_72, q108_75, q108_78, q108_79, q108_80, q108_83, q108_85, q108_87, q108_90, q108_91, q108_94, q108_96, q108_99, q108_101, q108_102, q108_103, q108_104, k_14 hS, z_14, sp_benchAt hS gB, as_nil, as_i, as_r, Nat.reduceAdd, Nat.reduceLeDiff, z_eq0, z_eq1, z_or, z_em, Classical.not_not, not_false_eq_true, not_true_eq_false, true_and, and_true, false_and, and_false, and_self, true_implies, false_implies, implies_true, Option.toList_some, Option.toList_none, List.cons_append, List.nil_append, Nat.add_eq_zero_iff, a_nl_i, a_nl_r, a_nl_n, true_or, or_true, eq_self, a_isRA_22, a_isRA_24, a_isRA_32, a_isA_20, ok_4, ok_5, ok_6, ok_7, ok_9, ok_20, ok_21, ok_30, ok_50, ok_180, ok_192, ok_200, ha, a0]
  all_goals grind [ui_ap]
theorem ck_freeHosts {a : Nat} (ha : K a = 1) (hT : cT C K L I R) {b s : Int32} (hs : 0 ≤ s ∧ s < 200) (hP : ∀ v, P (some (.int v)) (n, t, K, L, I, R)) : a_does (d + 2) 108 [a_rf (C + 14), a_rf a, .int b, .int s] (n, t, K, L, I, R) P := by
  have hS := hT.s
  obtain ⟨a1, a2, a4, a3⟩ := hT.g_ask a ha
  have a0 : (a = 0) = False := eq_false (by omega)
  have gr := hT.g_rest
  have hl := fun f e (hf : 0 ≤ f ∧ f ≤ 200) (he : e ≤ 199) u => lk_freeHosts_32 (d := d) ha hT (b := b) (s := s) hf he hP 0 (by decide) 0 u (by decide)
  rw [a_enter1 (M := a_m108) rfl (a_cat_rf (a_cat_rf (a_cat_int (a_cat_int a_cat_nil)))) (show 4 ≤ 9 by decide)]
  show a_at _ (a_xm a_m108) 0 [some (a_rf (C + 14)), some (a_rf a), some (.int b), some (.int s), none, none, none, none, none] [] _ _
  repeat' first
    | with_reducible apply And.intro
    | with_reducible assumption
    | with_reducible intro _
    | with_reducible apply hl
    | simp only [q108_0, q108_1, q108_2, q108_3, q108_6, q108_7, q108_10, q108_12, q108_15, q108_16, q108_17, q108_20, q108_21, q108_24, q108_26, q108_27, q108_29, q108_30, k_14 hS, z_14, sp_max, sp_min, as_nil, as_i, as_r, Nat.reduceAdd, Nat.reduceLeDiff, z_eq0, z_eq1, z_or, z_em, Classical.not_not, not_false_eq_true, not_true_eq_false, true_and, and_true, false_and, and_false, and_self, true_implies, false_implies, implies_true, Option.toList_some, Option.toList_none, List.cons_append, List.nil_append, Nat.add_eq_zero_iff, a_nl_i, a_nl_r, a_nl_n, true_or, or_true, eq_self, a_isRA_22, a_isRA_24, a_isRA_32, a_isA_20, ok_4, ok_5, ok_6, ok_7, ok_9, ok_20, ok_21, ok_30, ok_50, ok_180, ok_192, ok_200, ha, a0]
  all_goals grind [ui_ap]
theorem ck_lacksHosts {a : Nat} (ha : K a = 1) (hT : cT C K L I R) {b s w : Int32} (hs : 0 ≤ s ∧ s < 200) (hP : ∀ v, P (some (.int v)) (n, t, K, L, I, R)) : a_does (d + 3) 107 [a_rf (C + 14), a_rf a, .int b, .int s, .int w] (n, t, K, L, I, R) P := by
  have hS := hT.s
  obtain ⟨a1, a2, a4, a3⟩ := hT.g_ask a ha
  have a0 : (a = 0) = False := eq_false (by omega)
  rw [a_enter1 (M := a_m107) rfl (a_cat_rf (a_cat_rf (a_cat_int (a_cat_int (a_cat_int a_cat_nil))))) (show 5 ≤ 5 by decide)]
  show a_at _ (a_xm a_m107) 0 [some (a_rf (C + 14)), some (a_rf a), some (.int b), some (.int s), some (.int w)] [] _ _
  repeat' first
    | with_reducible apply And.intro
    | with_reducible assumption
    | with_reducible intro _
    | with_reducible apply hP
    | with_reducible apply ck_freeHosts ha hT
    | with_reducible apply ck_bitCount
    | simp only [q107_0, q107_1, q107_2, q107_3, q107_4, q107_7, q107_10, q107_12, q107_15, q107_16, q107_19, q107_20, q107_23, q107_24, q107_27, q107_28, k_14 hS, z_14, as_nil, as_i, as_r, Nat.reduceAdd, Nat.reduceLeDiff, z_eq0, z_eq1, z_or, z_em, Classical.not_not, not_false_eq_true, not_true_eq_false, true_and, and_true, false_and, and_false, and_self, true_implies, false_implies, implies_true, Option.toList_some, Option.toList_none, List.cons_append, List.nil_append, Nat.add_eq_zero_iff, a_nl_i, a_nl_r, a_nl_n, true_or, or_true, eq_self, a_isRA_22, a_isRA_24, a_isRA_32, a_isA_20, ok_4, ok_5, ok_6, ok_7, ok_9, ok_20, ok_21, ok_30, ok_50, ok_180, ok_192, ok_200, ha, a0]
  all_goals grind [ui_ap]
theorem lk_leastThatHolds_12 {a : Nat} (ha : K a = 1) (hT : cT C K L I R) {l b s : Int32} (hP : ∀ v J, dC C K L R I J → P (some (.int v)) (n, t, K, L, J, R)) : ∀ i : Int32, i ≤ 20 → ∀ J u, 0 ≤ i → dC C K L R I J → a_at (d + 2) (a_xm a_m86) 12 [some (a_rf (C + 7)), some (.int l), some (a_rf a), some (.int b), some (.int s), some (.int i), u] [] (n, t, K, L, J, R) P := by
  refine up_ind 20 (fun i hk ih => ?_)
  intro J u q0 hJ
  have hT := hJ.1
  have hS := hT.s
  have gA := hT.g_asksR
  have gB := hT.g_benchesR
  have gX := hT.g_textsR
  have gc := hT.g_texts
  have gi := gX i.toNatClampNeg
  rw [q86_12]
  repeat' first
    | with_reducible apply And.intro
    | with_reducible assumption
    | with_reducible intro _
    | with_reducible apply hP
    | with_reducible apply ih
    | with_reducible apply ck_value
    | with_reducible apply dC_C
    | simp only [q86_14, q86_15, q86_18, q86_21, q86_22, q86_24, q86_27, q86_29, q86_31, q86_34, q86_36, q86_39, q86_40, q86_43, q86_45, q86_47, q86_50, q86_53, q86_55, q86_56, q86_59, q86_60, q86_63, q86_66, q86_69, q86_71, q86_72, q86_75, q86_78, q86_80, k_7 hS, z_7, r_7_1 hS, k_9 hS, l_9 hS, z_9, r_7_2 hS, k_10 hS, l_10 hS, z_10, sp_textAt hS gX, sp_inForce, as_nil, as_i, as_r, Nat.reduceAdd, Nat.reduceLeDiff, z_eq0, z_eq1, z_or, z_em, Classical.not_not, not_false_eq_true, not_true_eq_false, true_and, and_true, false_and, and_false, and_self, true_implies, false_implies, implies_true, Option.toList_some, Option.toList_none, List.cons_append, List.nil_append, Nat.add_eq_zero_iff, a_nl_i, a_nl_r, a_nl_n, true_or, or_true, eq_self, a_isRA_22, a_isRA_24, a_isRA_32, a_isA_20, ok_4, ok_5, ok_6, ok_7, ok_9, ok_20, ok_21, ok_30, ok_50, ok_180, ok_192, ok_200]
  all_goals grind [ui_ap]
theorem ck_least {a : Nat} (ha : K a = 1) (hT : cT C K L I R) {l b s : Int32} (hP : ∀ v J, dC C K L R I J → P (some (.int v)) (n, t, K, L, J, R)) : a_does (d + 3) 86 [a_rf (C + 7), .int l, a_rf a, .int b, .int s] (n, t, K, L, I, R) P := by
  have hS := hT.s
  obtain ⟨a1, a2, a4, a3⟩ := hT.g_ask a ha
  have a0 : (a = 0) = False := eq_false (by omega)
  have hl := fun J u (h : dC C K L R I J) => lk_leastThatHolds_12 (d := d) ha hT (l := l) (b := b) (s := s) hP 0 (by decide) J u (by decide) h
  rw [a_enter1 (M := a_m86) rfl (a_cat_rf (a_cat_int (a_cat_rf (a_cat_int (a_cat_int a_cat_nil))))) (show 5 ≤ 7 by decide)]
  show a_at _ (a_xm a_m86) 0 [some (a_rf (C + 7)), some (.int l), some (a_rf a), some (.int b), some (.int s), none, none] [] _ _
  repeat' first
    | with_reducible apply And.intro
    | with_reducible assumption
    | with_reducible intro _
    | with_reducible apply hl
    | with_reducible apply ck_learn
    | simp only [q86_0, q86_1, q86_2, q86_3, q86_5, q86_6, q86_9, q86_10, k_7 hS, z_7, as_nil, as_i, as_r, Nat.reduceAdd, Nat.reduceLeDiff, z_eq0, z_eq1, z_or, z_em, Classical.not_not, not_false_eq_true, not_true_eq_false, true_and, and_true, false_and, and_false, and_self, true_implies, false_implies, implies_true, Option.toList_some, Option.toList_none, List.cons_append, List.nil_append, Nat.add_eq_zero_iff, a_nl_i, a_nl_r, a_nl_n, true_or, or_true, eq_self, a_isRA_22, a_isRA_24, a_isRA_32, a_isA_20, ok_4, ok_5, ok_6, ok_7, ok_9, ok_20, ok_21, ok_30, ok_50, ok_180, ok_192, ok_200, ha, a0]
  all_goals grind [ui_ap]
theorem lk_quarrelsWith_49 (hT : cT C K L I R) {m s : Int32} {x : Nat} (hx : K x = 11) (hm : 0 ≤ m) (hP : ∀ v J, dC C K L R I J → P (some (.int v)) (n, t, K, L, J, R)) : ∀ i : Int32, i ≤ 20 → ∀ J w u, 0 ≤ i → dC C K L R I J → a_at (d + 2) (a_xm a_m88) 49 [some (a_rf (C + 7)), some (.int m), some (.int s), some (a_rf x), some (.int w), some (.int i), u] [] (n, t, K, L, J, R) P := by
  refine up_ind 20 (fun i hk ih => ?_)
  intro J w u q0 hJ
  have hT := hJ.1
  have hS := hT.s
  have gA := hT.g_asksR
  have gB := hT.g_benchesR
  have gX := hT.g_textsR
  have gc := hT.g_texts
  have gi := gX i.toNatClampNeg
  have x0 : (x = 0) = False := eq_false (by have := hT.g_txt x hx; omega)
  rw [q88_49]
  repeat' first
    | with_reducible apply And.intro
    | with_reducible assumption
    | with_reducible intro _
    | with_reducible apply hP
    | with_reducible apply ih
    | with_reducible apply ck_value
    | with_reducible apply dC_C
    | simp only [q88_51, q88_52, q88_55, q88_58, q88_59, q88_61, q88_64, q88_66, q88_68, q88_71, q88_73, q88_76, q88_78, q88_81, q88_83, q88_84, q88_87, q88_90, q88_92, q88_95, q88_96, q88_99, q88_102, q88_104, q88_105, q88_108, q88_109, q88_112, q88_115, q88_117, q88_120, q88_122, q88_123, q88_126, q88_129, q88_131, k_7 hS, z_7, r_7_1 hS, k_9 hS, l_9 hS, z_9, r_7_2 hS, k_10 hS, l_10 hS, z_10, sp_textAt hS gX, sp_inForce, as_nil, as_i, as_r, Nat.reduceAdd, Nat.reduceLeDiff, z_eq0, z_eq1, z_or, z_em, Classical.not_not, not_false_eq_true, not_true_eq_false, true_and, and_true, false_and, and_false, and_self, true_implies, false_implies, implies_true, Option.toList_some, Option.toList_none, List.cons_append, List.nil_append, Nat.add_eq_zero_iff, a_nl_i, a_nl_r, a_nl_n, true_or, or_true, eq_self, a_isRA_22, a_isRA_24, a_isRA_32, a_isA_20, ok_4, ok_5, ok_6, ok_7, ok_9, ok_20, ok_21, ok_30, ok_50, ok_180, ok_192, ok_200, hx, x0]
  all_goals grind [ui_ap]
theorem ck_quarrelsWith (hT : cT C K L I R) {m s : Int32} (hm : 0 ≤ m ∧ m < 20) (hP : ∀ v J, dC C K L R I J → P (some (.int v)) (n, t, K, L, J, R)) : a_does (d + 3) 88 [a_rf (C + 7), .int m, .int s] (n, t, K, L, I, R) P := by
  have hS := hT.s
  have gA := hT.g_asksR
  have gB := hT.g_benchesR
  have gX := hT.g_textsR
  have gi := gX m.toNatClampNeg
  have hl := fun J w u (hx : K (R (C + 8) m.toNatClampNeg) = 11) (h : dC C K L R I J) => lk_quarrelsWith_49 (d := d) hT (m := m) (s := s) hx hm.1 hP (m + 1) (by grind) J w u (by grind) h
  have hr := dC_refl hT
  rw [a_enter1 (M := a_m88) rfl (a_cat_rf (a_cat_int (a_cat_int a_cat_nil))) (show 3 ≤ 7 by decide)]
  show a_at _ (a_xm a_m88) 0 [some (a_rf (C + 7)), some (.int m), some (.int s), none, none, none, none] [] _ _
  repeat' first
    | with_reducible apply And.intro
    | with_reducible assumption
    | with_reducible intro _
    | with_reducible apply hP
    | with_reducible apply hl
    | with_reducible apply ck_value
    | simp only [q88_0, q88_1, q88_2, q88_5, q88_6, q88_7, q88_10, q88_11, q88_14, q88_16, q88_19, q88_20, q88_21, q88_24, q88_27, q88_29, q88_30, q88_31, q88_32, q88_35, q88_36, q88_39, q88_42, q88_44, q88_45, q88_46, q88_47, k_7 hS, z_7, r_7_1 hS, k_9 hS, l_9 hS, z_9, r_7_2 hS, k_10 hS, l_10 hS, z_10, sp_textAt hS gX, sp_inForce, as_nil, as_i, as_r, Nat.reduceAdd, Nat.reduceLeDiff, z_eq0, z_eq1, z_or, z_em, Classical.not_not, not_false_eq_true, not_true_eq_false, true_and, and_true, false_and, and_false, and_self, true_implies, false_implies, implies_true, Option.toList_some, Option.toList_none, List.cons_append, List.nil_append, Nat.add_eq_zero_iff, a_nl_i, a_nl_r, a_nl_n, true_or, or_true, eq_self, a_isRA_22, a_isRA_24, a_isRA_32, a_isA_20, ok_4, ok_5, ok_6, ok_7, ok_9, ok_20, ok_21, ok_30, ok_50, ok_180, ok_192, ok_200]
  all_goals grind [ui_ap]
theorem lk_quarrel_11 {a : Nat} (ha : K a = 1) (hT : cT C K L I R) {b s w : Int32} (hP : ∀ v J, dC C K L R I J → P (some (.int v)) (n, t, K, L, J, R)) : ∀ i : Int32, i ≤ 20 → ∀ J u, 0 ≤ i → dC C K L R I J → a_at (d + 3) (a_xm a_m87) 11 [some (a_rf (C + 7)), some (a_rf a), some (.int b), some (.int s), some (.int w), some (.int i), u] [] (n, t, K, L, J, R) P := by
  refine up_ind 20 (fun i hk ih => ?_)
  intro J u q0 hJ
  have hT := hJ.1
  have hS := hT.s
  have gA := hT.g_asksR
  have gB := hT.g_benchesR
  have gX := hT.g_textsR
  have gc := hT.g_texts
  rw [q87_11]
  repeat' first
    | with_reducible apply And.intro
    | with_reducible assumption
    | with_reducible intro _
    | with_reducible apply hP
    | with_reducible apply ih
    | with_reducible apply ck_quarrelsWith
    | with_reducible apply dC_C
    | simp only [q87_13, q87_14, q87_17, q87_20, q87_21, q87_23, q87_24, q87_27, q87_29, q87_31, q87_33, q87_36, q87_38, q87_41, q87_43, q87_46, q87_48, q87_49, q87_52, q87_55, q87_57, k_7 hS, z_7, as_nil, as_i, as_r, Nat.reduceAdd, Nat.reduceLeDiff, z_eq0, z_eq1, z_or, z_em, Classical.not_not, not_false_eq_true, not_true_eq_false, true_and, and_true, false_and, and_false, and_self, true_implies, false_implies, implies_true, Option.toList_some, Option.toList_none, List.cons_append, List.nil_append, Nat.add_eq_zero_iff, a_nl_i, a_nl_r, a_nl_n, true_or, or_true, eq_self, a_isRA_22, a_isRA_24, a_isRA_32, a_isA_20, ok_4, ok_5, ok_6, ok_7, ok_9, ok_20, ok_21, ok_30, ok_50, ok_180, ok_192, ok_200]
  all_goals grind [ui_ap]
theorem ck_quarrel {a : Nat} (ha : K a = 1) (hT : cT C K L I R) {b s w : Int32} (hP : ∀ v J, dC C K L R I J → P (some (.int v)) (n, t, K, L, J, R)) : a_does (d + 4) 87 [a_rf (C + 7), a_rf a, .int b, .int s, .int w] (n, t, K, L, I, R) P := by
  have hS := hT.s
  obtain ⟨a1, a2, a4, a3⟩ := hT.g_ask a ha
  have a0 : (a = 0) = False := eq_false (by omega)
  have hl := fun J u (h : dC C K L R I J) => lk_quarrel_11 (d := d) ha hT (b := b) (s := s) (w := w) hP 0 (by decide) J u (by decide) h
  rw [a_enter1 (M := a_m87) rfl (a_cat_rf (a_cat_rf (a_cat_int (a_cat_int (a_cat_int a_cat_nil))))) (show 5 ≤ 7 by decide)]
  show a_at _ (a_xm a_m87) 0 [some (a_rf (C + 7)), some (a_rf a), some (.int b), some (.int s), some (.int w), none, none] [] _ _
  repeat' first
    | with_reducible apply And.intro
    | with_reducible assumption
    | with_reducible intro _
    | with_reducible apply hl
    | with_reducible apply ck_learn
    | simp only [q87_0, q87_1, q87_2, q87_3, q87_4, q87_5, q87_8, q87_9, k_7 hS, z_7, as_nil, as_i, as_r, Nat.reduceAdd, Nat.reduceLeDiff, z_eq0, z_eq1, z_or, z_em, Classical.not_not, not_false_eq_true, not_true_eq_false, true_and, and_true, false_and, and_false, and_self, true_implies, false_implies, implies_true, Option.toList_some, Option.toList_none, List.cons_append, List.nil_append, Nat.add_eq_zero_iff, a_nl_i, a_nl_r, a_nl_n, true_or, or_true, eq_self, a_isRA_22, a_isRA_24, a_isRA_32, a_isA_20, ok_4, ok_5, ok_6, ok_7, ok_9, ok_20, ok_21, ok_30, ok_50, ok_180, ok_192, ok_200, ha, a0]
  all_goals grind [ui_ap]
theorem ck_barIn {a : Nat} (ha : K a = 1) (hT : cT C K L I R) {b f s : Int32} (hP : ∀ (v : Int32) J, dC C K L R I J → (v = 0 → 0 ≤ s ∧ s < 200) → P (some (.int v)) (n, t, K, L, J, R)) : a_does (d + 4) 101 [a_rf (C + 14), a_rf a, .int b, .int f, .int s] (n, t, K, L, I, R) P := by
  have hS := hT.s
  obtain ⟨a1, a2, a4, a3⟩ := hT.g_ask a ha
  have a0 : (a = 0) = False := eq_false (by omega)
  have hr := dC_refl hT
  rw [a_enter1 (M := a_m101) rfl (a_cat_rf (a_cat_rf (a_cat_int (a_cat_int (a_cat_int a_cat_nil))))) (show 5 ≤ 6 by decide)]
  show a_at _ (a_xm a_m101) 0 [some (a_rf (C + 14)), some (a_rf a), some (.int b), some (.int f), some (.int s), none] [] _ _
  repeat' first
    | with_reducible apply And.intro
    | with_reducible assumption
    | with_reducible intro _
    | with_reducible apply hP
    | with_reducible apply ck_fixedBar
    | with_reducible apply ck_isHadByOther
    | with_reducible apply ck_isGearElsewhere
    | with_reducible apply ck_least
    | with_reducible apply ck_lacksHosts
    | with_reducible apply ck_isTooNear
    | with_reducible apply ck_isBeyondDays
    | with_reducible apply dC_C
    | with_reducible apply dC_T
    | simp only [q101_0, q101_1, q101_2, q101_3, q101_5, q101_8, q101_10, q101_12, q101_15, q101_17, q101_18, q101_19, q101_20, q101_21, q101_23, q101_26, q101_29, q101_31, q101_32, q101_33, q101_34, q101_35, q101_37, q101_40, q101_43, q101_45, q101_46, q101_47, q101_50, q101_52, q101_53, q101_54, q101_56, q101_59, q101_61, q101_64, q101_66, q101_67, q101_68, q101_69, q101_70, q101_72, q101_73, q101_76, q101_78, q101_79, q101_80, q101_82, q101_85, q101_87, q101_90, q101_91, q101_94, q101_95, q101_98, q101_101, q101_103, q101_104, q101_105, q101_106, q101_107, q101_110, q101_113, q101_115, q101_116, q101_117, q101_118, q101_120, q101_123, q101_126, q101_128, q101_131, q101_132, k_14 hS, z_14, r_14_1 hS, k_7 hS, z_7, as_nil, as_i, as_r, Nat.reduceAdd, Nat.reduceLeDiff, z_eq0, z_eq1, z_or, z_em, Classical.not_not, not_false_eq_true, not_true_eq_false, true_and, and_true, false_and, and_false, and_self, true_implies, false_implies, implies_true, Option.toList_some, Option.toList_none, List.cons_append, List.nil_append, Nat.add_eq_zero_iff, a_nl_i, a_nl_r, a_nl_n, true_or, or_true, eq_self, a_isRA_22, a_isRA_24, a_isRA_32, a_isA_20, ok_4, ok_5, ok_6, ok_7, ok_9, ok_20, ok_21, ok_30, ok_50, ok_180, ok_192, ok_200, ha, a0]
  all_goals ((try clear ih); (try clear hP); (try clear hl); (try clear hq); (try clear a3); grind [ui_ap])
theorem lk_firstBar_3 {a : Nat} (ha : K a = 1) (hT : cT C K L I R) {b s : Int32} (hP : ∀ (v : Int32) J, dC C K L R I J → (v = 0 → fitP s (I a 2)) → P (some (.int v)) (n, t, K, L, J, R)) : ∀ i : Int32, i ≤ 4 → ∀ J u, 0 ≤ i → atP s i → dC C K L R I J → a_at (d + 4) (a_xm a_m100) 3 [some (a_rf (C + 14)), some (a_rf a), some (.int b), some (.int s), some (.int i), u] [] (n, t, K, L, J, R) P := by
  obtain ⟨a1, a2, a4, a3⟩ := hT.g_ask a ha
  have a0 : (a = 0) = False := eq_false (by omega)
  refine up_ind 4 (fun i hk ih => ?_)
  intro J u q0 q1 hJ
  have e2 := dC_at hJ hT ha 2
  have hT := hJ.1
  have n1 := fun h => sh_next (s := s) q0 h q1
  have n2 := sh_end q1 hk a2.1
  have hS := hT.s
  rw [q100_3]
  repeat' first
    | with_reducible apply And.intro
    | with_reducible assumption
    | with_reducible intro _
    | with_reducible apply hP
    | with_reducible apply n1
    | with_reducible apply n2
    | with_reducible apply ih
    | with_reducible apply ck_barIn
    | with_reducible apply dC_C
    | simp only [q100_5, q100_6, q100_9, q100_12, q100_13, q100_14, q100_15, q100_16, q100_17, q100_19, q100_20, q100_23, q100_25, q100_27, q100_30, q100_32, q100_33, q100_36, q100_39, q100_40, k_14 hS, z_14, as_nil, as_i, as_r, Nat.reduceAdd, Nat.reduceLeDiff, z_eq0, z_eq1, z_or, z_em, Classical.not_not, not_false_eq_true, not_true_eq_false, true_and, and_true, false_and, and_false, and_self, true_implies, false_implies, implies_true, Option.toList_some, Option.toList_none, List.cons_append, List.nil_append, Nat.add_eq_zero_iff, a_nl_i, a_nl_r, a_nl_n, true_or, or_true, eq_self, a_isRA_22, a_isRA_24, a_isRA_32, a_isA_20, ok_4, ok_5, ok_6, ok_7, ok_9, ok_20, ok_21, ok_30, ok_50, ok_180, ok_192, ok_200, ha, a0, e2]
  all_goals ((try clear ih); (try clear hP); (try clear hl); (try clear hq); (try clear a3); grind [ui_ap])
theorem ck_firstBar {a : Nat} (ha : K a = 1) (hT : cT C K L I R) {b s : Int32} (hP : ∀ (v : Int32) J, dC C K L R I J → (v = 0 → fitP s (I a 2)) → P (some (.int v)) (n, t, K, L, J, R)) : a_does (d + 5) 100 [a_rf (C + 14), a_rf a, .int b, .int s] (n, t, K, L, I, R) P := by
  have hS := hT.s
  have hl := fun u => lk_firstBar_3 (d := d) ha hT (b := b) hP 0 (by decide) I u (by decide) (Or.inl rfl) (dC_refl hT)
  rw [a_enter1 (M := a_m100) rfl (a_cat_rf (a_cat_rf (a_cat_int (a_cat_int a_cat_nil)))) (show 4 ≤ 6 by decide)]
  show a_at _ (a_xm a_m100) 0 [some (a_rf (C + 14)), some (a_rf a), some (.int b), some (.int s), none, none] [] _ _
  repeat' first
    | with_reducible apply And.intro
    | with_reducible assumption
    | with_reducible intro _
    | with_reducible apply hl
    | simp only [q100_0, q100_1, as_nil, as_i, as_r, Nat.reduceAdd, Nat.reduceLeDiff, z_eq0, z_eq1, z_or, z_em, Classical.not_not, not_false_eq_true, not_true_eq_false, true_and, and_true, false_and, and_false, and_self, true_implies, false_implies, implies_true, Option.toList_some, Option.toList_none, List.cons_append, List.nil_append, Nat.add_eq_zero_iff, a_nl_i, a_nl_r, a_nl_n, true_or, or_true, eq_self, a_isRA_22, a_isRA_24, a_isRA_32, a_isA_20, ok_4, ok_5, ok_6, ok_7, ok_9, ok_20, ok_21, ok_30, ok_50, ok_180, ok_192, ok_200]
  all_goals ((try clear ih); (try clear hP); (try clear hl); (try clear hq); (try clear a3); grind [ui_ap])
theorem lk_suits_3 {a : Nat} (ha : K a = 1) (hT : cT C K L I R) {b s : Int32} (hP : ∀ v J, dC C K L R I J → P (some (.int v)) (n, t, K, L, J, R)) : ∀ i : Int32, i ≤ 2147483647 → ∀ J, dC C K L R I J → a_at (d + 4) (a_xm a_m135) 3 [some (a_rf (C + 14)), some (a_rf a), some (.int b), some (.int s), some (.int i)] [] (n, t, K, L, J, R) P := by
  obtain ⟨a1, a2, a4, a3⟩ := hT.g_ask a ha
  have a0 : (a = 0) = False := eq_false (by omega)
  refine up_ind 2147483647 (fun i hk ih => ?_)
  intro J hJ
  have hT := hJ.1
  have hS := hT.s
  rw [q135_3]
  repeat' first
    | with_reducible apply And.intro
    | with_reducible assumption
    | with_reducible intro _
    | with_reducible apply hP
    | with_reducible apply ih
    | with_reducible apply ck_fixedBar
    | with_reducible apply ck_isHadByOther
    | with_reducible apply ck_isGearElsewhere
    | with_reducible apply ck_least
    | with_reducible apply ck_lacksHosts
    | with_reducible apply ck_isTooNear
    | with_reducible apply ck_isBeyondDays
    | with_reducible apply dC_C
    | with_reducible apply dC_T
    | simp only [q135_5, q135_6, q135_7, q135_10, q135_11, q135_14, q135_15, q135_16, q135_17, q135_19, q135_22, q135_25, q135_26, q135_29, q135_31, q135_32, q135_33, q135_35, q135_38, q135_40, q135_43, q135_44, q135_45, q135_47, q135_50, q135_53, q135_54, q135_55, q135_58, q135_61, q135_62, k_14 hS, z_14, r_14_1 hS, k_7 hS, z_7, as_nil, as_i, as_r, Nat.reduceAdd, Nat.reduceLeDiff, z_eq0, z_eq1, z_or, z_em, Classical.not_not, not_false_eq_true, not_true_eq_false, true_and, and_true, false_and, and_false, and_self, true_implies, false_implies, implies_true, Option.toList_some, Option.toList_none, List.cons_append, List.nil_append, Nat.add_eq_zero_iff, a_nl_i, a_nl_r, a_nl_n, true_or, or_true, eq_self, a_isRA_22, a_isRA_24, a_isRA_32, a_isA_20, ok_4, ok_5, ok_6, ok_7, ok_9, ok_20, ok_21, ok_30, ok_50, ok_180, ok_192, ok_200, ha, a0]
  all_goals ((try clear ih); (try clear hP); (try clear hl); (try clear hq); (try clear a3); grind [ui_ap])
theorem ck_suits {a : Nat} (ha : K a = 1) (hT : cT C K L I R) {b s : Int32} (hP : ∀ v J, dC C K L R I J → P (some (.int v)) (n, t, K, L, J, R)) : a_does (d + 5) 135 [a_rf (C + 14), a_rf a, .int b, .int s] (n, t, K, L, I, R) P := by
  have hS := hT.s
  have hl := lk_suits_3 (d := d) ha hT (b := b) (s := s) hP s (le_maxI s) I (dC_refl hT)
  rw [a_enter1 (M := a_m135) rfl (a_cat_rf (a_cat_rf (a_cat_int (a_cat_int a_cat_nil)))) (show 4 ≤ 5 by decide)]
  show a_at _ (a_xm a_m135) 0 [some (a_rf (C + 14)), some (a_rf a), some (.int b), some (.int s), none] [] _ _
  repeat' first
    | with_reducible apply And.intro
    | with_reducible assumption
    | with_reducible intro _
    | with_reducible apply hl
    | simp only [q135_0, q135_1, as_nil, as_i, as_r, Nat.reduceAdd, Nat.reduceLeDiff, z_eq0, z_eq1, z_or, z_em, Classical.not_not, not_false_eq_true, not_true_eq_false, true_and, and_true, false_and, and_false, and_self, true_implies, false_implies, implies_true, Option.toList_some, Option.toList_none, List.cons_append, List.nil_append, Nat.add_eq_zero_iff, a_nl_i, a_nl_r, a_nl_n, true_or, or_true, eq_self, a_isRA_22, a_isRA_24, a_isRA_32, a_isA_20, ok_4, ok_5, ok_6, ok_7, ok_9, ok_20, ok_21, ok_30, ok_50, ok_180, ok_192, ok_200]
  all_goals ((try clear ih); (try clear hP); (try clear hl); (try clear hq); (try clear a3); grind [ui_ap])
theorem lk_isOpen_3 {a : Nat} (ha : K a = 1) (hT : cT C K L I R) {b s w : Int32} (hP : ∀ (v : Int32), (¬ v = 0 → fitP s (I a 2)) → P (some (.int v)) (n, t, K, L, I, R)) : ∀ i : Int32, i ≤ 4 → ∀ u, 0 ≤ i → atP s i → a_at (d + 4) (a_xm a_m136) 3 [some (a_rf (C + 14)), some (a_rf a), some (.int b), some (.int s), some (.int w), some (.int i), u] [] (n, t, K, L, I, R) P := by
  have hS := hT.s
  obtain ⟨a1, a2, a4, a3⟩ := hT.g_ask a ha
  have a0 : (a = 0) = False := eq_false (by omega)
  refine up_ind 4 (fun i hk ih => ?_)
  intro u q0 q1
  have n1 := fun h => sh_next (s := s) q0 h q1
  have n2 := sh_end q1 hk a2.1
  rw [q136_3]
  repeat' first
    | with_reducible apply And.intro
    | with_reducible assumption
    | with_reducible intro _
    | with_reducible apply hP
    | with_reducible apply n1
    | with_reducible apply n2
    | with_reducible apply ih
    | with_reducible apply ck_isHadByOther ha hT
    | with_reducible apply ck_isGearElsewhere ha hT
    | with_reducible apply ck_lacksHosts ha hT
    | simp only [q136_5, q136_6, q136_9, q136_12, q136_13, q136_15, q136_16, q136_18, q136_20, q136_23, q136_26, q136_27, q136_28, q136_29, q136_31, q136_34, q136_37, q136_38, q136_39, q136_40, q136_42, q136_45, q136_48, q136_49, q136_50, q136_51, q136_53, q136_55, q136_57, q136_58, q136_59, q136_60, q136_63, q136_64, q136_67, q136_68, q136_71, q136_74, q136_75, q136_76, q136_79, q136_82, q136_83, k_14 hS, z_14, sp_isShiftC, as_nil, as_i, as_r, Nat.reduceAdd, Nat.reduceLeDiff, z_eq0, z_eq1, z_or, z_em, Classical.not_not, not_false_eq_true, not_true_eq_false, true_and, and_true, false_and, and_false, and_self, true_implies, false_implies, implies_true, Option.toList_some, Option.toList_none, List.cons_append, List.nil_append, Nat.add_eq_zero_iff, a_nl_i, a_nl_r, a_nl_n, true_or, or_true, eq_self, a_isRA_22, a_isRA_24, a_isRA_32, a_isA_20, ok_4, ok_5, ok_6, ok_7, ok_9, ok_20, ok_21, ok_30, ok_50, ok_180, ok_192, ok_200, ha, a0]
  all_goals ((try clear ih); (try clear hP); (try clear hl); (try clear hq); (try clear a3); grind [ui_ap])
theorem ck_isOpen {a : Nat} (ha : K a = 1) (hT : cT C K L I R) {b s w : Int32} (hP : ∀ (v : Int32), (¬ v = 0 → fitP s (I a 2)) → P (some (.int v)) (n, t, K, L, I, R)) : a_does (d + 5) 136 [a_rf (C + 14), a_rf a, .int b, .int s, .int w] (n, t, K, L, I, R) P := by
  have hS := hT.s
  have hl := fun u => lk_isOpen_3 (d := d) ha hT (b := b) (w := w) hP 0 (by decide) u (by decide) (Or.inl rfl)
  rw [a_enter1 (M := a_m136) rfl (a_cat_rf (a_cat_rf (a_cat_int (a_cat_int (a_cat_int a_cat_nil))))) (show 5 ≤ 7 by decide)]
  show a_at _ (a_xm a_m136) 0 [some (a_rf (C + 14)), some (a_rf a), some (.int b), some (.int s), some (.int w), none, none] [] _ _
  repeat' first
    | with_reducible apply And.intro
    | with_reducible assumption
    | with_reducible intro _
    | with_reducible apply hl
    | simp only [q136_0, q136_1, as_nil, as_i, as_r, Nat.reduceAdd, Nat.reduceLeDiff, z_eq0, z_eq1, z_or, z_em, Classical.not_not, not_false_eq_true, not_true_eq_false, true_and, and_true, false_and, and_false, and_self, true_implies, false_implies, implies_true, Option.toList_some, Option.toList_none, List.cons_append, List.nil_append, Nat.add_eq_zero_iff, a_nl_i, a_nl_r, a_nl_n, true_or, or_true, eq_self, a_isRA_22, a_isRA_24, a_isRA_32, a_isA_20, ok_4, ok_5, ok_6, ok_7, ok_9, ok_20, ok_21, ok_30, ok_50, ok_180, ok_192, ok_200]
  all_goals ((try clear ih); (try clear hP); (try clear hl); (try clear hq); (try clear a3); grind [ui_ap])
theorem lk_watchOf_6 {a : Nat} (ha : K a = 1) (hT : cT C K L I R) {b s : Int32} (hP : ∀ v J, dC C K L R I J → P (some (.int v)) (n, t, K, L, J, R)) : ∀ i : Int32, i ≤ 4 → ∀ J o, 0 ≤ i → dC C K L R I J → a_at (d + 4) (a_xm a_m114) 6 [some (a_rf (C + 14)), some (a_rf a), some (.int b), some (.int s), some (.int o), some (.int i)] [] (n, t, K, L, J, R) P := by
  obtain ⟨a1, a2, a4, a3⟩ := hT.g_ask a ha
  have a0 : (a = 0) = False := eq_false (by omega)
  refine up_ind 4 (fun i hk ih => ?_)
  intro J o q0 hJ
  have e2 := dC_at hJ hT ha 2
  have hT := hJ.1
  have hS := hT.s
  rw [q114_6]
  repeat' first
    | with_reducible apply And.intro
    | with_reducible assumption
    | with_reducible intro _
    | with_reducible apply hP
    | with_reducible apply ih
    | with_reducible apply ck_least
    | with_reducible apply dC_C
    | simp only [q114_8, q114_9, q114_12, q114_15, q114_16, q114_19, q114_21, q114_22, q114_23, q114_24, q114_26, q114_27, q114_30, q114_32, q114_35, q114_37, q114_38, q114_40, q114_41, q114_42, q114_44, q114_47, q114_50, q114_52, k_14 hS, z_14, r_14_1 hS, k_7 hS, z_7, as_nil, as_i, as_r, Nat.reduceAdd, Nat.reduceLeDiff, z_eq0, z_eq1, z_or, z_em, Classical.not_not, not_false_eq_true, not_true_eq_false, true_and, and_true, false_and, and_false, and_self, true_implies, false_implies, implies_true, Option.toList_some, Option.toList_none, List.cons_append, List.nil_append, Nat.add_eq_zero_iff, a_nl_i, a_nl_r, a_nl_n, true_or, or_true, eq_self, a_isRA_22, a_isRA_24, a_isRA_32, a_isA_20, ok_4, ok_5, ok_6, ok_7, ok_9, ok_20, ok_21, ok_30, ok_50, ok_180, ok_192, ok_200, ha, a0, e2]
  all_goals ((try clear ih); (try clear hP); (try clear hl); (try clear hq); (try clear a3); grind [ui_ap])
theorem ck_watchOf {a : Nat} (ha : K a = 1) (hT : cT C K L I R) {b s : Int32} (hP : ∀ v J, dC C K L R I J → P (some (.int v)) (n, t, K, L, J, R)) : a_does (d + 5) 114 [a_rf (C + 14), a_rf a, .int b, .int s] (n, t, K, L, I, R) P := by
  have hS := hT.s
  have hl := lk_watchOf_6 (d := d) ha hT (b := b) (s := s) hP 0 (by decide) I 0 (by decide) (dC_refl hT)
  rw [a_enter1 (M := a_m114) rfl (a_cat_rf (a_cat_rf (a_cat_int (a_cat_int a_cat_nil)))) (show 4 ≤ 6 by decide)]
  show a_at _ (a_xm a_m114) 0 [some (a_rf (C + 14)), some (a_rf a), some (.int b), some (.int s), none, none] [] _ _
  repeat' first
    | with_reducible apply And.intro
    | with_reducible assumption
    | with_reducible intro _
    | with_reducible apply hl
    | simp only [q114_0, q114_1, q114_3, q114_4, as_nil, as_i, as_r, Nat.reduceAdd, Nat.reduceLeDiff, z_eq0, z_eq1, z_or, z_em, Classical.not_not, not_false_eq_true, not_true_eq_false, true_and, and_true, false_and, and_false, and_self, true_implies, false_implies, implies_true, Option.toList_some, Option.toList_none, List.cons_append, List.nil_append, Nat.add_eq_zero_iff, a_nl_i, a_nl_r, a_nl_n, true_or, or_true, eq_self, a_isRA_22, a_isRA_24, a_isRA_32, a_isA_20, ok_4, ok_5, ok_6, ok_7, ok_9, ok_20, ok_21, ok_30, ok_50, ok_180, ok_192, ok_200]
  all_goals ((try clear ih); (try clear hP); (try clear hl); (try clear hq); (try clear a3); grind [ui_ap])
theorem lk_lay_26 {a : Nat} (ha : K a = 1) (hT : cT C K L I R) {b s w : Int32} {x : Nat} (hb : K x = 3) (hP : ∀ J, dL C K L R I J → P none (n, t, K, L, J, R)) : ∀ i : Int32, i ≤ 4 → ∀ J u1 u2 u3 u4, 0 ≤ i → dL C K L R I J → a_at (d + 3) (a_xm a_m115) 26 [some (a_rf (C + 14)), some (a_rf a), some (.int b), some (.int s), some (.int w), some (a_rf x), some (.int i), u1, u2, u3, u4] [] (n, t, K, L, J, R) P := by
  obtain ⟨a1, a2, a4, a3⟩ := hT.g_ask a ha
  have a0 : (a = 0) = False := eq_false (by omega)
  refine up_ind 4 (fun i hk ih => ?_)
  intro J u1 u2 u3 u4 q0 hJ
  have e2 := dL_at hJ hT ha 2 (by decide) (by decide)
  have hT := hJ.1
  have x0 : (x = 0) = False := eq_false (by have := (hT.g_bnc x hb).1; omega)
  have hS := hT.s
  rw [q115_26]
  repeat' first
    | with_reducible apply And.intro
    | with_reducible assumption
    | with_reducible intro _
    | with_reducible apply hP
    | with_reducible apply ih
    | with_reducible apply ck_freeHosts
    | with_reducible apply ck_settle hb hJ
    | simp only [q115_28, q115_29, q115_32, q115_35, q115_36, q115_38, q115_39, q115_42, q115_45, q115_46, q115_47, q115_48, q115_49, q115_51, q115_52, q115_55, q115_57, q115_59, q115_61, q115_62, q115_63, q115_65, q115_67, q115_69, q115_70, q115_71, q115_72, q115_74, q115_76, q115_78, q115_79, q115_80, q115_81, q115_84, q115_86, q115_88, q115_89, q115_90, q115_93, q115_94, q115_96, q115_98, q115_99, q115_101, q115_102, q115_103, q115_106, q115_108, q115_110, q115_111, q115_114, q115_117, q115_120, k_14 hS, z_14, sp_isShiftC, as_nil, as_i, as_r, Nat.reduceAdd, Nat.reduceLeDiff, z_eq0, z_eq1, z_or, z_em, Classical.not_not, not_false_eq_true, not_true_eq_false, true_and, and_true, false_and, and_false, and_self, true_implies, false_implies, implies_true, Option.toList_some, Option.toList_none, List.cons_append, List.nil_append, Nat.add_eq_zero_iff, a_nl_i, a_nl_r, a_nl_n, true_or, or_true, eq_self, a_isRA_22, a_isRA_24, a_isRA_32, a_isA_20, ok_4, ok_5, ok_6, ok_7, ok_9, ok_20, ok_21, ok_30, ok_50, ok_180, ok_192, ok_200, ha, a0, e2, hb, x0]
  all_goals ((try clear ih); (try clear hP); (try clear hl); (try clear hq); (try clear a3); grind [ui_ap])
theorem ck_lay {a : Nat} (ha : K a = 1) (hT : cT C K L I R) {b s w : Int32} (hv : fitP s (I a 2)) (hP : ∀ J, dL C K L R I J → P none (n, t, K, L, J, R)) : a_does (d + 4) 115 [a_rf (C + 14), a_rf a, .int b, .int s, .int w] (n, t, K, L, I, R) P := by
  have hS := hT.s
  obtain ⟨a1, a2, a4, a3⟩ := hT.g_ask a ha
  have a0 : (a = 0) = False := eq_false (by omega)
  have gA := hT.g_asksR
  have gB := hT.g_benchesR
  have gX := hT.g_textsR
  have hr := dL_refl hT
  have gi := gB b.toNatClampNeg
  have hl := fun x (hx : K x = 3) u1 u2 u3 u4 => lk_lay_26 (d := d) ha (dL_place hr a1 ha (fun _ => hv)).1 (b := b) (s := s) (w := w) hx (fun J h => hP J (dL_L (dL_place hr a1 ha (fun _ => hv)) h)) 0 (by decide) _ u1 u2 u3 u4 (by decide) (dL_refl (dL_place (w := b) hr a1 ha (fun _ => hv)).1)
  rw [a_enter1 (M := a_m115) rfl (a_cat_rf (a_cat_rf (a_cat_int (a_cat_int (a_cat_int a_cat_nil))))) (show 5 ≤ 11 by decide)]
  show a_at _ (a_xm a_m115) 0 [some (a_rf (C + 14)), some (a_rf a), some (.int b), some (.int s), some (.int w), none, none, none, none, none, none] [] _ _
  repeat' first
    | with_reducible apply And.intro
    | with_reducible assumption
    | with_reducible intro _
    | with_reducible apply hl
    | with_reducible apply hP
    | simp only [q115_0, q115_1, q115_2, q115_5, q115_7, q115_9, q115_12, q115_13, q115_14, q115_15, q115_18, q115_19, q115_20, q115_23, q115_24, k_14 hS, z_14, sp_benchAt hS gB, as_nil, as_i, as_r, Nat.reduceAdd, Nat.reduceLeDiff, z_eq0, z_eq1, z_or, z_em, Classical.not_not, not_false_eq_true, not_true_eq_false, true_and, and_true, false_and, and_false, and_self, true_implies, false_implies, implies_true, Option.toList_some, Option.toList_none, List.cons_append, List.nil_append, Nat.add_eq_zero_iff, a_nl_i, a_nl_r, a_nl_n, true_or, or_true, eq_self, a_isRA_22, a_isRA_24, a_isRA_32, a_isA_20, ok_4, ok_5, ok_6, ok_7, ok_9, ok_20, ok_21, ok_30, ok_50, ok_180, ok_192, ok_200, ha, a0]
  all_goals ((try clear ih); (try clear hP); (try clear hl); (try clear hq); (try clear a3); grind [ui_ap])
theorem lk_lift_14 {a : Nat} (ha : K a = 1) (hT : cT C K L I R) {x : Nat} (hx : x = 0 ∨ K x = 3) (hP : ∀ J, dL C K L R I J → P none (n, t, K, L, J, R)) : ∀ i : Int32, i ≤ 2147483647 → ∀ J, dL C K L R I J → a_at (d + 3) (a_xm a_m51) 14 [some (a_rf (C + 14)), some (a_rf a), some (a_rf x), some (.int i)] [] (n, t, K, L, J, R) P := by
  obtain ⟨a1, a2, a4, a3⟩ := hT.g_ask a ha
  have a0 : (a = 0) = False := eq_false (by omega)
  refine up_ind 2147483647 (fun i hk ih => ?_)
  intro J hJ
  have hT := hJ.1
  have hq := hP _ (dL_place (w := -9) (v := -9) hJ a1 ha (fun h => absurd h (by decide)))
  have hS := hT.s
  rw [q51_14]
  repeat' first
    | with_reducible apply And.intro
    | with_reducible assumption
    | with_reducible intro _
    | with_reducible apply hq
    | with_reducible apply ih
    | with_reducible apply ck_settle (I0 := I)
    | simp only [q51_15, q51_18, q51_19, q51_20, q51_23, q51_26, q51_27, q51_30, q51_33, q51_34, q51_35, q51_37, q51_38, q51_41, q51_44, q51_47, q51_48, q51_50, q51_53, q51_54, q51_56, q51_59, k_14 hS, z_14, sp_last, sp_isShiftC, as_nil, as_i, as_r, Nat.reduceAdd, Nat.reduceLeDiff, z_eq0, z_eq1, z_or, z_em, Classical.not_not, not_false_eq_true, not_true_eq_false, true_and, and_true, false_and, and_false, and_self, true_implies, false_implies, implies_true, Option.toList_some, Option.toList_none, List.cons_append, List.nil_append, Nat.add_eq_zero_iff, a_nl_i, a_nl_r, a_nl_n, true_or, or_true, eq_self, a_isRA_22, a_isRA_24, a_isRA_32, a_isA_20, ok_4, ok_5, ok_6, ok_7, ok_9, ok_20, ok_21, ok_30, ok_50, ok_180, ok_192, ok_200, ha, a0]
  all_goals ((try clear ih); (try clear hP); (try clear hl); (try clear hq); (try clear a3); grind [ui_ap])
theorem ck_lift {a : Nat} (ha : K a = 1) (hT : cT C K L I R) (hP : ∀ J, dL C K L R I J → P none (n, t, K, L, J, R)) : a_does (d + 4) 51 [a_rf (C + 14), a_rf a] (n, t, K, L, I, R) P := by
  have hS := hT.s
  obtain ⟨a1, a2, a4, a3⟩ := hT.g_ask a ha
  have a0 : (a = 0) = False := eq_false (by omega)
  have gA := hT.g_asksR
  have gB := hT.g_benchesR
  have gX := hT.g_textsR
  have gi := gB (I a 13).toNatClampNeg
  have hl := fun x (hx : x = 0 ∨ K x = 3) => lk_lift_14 (d := d) ha hT hx hP (I a 14) (le_maxI _) I (dL_refl hT)
  rw [a_enter1 (M := a_m51) rfl (a_cat_rf (a_cat_rf a_cat_nil)) (show 2 ≤ 4 by decide)]
  show a_at _ (a_xm a_m51) 0 [some (a_rf (C + 14)), some (a_rf a), none, none] [] _ _
  repeat' first
    | with_reducible apply And.intro
    | with_reducible assumption
    | with_reducible intro _
    | with_reducible apply hl
    | simp only [q51_0, q51_1, q51_2, q51_5, q51_8, q51_9, q51_10, q51_13, k_14 hS, z_14, sp_benchAt hS gB, as_nil, as_i, as_r, Nat.reduceAdd, Nat.reduceLeDiff, z_eq0, z_eq1, z_or, z_em, Classical.not_not, not_false_eq_true, not_true_eq_false, true_and, and_true, false_and, and_false, and_self, true_implies, false_implies, implies_true, Option.toList_some, Option.toList_none, List.cons_append, List.nil_append, Nat.add_eq_zero_iff, a_nl_i, a_nl_r, a_nl_n, true_or, or_true, eq_self, a_isRA_22, a_isRA_24, a_isRA_32, a_isA_20, ok_4, ok_5, ok_6, ok_7, ok_9, ok_20, ok_21, ok_30, ok_50, ok_180, ok_192, ok_200, ha, a0]
  all_goals ((try clear ih); (try clear hP); (try clear hl); (try clear hq); (try clear a3); grind [ui_ap])
theorem ck_place {a : Nat} (ha : K a = 1) (hT : cT C K L I R) {b s : Int32} (hv : fitP s (I a 2)) (hP : ∀ J, dL C K L R I J → P none (n, t, K, L, J, R)) : a_does (d + 6) 113 [a_rf (C + 14), a_rf a, .int b, .int s] (n, t, K, L, I, R) P := by
  have hS := hT.s
  obtain ⟨a1, a2, a4, a3⟩ := hT.g_ask a ha
  have a0 : (a = 0) = False := eq_false (by omega)
  have gA := hT.g_asksR
  have gB := hT.g_benchesR
  have gX := hT.g_textsR
  have gi := gB b.toNatClampNeg
  rw [a_enter1 (M := a_m113) rfl (a_cat_rf (a_cat_rf (a_cat_int (a_cat_int a_cat_nil)))) (show 4 ≤ 5 by decide)]
  show a_at _ (a_xm a_m113) 0 [some (a_rf (C + 14)), some (a_rf a), some (.int b), some (.int s), none] [] _ _
  simp only [q113_0, q113_1, q113_2, q113_3, q113_4, q113_5, q113_6, q113_7, q113_8, k_14 hS, z_14, as_nil, as_i, as_r, Nat.reduceAdd, Nat.reduceLeDiff, z_eq0, z_eq1, z_or, z_em, Classical.not_not, not_false_eq_true, not_true_eq_false, true_and, and_true, false_and, and_false, and_self, true_implies, false_implies, implies_true, Option.toList_some, Option.toList_none, List.cons_append, List.nil_append, Nat.add_eq_zero_iff, a_nl_i, a_nl_r, a_nl_n, true_or, or_true, eq_self, a_isRA_22, a_isRA_24, a_isRA_32, a_isA_20, ok_4, ok_5, ok_6, ok_7, ok_9, ok_20, ok_21, ok_30, ok_50, ok_180, ok_192, ok_200, ha, a0]
  refine ck_watchOf ha hT (fun w J j => ?_)
  have e2 := dC_at j hT ha 2
  simp only [q113_11, k_14 hS, z_14, as_nil, as_i, as_r, Nat.reduceAdd, Nat.reduceLeDiff, z_eq0, z_eq1, z_or, z_em, Classical.not_not, not_false_eq_true, not_true_eq_false, true_and, and_true, false_and, and_false, and_self, true_implies, false_implies, implies_true, Option.toList_some, Option.toList_none, List.cons_append, List.nil_append, Nat.add_eq_zero_iff, a_nl_i, a_nl_r, a_nl_n, true_or, or_true, eq_self, a_isRA_22, a_isRA_24, a_isRA_32, a_isA_20, ok_4, ok_5, ok_6, ok_7, ok_9, ok_20, ok_21, ok_30, ok_50, ok_180, ok_192, ok_200, ha, a0]
  refine ck_lay ha j.1 (by rw [e2]; exact hv) (fun J2 j2 => ?_)
  have j3 := dL_L (dL_C (dL_refl hT) j) j2
  have gb := j2.1.g_benches
  have hT := j2.1
  simp only [q113_14, q113_15, q113_16, q113_19, q113_21, q113_23, k_14 hS, z_14, sp_benchAt hS gB, as_nil, as_i, as_r, Nat.reduceAdd, Nat.reduceLeDiff, z_eq0, z_eq1, z_or, z_em, Classical.not_not, not_false_eq_true, not_true_eq_false, true_and, and_true, false_and, and_false, and_self, true_implies, false_implies, implies_true, Option.toList_some, Option.toList_none, List.cons_append, List.nil_append, Nat.add_eq_zero_iff, a_nl_i, a_nl_r, a_nl_n, true_or, or_true, eq_self, a_isRA_22, a_isRA_24, a_isRA_32, a_isA_20, ok_4, ok_5, ok_6, ok_7, ok_9, ok_20, ok_21, ok_30, ok_50, ok_180, ok_192, ok_200, ha, a0]
  refine ⟨fun h1 => ⟨fun h2 => ?_, fun h2 => ?_⟩, fun h1 => ?_⟩
  · simp only [q113_47, as_nil, as_i, as_r, Nat.reduceAdd, Nat.reduceLeDiff, z_eq0, z_eq1, z_or, z_em, Classical.not_not, not_false_eq_true, not_true_eq_false, true_and, and_true, false_and, and_false, and_self, true_implies, false_implies, implies_true, Option.toList_some, Option.toList_none, List.cons_append, List.nil_append, Nat.add_eq_zero_iff, a_nl_i, a_nl_r, a_nl_n, true_or, or_true, eq_self, a_isRA_22, a_isRA_24, a_isRA_32, a_isA_20, ok_4, ok_5, ok_6, ok_7, ok_9, ok_20, ok_21, ok_30, ok_50, ok_180, ok_192, ok_200, ha, a0]
    exact hP _ j3
  · have hb := gi.resolve_left h2
    simp only [q113_26, q113_28, q113_29, q113_30, q113_31, q113_34, q113_35, q113_36, q113_37, q113_38, q113_41, q113_44, k_14 hS, z_14, r_14_0 hS, k_1 hS, z_1, as_nil, as_i, as_r, Nat.reduceAdd, Nat.reduceLeDiff, z_eq0, z_eq1, z_or, z_em, Classical.not_not, not_false_eq_true, not_true_eq_false, true_and, and_true, false_and, and_false, and_self, true_implies, false_implies, implies_true, Option.toList_some, Option.toList_none, List.cons_append, List.nil_append, Nat.add_eq_zero_iff, a_nl_i, a_nl_r, a_nl_n, true_or, or_true, eq_self, a_isRA_22, a_isRA_24, a_isRA_32, a_isA_20, ok_4, ok_5, ok_6, ok_7, ok_9, ok_20, ok_21, ok_30, ok_50, ok_180, ok_192, ok_200, ha, a0, hb, h2]
    refine ck_date hb j3 ⟨hv.1, Int32.le_trans hv.2.1 (by decide)⟩ (fun J3 j4 => ?_)
    simp only [q113_47, as_nil, as_i, as_r, Nat.reduceAdd, Nat.reduceLeDiff, z_eq0, z_eq1, z_or, z_em, Classical.not_not, not_false_eq_true, not_true_eq_false, true_and, and_true, false_and, and_false, and_self, true_implies, false_implies, implies_true, Option.toList_some, Option.toList_none, List.cons_append, List.nil_append, Nat.add_eq_zero_iff, a_nl_i, a_nl_r, a_nl_n, true_or, or_true, eq_self, a_isRA_22, a_isRA_24, a_isRA_32, a_isA_20, ok_4, ok_5, ok_6, ok_7, ok_9, ok_20, ok_21, ok_30, ok_50, ok_180, ok_192, ok_200, ha, a0]
    exact hP _ j4
  · simp only [q113_47, as_nil, as_i, as_r, Nat.reduceAdd, Nat.reduceLeDiff, z_eq0, z_eq1, z_or, z_em, Classical.not_not, not_false_eq_true, not_true_eq_false, true_and, and_true, false_and, and_false, and_self, true_implies, false_implies, implies_true, Option.toList_some, Option.toList_none, List.cons_append, List.nil_append, Nat.add_eq_zero_iff, a_nl_i, a_nl_r, a_nl_n, true_or, or_true, eq_self, a_isRA_22, a_isRA_24, a_isRA_32, a_isA_20, ok_4, ok_5, ok_6, ok_7, ok_9, ok_20, ok_21, ok_30, ok_50, ok_180, ok_192, ok_200, ha, a0]
    first
      | exact hP _ j3
      | exact ⟨fun _ => hP _ j3, fun h => absurd rfl h⟩
end K6
end
section
/-! the class: what grows -/
def cV (C : Nat) (L : Nat → Nat) (R : Nat → Nat → Nat) : Nat := L (R (R (C + 16) 0) 5) + L (R (R (C + 16) 1) 5) + L (R (R (C + 16) 2) 5) + L (R (R (C + 16) 3) 5) + L (R (R (C + 16) 4) 5) + L (R (R (C + 16) 5) 5)
/-- what holds of the heap: nothing behind n, and the room that c calls took -/
def cH (C c n t : Nat) (K L : Nat → Nat) (J : Nat → Nat → Int32) (R : Nat → Nat → Nat) : Prop := cT C K L J R ∧ (∀ x, n ≤ x → K x = 0) ∧ C + 96 < n ∧ (R 0 5 = 0 ∧ L 0 = 0) ∧ t ≤ 300000 + 1000 * c + 2 * cV C L R ∧ 80 * n ≤ 80 * C + 8000 + 800 * c + cV C L R
/-- what giving and taking back may change -/
def dQ (C n : Nat) (K L : Nat → Nat) (I : Nat → Nat → Int32) (R : Nat → Nat → Nat) (n' : Nat) (K' L' : Nat → Nat) (J : Nat → Nat → Int32) (R' : Nat → Nat → Nat) : Prop := n ≤ n' ∧ (∀ x, x < n → K' x = K x) ∧ (∀ x, x < n → L' x = L x) ∧ (∀ x j, x < n → ¬ K x = 3 → R' x j = R x j) ∧ (∀ x j, x < n → ¬ x = C + 9 → ¬ x = C + 10 → ¬ (C + 96 < x ∧ (K x = 20 ∨ (K x = 1 ∧ (j = 13 ∨ j = 14)) ∨ K x = 3)) → J x j = I x j)
section K7
variable {C c n n' n'' t t' : Nat} {K K' K'' L L' L'' : Nat → Nat} {I J J' : Nat → Nat → Int32} {R R' R'' : Nat → Nat → Nat}
theorem dQ_refl : dQ C n K L I R n K L I R := ⟨Nat.le_refl _, fun _ _ => rfl, fun _ _ => rfl, fun _ _ _ _ => rfl, fun _ _ _ _ _ _ => rfl⟩
theorem dQ_Q (h : dQ C n K L I R n' K' L' J R') (h2 : dQ C n' K' L' J R' n'' K'' L'' J' R'') : dQ C n K L I R n'' K'' L'' J' R'' := by
  obtain ⟨p1, p2, p3, p4, p5⟩ := h
  obtain ⟨q1, q2, q3, q4, q5⟩ := h2
  refine ⟨by omega, fun x hx => (q2 x (by omega)).trans (p2 x hx), fun x hx => (q3 x (by omega)).trans (p3 x hx), fun x j hx hk => (q4 x j (by omega) (by rw [p2 x hx]; exact hk)).trans (p4 x j hx hk), fun x j hx h1 h2 h3 => (q5 x j (by omega) h1 h2 (by rw [p2 x hx]; exact h3)).trans (p5 x j hx h1 h2 h3)⟩
theorem dQ_L (h : dL C K L R I J) : dQ C n K L I R n K L J R := ⟨Nat.le_refl _, fun _ _ => rfl, fun _ _ => rfl, fun _ _ _ _ => rfl, fun x j _ h1 h2 h3 => h.2 x j h1 h2 (fun q => h3 ⟨q.1, q.2.elim Or.inl (fun r => Or.inr (Or.inl r))⟩)⟩
theorem dQ_C (h : dC C K L R I J) : dQ C n K L I R n K L J R := ⟨Nat.le_refl _, fun _ _ => rfl, fun _ _ => rfl, fun _ _ _ _ => rfl, fun x j _ h1 h2 h3 => h.2 x j h1 h2⟩
theorem cH_J (h : cH C c n t K L I R) (h2 : cT C K L J R) : cH C c n t K L J R := ⟨h2, h.2⟩
theorem kn_lt (h : ∀ x, n ≤ x → K x = 0) {x k : Nat} (hk : K x = k) (h0 : ¬ k = 0) : x < n := by
  refine Nat.lt_of_not_le (fun q => h0 ?_)
  rw [← hk, h x q]
theorem cT_grow (h : cT C K L I R) (fresh : ∀ x, n ≤ x → K x = 0) (hC : C + 96 < n) (hK : ∀ x, x < n → K' x = K x) (hL : ∀ x, x < n → L' x = L x) (hJ : ∀ x j, x < n → J x j = I x j) (hR : ∀ x j, x < n → R' x j = R x j) (na : ∀ a, n ≤ a → K' a = 1 → (C + 96 < a ∧ (1 ≤ J a 2 ∧ J a 2 ≤ 4) ∧ (0 ≤ J a 4 ∧ J a 4 ≤ 29) ∧ (0 ≤ J a 13 → 0 ≤ J a 14 ∧ J a 14 ≤ 199 ∧ J a 14 + J a 2 ≤ 200))) (nb : ∀ b, n ≤ b → K' b = 3 → (C + 96 < b ∧ (C + 96 < R' b 2 ∧ K' (R' b 2) = 20 ∧ L' (R' b 2) = 200) ∧ (C + 96 < R' b 3 ∧ K' (R' b 3) = 20 ∧ L' (R' b 3) = 200) ∧ (C + 96 < R' b 4 ∧ K' (R' b 4) = 20 ∧ L' (R' b 4) = 200) ∧ (C + 96 < R' b 5 ∧ K' (R' b 5) = 20 ∧ (∃ m, L' (R' b 5) = 80 * m ∧ 1 ≤ m ∧ m ≤ 2048)) ∧ (0 ≤ J b 6 ∧ J b 6 ≤ 16384 ∧ 5 * (J b 6).toNatClampNeg ≤ L' (R' b 5)))) (nx : ∀ x, n ≤ x → K' x = 11 → (C + 96 < x ∧ C + 96 < R' x 2 ∧ K' (R' x 2) = 20 ∧ L' (R' x 2) ≤ 50)) : cT C K' L' J R' := by
  have f1 : ∀ q ∈ c_ks, q.1 ≤ 43 := by decide
  have f2 : ∀ q ∈ c_ls, q.1 ≤ 43 := by decide
  have f3 : ∀ q ∈ c_rs, q.1 ≤ 43 := by decide
  have lt : ∀ {x k : Nat}, K x = k → ¬ k = 0 → x < n := fun hk h0 => kn_lt fresh hk h0
  exact cT_mk
    (s := ⟨h.s.1, fun q hq => (hK _ (by have := f1 q hq; omega)).trans (h.s.2.1 q hq), fun q hq => (hL _ (by have := f2 q hq; omega)).trans (h.s.2.2.1 q hq), fun q hq => (hR _ _ (by have := f3 q hq; omega)).trans (h.s.2.2.2 q hq)⟩)
    (g_now := by rw [hJ _ _ (by omega)]; exact h.g_now)
    (g_trips := by rw [hJ _ _ (by omega)]; exact h.g_trips)
    (g_texts := by rw [hJ _ _ (by omega)]; exact h.g_texts)
    (g_size := by rw [hJ _ _ (by omega)]; exact h.g_size)
    (g_code := by rw [hJ _ _ (by omega)]; exact h.g_code)
    (g_at := by rw [hJ _ _ (by omega)]; exact h.g_at)
    (g_asks := by rw [hJ _ _ (by omega)]; exact h.g_asks)
    (g_benches := by rw [hJ _ _ (by omega)]; exact h.g_benches)
    (g_orderSize := by rw [hJ _ _ (by omega)]; exact h.g_orderSize)
    (g_passed := by rw [hJ _ _ (by omega)]; exact h.g_passed)
    (g_best := by rw [hJ _ _ (by omega)]; exact h.g_best)
    (g_circle := by rw [hJ _ _ (by omega)]; exact h.g_circle)
    (g_row := by rw [hJ _ _ (by omega)]; exact h.g_row)
    (g_rest := by rw [hJ _ _ (by omega)]; exact h.g_rest)
    (g_lost := fun j => by rw [hJ _ _ (by omega)]; exact h.g_lost j)
    (g_spots := fun j => by rw [hJ _ _ (by omega)]; exact h.g_spots j)
    (g_ask := fun a ha => by
      by_cases ln : a < n
      · rw [hJ _ _ ln, hJ _ _ ln, hJ _ _ ln, hJ _ _ ln]
        exact h.g_ask a ((hK a ln).symm.trans ha)
      · exact na a (by omega) ha)
    (g_bnc := fun b hb => by
      by_cases ln : b < n
      · obtain ⟨b1, ⟨w1, w2, w3⟩, ⟨s1, s2, s3⟩, ⟨h1, h2, h3⟩, ⟨p1, p2, p3⟩, q1⟩ := h.g_bnc b ((hK b ln).symm.trans hb)
        have l2 := lt w2 (by decide)
        have l3 := lt s2 (by decide)
        have l4 := lt h2 (by decide)
        have l5 := lt p2 (by decide)
        rw [hR _ _ ln, hR _ _ ln, hR _ _ ln, hR _ _ ln, hJ _ _ ln, hK _ l2, hL _ l2, hK _ l3, hL _ l3, hK _ l4, hL _ l4, hK _ l5, hL _ l5]
        exact ⟨b1, ⟨w1, w2, w3⟩, ⟨s1, s2, s3⟩, ⟨h1, h2, h3⟩, ⟨p1, p2, p3⟩, q1⟩
      · exact nb b (by omega) hb)
    (g_txt := fun x hx => by
      by_cases ln : x < n
      · obtain ⟨x1, x2, x3, x4⟩ := h.g_txt x ((hK x ln).symm.trans hx)
        have l2 := lt x3 (by decide)
        rw [hR _ _ ln, hK _ l2, hL _ l2]
        exact ⟨x1, x2, x3, x4⟩
      · exact nx x (by omega) hx)
    (g_asksN := fun i h0 h1 => by
      rw [hR _ _ (by omega)]
      rw [hJ _ _ (by omega)] at h1
      exact h.g_asksN i h0 h1)
    (g_asksR := fun j => by
      rw [hR _ _ (by omega)]
      exact (h.g_asksR j).imp id (fun q => (hK _ (lt q (by decide))).trans q))
    (g_benchesR := fun j => by
      rw [hR _ _ (by omega)]
      exact (h.g_benchesR j).imp id (fun q => (hK _ (lt q (by decide))).trans q))
    (g_textsR := fun j => by
      rw [hR _ _ (by omega)]
      exact (h.g_textsR j).imp id (fun q => (hK _ (lt q (by decide))).trans q))
    (g_orderR := fun j => by
      rw [hR _ _ (by omega)]
      exact (h.g_orderR j).imp id (fun q => (hK _ (lt q (by decide))).trans q))
    (g_bestR := fun j => by
      rw [hR _ _ (by omega)]
      exact (h.g_bestR j).imp id (fun q => (hK _ (lt q (by decide))).trans q))
    (g_ringR := fun j => by
      rw [hR _ _ (by omega)]
      exact (h.g_ringR j).imp id (fun q => (hK _ (lt q (by decide))).trans q))
    (g_draft := by
      rw [hR _ _ (by omega)]
      exact h.g_draft.imp id (fun q => (hK _ (lt q (by decide))).trans q))
    (g_benN := fun j h1 => by rw [hR _ _ (by omega)]; rw [hJ _ _ (by omega)] at h1; exact h.g_benN j h1)
    (g_benY := fun j h1 => by rw [hR _ _ (by omega)]; rw [hJ _ _ (by omega)] at h1; exact h.g_benY j h1)
theorem sT_Rpast (h : cT C K L J R) {x v : Nat} (hx : K x = 3) (hv : C + 96 < v ∧ K v = 20 ∧ (∃ m, L v = 80 * m ∧ 1 ≤ m ∧ m ≤ 2048)) (hp : 5 * (J x 6).toNatClampNeg ≤ L v) : cT C K L J (a_ur R x 5 v) := by
  have f3 : ∀ q ∈ c_rs, q.1 ≤ 43 := by decide
  have x1 := (h.g_bnc x hx).1
  exact cT_mk
    (s := ⟨h.s.1, h.s.2.1, h.s.2.2.1, fun q hq => by
      have := f3 q hq
      rw [ur_ap, if_neg (by omega)]
      exact h.s.2.2.2 q hq⟩)
    (g_now := h.g_now)
    (g_trips := h.g_trips)
    (g_texts := h.g_texts)
    (g_size := h.g_size)
    (g_code := h.g_code)
    (g_at := h.g_at)
    (g_asks := h.g_asks)
    (g_benches := h.g_benches)
    (g_orderSize := h.g_orderSize)
    (g_passed := h.g_passed)
    (g_best := h.g_best)
    (g_circle := h.g_circle)
    (g_row := h.g_row)
    (g_rest := h.g_rest)
    (g_lost := h.g_lost) (g_spots := h.g_spots) (g_ask := h.g_ask)
    (g_bnc := fun b hb => by
      have q := h.g_bnc b hb
      by_cases e : b = x
      · subst e
        simp only [ur_ap, true_and, and_self, if_true, Nat.reduceEqDiff, if_false]
        exact ⟨q.1, q.2.1, q.2.2.1, q.2.2.2.1, hv, q.2.2.2.2.2.1, q.2.2.2.2.2.2.1, hp⟩
      · simp only [ur_ap, e, false_and, if_false]
        exact q)
    (g_txt := fun y hy => by
      have q := h.g_txt y hy
      have e : ¬ y = x := fun e => by rw [e, hx] at hy; cases hy
      simp only [ur_ap, e, false_and, if_false]
      exact q)
    (g_asksR := fun j => by rw [ur_ap, if_neg (by omega)]; exact h.g_asksR j)
    (g_benchesR := fun j => by rw [ur_ap, if_neg (by omega)]; exact h.g_benchesR j)
    (g_textsR := fun j => by rw [ur_ap, if_neg (by omega)]; exact h.g_textsR j)
    (g_orderR := fun j => by rw [ur_ap, if_neg (by omega)]; exact h.g_orderR j)
    (g_bestR := fun j => by rw [ur_ap, if_neg (by omega)]; exact h.g_bestR j)
    (g_ringR := fun j => by rw [ur_ap, if_neg (by omega)]; exact h.g_ringR j)
    (g_asksN := fun i h0 h1 => by rw [ur_ap, if_neg (by omega)]; exact h.g_asksN i h0 h1)
    (g_draft := by rw [ur_ap, if_neg (by omega)]; exact h.g_draft)
    (g_benN := fun j h1 => by rw [ur_ap, if_neg (by omega)]; exact h.g_benN j h1)
    (g_benY := fun j h1 => by rw [ur_ap, if_neg (by omega)]; exact h.g_benY j h1)
theorem up_ne {f : Nat → Nat} {a v x : Nat} (h : ¬ x = a) : a_up f a v x = f x := if_neg h
theorem up_eq {f : Nat → Nat} {a v : Nat} : a_up f a v a = v := if_pos rfl
theorem zi_ne {f : Nat → Nat → Int32} {a x j : Nat} (h : ¬ x = a) : a_zi f a x j = f x j := if_neg h
theorem zr_ne {f : Nat → Nat → Nat} {a x j : Nat} (h : ¬ x = a) : a_zr f a x j = f x j := if_neg h
/-- the past of a bench moves into a row of twice its length -/
theorem cH_past (h : cH C c (n + 1) t K L I R) {b m : Nat} (hb : K b = 3) (hm : L (R b 5) = 80 * m) (hm1 : 1 ≤ m) (hm2 : 2 * m ≤ 2048) (hj : ∃ j, j < 6 ∧ R (C + 16) j = b) (hJ : ∀ x j, x < n + 1 → J x j = I x j) : cH C c (n + 1 + 1) (t + 160 * m) (a_up K (n + 1) 20) (a_up L (n + 1) (160 * m)) J (a_ur (a_zr R (n + 1)) b 5 (n + 1)) := by
  obtain ⟨hT, fr, hC, h0, ht, hn⟩ := h
  have bl : b < n + 1 := kn_lt fr hb (by decide)
  obtain ⟨b1, -, -, -, ⟨p1, p2, -⟩, q1⟩ := hT.g_bnc b hb
  have pl : R b 5 < n + 1 := kn_lt fr p2 (by decide)
  have hT2 : cT C (a_up K (n + 1) 20) (a_up L (n + 1) (160 * m)) J (a_zr R (n + 1)) := by
    refine cT_grow hT fr hC (fun x hx => up_ne (by omega)) (fun x hx => up_ne (by omega)) hJ (fun x j hx => zr_ne (by omega)) (fun a h1 h2 => ?_) (fun a h1 h2 => ?_) (fun a h1 h2 => ?_)
    all_goals
      by_cases e : a = n + 1
      · subst e
        rw [up_eq] at h2
        cases h2
      · rw [up_ne e, fr a (by omega)] at h2
        cases h2
  have hT3 := sT_Rpast (x := b) (v := n + 1) hT2 (by rw [up_ne (by omega)]; exact hb) ⟨by omega, up_eq, 2 * m, by rw [up_eq]; omega, by omega, hm2⟩ (by rw [up_eq, hJ _ _ bl]; have := q1.2.2; omega)
  have hv : ∀ j, a_up L (n + 1) (160 * m) (a_ur (a_zr R (n + 1)) b 5 (n + 1) (a_ur (a_zr R (n + 1)) b 5 (n + 1) (C + 16) j) 5) = if R (C + 16) j = b then 160 * m else L (R (R (C + 16) j) 5) := by
    intro j
    have e1 : a_ur (a_zr R (n + 1)) b 5 (n + 1) (C + 16) j = R (C + 16) j := by rw [ur_ap, if_neg (by omega), zr_ne (by omega)]
    rw [e1]
    by_cases e : R (C + 16) j = b
    · rw [if_pos e, ur_ap, if_pos ⟨e, rfl⟩, up_eq]
    · rw [if_neg e, ur_ap, if_neg (fun q => e q.1)]
      have e2 : R (C + 16) j < n + 1 := by
        rcases hT.g_benchesR j with q | q
        · omega
        · exact kn_lt fr q (by decide)
      rw [zr_ne (by omega), up_ne ?_]
      intro e3
      rcases hT.g_benchesR j with q | q
      · rw [q, h0.1] at e3
        omega
      · have := kn_lt fr (hT.g_bnc _ q).2.2.2.2.1.2.1 (by decide)
        omega
  have hV : cV C L R + 80 * m ≤ cV C (a_up L (n + 1) (160 * m)) (a_ur (a_zr R (n + 1)) b 5 (n + 1)) := by
    unfold cV
    simp only [hv]
    have hb5 : ∀ j, R (C + 16) j = b → L (R (R (C + 16) j) 5) = 80 * m := fun j e => by rw [e]; exact hm
    have hge : ∀ j, L (R (R (C + 16) j) 5) ≤ (if R (C + 16) j = b then 160 * m else L (R (R (C + 16) j) 5)) := fun j => by
      by_cases e : R (C + 16) j = b
      · rw [if_pos e, hb5 j e]
        omega
      · rw [if_neg e]
        exact Nat.le_refl _
    have heq : ∀ j, R (C + 16) j = b → (if R (C + 16) j = b then 160 * m else L (R (R (C + 16) j) 5)) = L (R (R (C + 16) j) 5) + 80 * m := fun j e => by
      rw [if_pos e, hb5 j e]
      omega
    obtain ⟨j, hj1, hj2⟩ := hj
    have z0 := hge 0
    have z1 := hge 1
    have z2 := hge 2
    have z3 := hge 3
    have z4 := hge 4
    have z5 := hge 5
    have zz := heq j hj2
    clear hv hT hT2 hT3 fr hJ ht hn hge heq hb5
    generalize hf : (fun j => if R (C + 16) j = b then 160 * m else L (R (R (C + 16) j) 5)) = f at *
    have e : ∀ j, (if R (C + 16) j = b then 160 * m else L (R (R (C + 16) j) 5)) = f j := fun j => by rw [← hf]
    simp only [e] at *
    rcases (by omega : j = 0 ∨ j = 1 ∨ j = 2 ∨ j = 3 ∨ j = 4 ∨ j = 5) with e | e | e | e | e | e <;> subst e <;> omega
  refine ⟨hT3, fun x hx => ?_, by omega, ?_, by omega, by omega⟩
  · rw [up_ne (by omega), fr x (by omega)]
  · rw [ur_ap, if_neg (by omega), zr_ne (by omega), up_ne (by omega)]
    exact h0

end K7
end
section
/-! the class: taking back -/
section K8
variable {d n t C c : Nat} {K L : Nat → Nat} {I I0 J J0 J1 J2 : Nat → Nat → Int32} {R : Nat → Nat → Nat} {P : Option Value → AH → Prop}
def a_ci (I : Nat → Nat → Int32) (a b sp dp m : Nat) : Nat → Nat → Int32 := fun x j => if x = b then va_cpy (I a) (I b) sp dp m j else I x j
theorem a_copy_eq {a b sp dp m : Nat} : a_copy (n, t, K, L, I, R) a b sp dp m = (n, t, K, L, a_ci I a b sp dp m, R) := rfl
theorem a_kd_eq : a_kd (n, t, K, L, I, R) = K := rfl
theorem a_ln_eq : a_ln (n, t, K, L, I, R) = L := rfl
theorem ci_ne {a b sp dp m x j : Nat} (h : ¬ x = b) : a_ci I a b sp dp m x j = I x j := if_neg h
theorem cn00 : Int32.toNatClampNeg 0 = 0 := rfl
theorem lt00 : ((0 : Int32) < 0) = False := eq_false (by decide)
theorem dQ_ui (h : dQ C n K L I R n K L J R) {x k : Nat} {v : Int32} (hx : C + 96 < x ∧ (K x = 20 ∨ (K x = 1 ∧ (k = 13 ∨ k = 14)) ∨ K x = 3)) : dQ C n K L I R n K L (a_ui J x k v) R := ⟨h.1, h.2.1, h.2.2.1, h.2.2.2.1, fun y j hy h1 h2 h3 => by rw [ui_ap, if_neg (fun e => h3 (by rw [e.1, e.2]; exact hx))]; exact h.2.2.2.2 y j hy h1 h2 h3⟩
theorem dQ_20 (h : dQ C n K L I R n K L J R) {x k : Nat} {v : Int32} (h1 : C + 96 < x) (h2 : K x = 20) : dQ C n K L I R n K L (a_ui J x k v) R := dQ_ui h ⟨h1, Or.inl h2⟩
theorem dQ_3 (h : dQ C n K L I R n K L J R) {x k : Nat} {v : Int32} (h1 : C + 96 < x) (h2 : K x = 3) : dQ C n K L I R n K L (a_ui J x k v) R := dQ_ui h ⟨h1, Or.inr (Or.inr h2)⟩
theorem mul5 {p : Int32} {l : Nat} (h0 : 0 ≤ p) (h1 : p < 16384) (hl : l ≤ 163840) : (p + 1) * 5 ≤ Int32.ofNat l ↔ 5 * (p + 1).toNatClampNeg ≤ l := by
  have e0 := Int32.le_iff_toInt_le.mp h0
  have e1 := Int32.lt_iff_toInt_lt.mp h1
  have c1 : (16384 : Int32).toInt = 16384 := rfl
  have c5 : (5 : Int32).toInt = 5 := rfl
  simp at e0
  have e2 : (p + 1).toInt = p.toInt + 1 := by
    rw [Int32.toInt_add]
    simp [Int.bmod_def]
    omega
  have e3 : ((p + 1) * 5).toInt = (p.toInt + 1) * 5 := by
    rw [Int32.toInt_mul, e2, c5]
    simp only [Int.bmod_def]
    omega
  have e4 : (Int32.ofNat l).toInt = l := by
    rw [Int32.toInt_ofNat']
    simp [Int.bmod_def]
    omega
  rw [Int32.le_iff_toInt_le, e3, e4]
  have e5 : (p + 1).toNatClampNeg = (p.toInt + 1).toNat := by
    show (p + 1).toInt.toNat = _
    rw [e2]
  rw [e5]
  omega
theorem dbl {l : Nat} (hl : l ≤ 81920) : (Int32.ofNat l * 2).toNatClampNeg = 2 * l ∧ ¬ Int32.ofNat l * 2 < 0 ∧ (Int32.ofNat l).toNatClampNeg = l ∧ ¬ Int32.ofNat l < 0 := by
  have c2 : (2 : Int32).toInt = 2 := rfl
  have e4 : (Int32.ofNat l).toInt = l := by
    rw [Int32.toInt_ofNat']
    simp [Int.bmod_def]
    omega
  have e3 : (Int32.ofNat l * 2).toInt = 2 * l := by
    rw [Int32.toInt_mul, e4, c2]
    simp only [Int.bmod_def]
    omega
  refine ⟨?_, ?_, ?_, ?_⟩
  · show (Int32.ofNat l * 2).toInt.toNat = _
    rw [e3]
    omega
  · rw [Int32.lt_iff_toInt_lt, e3]
    simp
    omega
  · show (Int32.ofNat l).toInt.toNat = _
    rw [e4]
    omega
  · rw [Int32.lt_iff_toInt_lt, e4]
    simp
theorem ck_hasRoom {b : Nat} (hb : K b = 3) (hH : cH C c (n + 1) t K L I R) (hj : ∃ j, j < 6 ∧ R (C + 16) j = b) (hP0 : P (some (.int 0)) (n + 1, t, K, L, I, R)) (hP : ∀ n' t' K' L' J R', cH C c (n' + 1) t' K' L' J R' → dQ C (n + 1) K L I R (n' + 1) K' L' J R' → (∀ x j, x < n + 1 → J x j = I x j) → I b 6 < 16384 → 5 * (I b 6 + 1).toNatClampNeg ≤ L' (R' b 5) → P (some (.int 1)) (n' + 1, t', K', L', J, R')) : a_does (d + 1) 48 [a_rf b] (n + 1, t, K, L, I, R) P := by
  have hT := hH.1
  have hS := hT.s
  obtain ⟨b1, ⟨w1, w2, w3⟩, ⟨s1, s2, s3⟩, ⟨h1, h2, h3⟩, ⟨p1, p2, p3⟩, q1⟩ := hT.g_bnc b hb
  have b0 : (b = 0) = False := eq_false (by omega)
  have w0 : (R b 2 = 0) = False := eq_false (by omega)
  have s0 : (R b 3 = 0) = False := eq_false (by omega)
  have h0 : (R b 4 = 0) = False := eq_false (by omega)
  have p0 : (R b 5 = 0) = False := eq_false (by omega)
  obtain ⟨m, m1, m2, m3⟩ := p3
  have fr := hH.2.1
  have bl : b < n + 1 := kn_lt fr hb (by decide)
  have pl : R b 5 < n + 1 := kn_lt fr p2 (by decide)
  have pn : ¬ R b 5 = n + 1 := by omega
  have bn : ¬ b = n + 1 := by omega
  rw [a_enter1 (M := a_m48) rfl (a_cat_rf a_cat_nil) (show 1 ≤ 2 by decide)]
  show a_at _ (a_xm a_m48) 0 [some (a_rf b), none] [] _ _
  simp only [q48_0, q48_1, q48_4, q48_7, q48_10, q48_11, q48_12, q48_13, q48_16, q48_17, q48_18, q48_19, q48_20, q48_21, q48_24, q48_25, as_nil, as_i, as_r, Nat.reduceAdd, Nat.reduceLeDiff, z_eq0, z_eq1, z_or, z_em, Classical.not_not, not_false_eq_true, not_true_eq_false, true_and, and_true, false_and, and_false, and_self, true_implies, false_implies, implies_true, Option.toList_some, Option.toList_none, List.cons_append, List.nil_append, Nat.add_eq_zero_iff, a_nl_i, a_nl_r, a_nl_n, true_or, or_true, eq_self, a_isRA_22, a_isRA_24, a_isRA_32, a_isA_20, ok_4, ok_5, ok_6, ok_7, ok_9, ok_20, ok_21, ok_30, ok_50, ok_180, ok_192, ok_200, hb, b0, w0, w2, w3, s0, s2, s3, h0, h2, h3, p0, p2]
  refine ⟨fun c1 => ?_, fun c1 => ?_⟩
  · have hm := mul5 q1.1 c1 (show L (R b 5) ≤ 163840 by omega)
    refine ⟨fun c2 => ?_, fun c2 => ?_⟩
    · simp only [q48_58, q48_59, as_nil, as_i, as_r, Nat.reduceAdd, Nat.reduceLeDiff, z_eq0, z_eq1, z_or, z_em, Classical.not_not, not_false_eq_true, not_true_eq_false, true_and, and_true, false_and, and_false, and_self, true_implies, false_implies, implies_true, Option.toList_some, Option.toList_none, List.cons_append, List.nil_append, Nat.add_eq_zero_iff, a_nl_i, a_nl_r, a_nl_n, true_or, or_true, eq_self, a_isRA_22, a_isRA_24, a_isRA_32, a_isA_20, ok_4, ok_5, ok_6, ok_7, ok_9, ok_20, ok_21, ok_30, ok_50, ok_180, ok_192, ok_200, hb, b0, w0, w2, w3, s0, s2, s3, h0, h2, h3, p0, p2]
      exact hP n t K L I R hH dQ_refl (fun _ _ _ => rfl) c1 (hm.mp c2)
    · have c3 : ¬ 5 * (I b 6 + 1).toNatClampNeg ≤ L (R b 5) := fun q => c2 (hm.mpr q)
      have ep : (I b 6 + 1).toNatClampNeg = (I b 6).toNatClampNeg + 1 := by
        have e0 := Int32.le_iff_toInt_le.mp q1.1
        have e1 := Int32.lt_iff_toInt_lt.mp c1
        have c1 : (16384 : Int32).toInt = 16384 := rfl
        simp at e0
        have e2 : (I b 6 + 1).toInt = (I b 6).toInt + 1 := by
          rw [Int32.toInt_add]
          simp [Int.bmod_def]
          omega
        show (I b 6 + 1).toInt.toNat = (I b 6).toInt.toNat + 1
        rw [e2]
        omega
      have el : (I b 6).toNatClampNeg < 16384 := by
        have e0 := Int32.le_iff_toInt_le.mp q1.1
        have e1 := Int32.lt_iff_toInt_lt.mp c1
        have c1 : (16384 : Int32).toInt = 16384 := rfl
        simp at e0
        show (I b 6).toInt.toNat < 16384
        omega
      obtain ⟨d1, d2, d3, d4⟩ := dbl (show L (R b 5) ≤ 81920 by omega)
      have f1 : a_up K (n + 1) 20 (R b 5) = 20 := by rw [up_ne pn]; exact p2
      have f2 : a_up K (n + 1) 20 b = 3 := by rw [up_ne bn]; exact hb
      have f3 : a_zr R (n + 1) b 5 = R b 5 := zr_ne bn
      have f4 : a_up L (n + 1) (2 * L (R b 5)) (R b 5) = L (R b 5) := up_ne pn
      have f5 : a_up K (n + 1) 20 (n + 1) = 20 := up_eq
      have f6 : a_up L (n + 1) (2 * L (R b 5)) (n + 1) = 2 * L (R b 5) := up_eq
      have f7 : (n + 1 = 0) = False := eq_false (by omega)
      simp only [q48_28, q48_29, q48_32, q48_33, q48_34, q48_35, q48_37, q48_38, q48_39, q48_42, q48_43, q48_44, q48_45, q48_46, q48_49, q48_50, q48_53, q48_54, q48_55, q48_58, q48_59, as_nil, as_i, as_r, Nat.reduceAdd, Nat.reduceLeDiff, z_eq0, z_eq1, z_or, z_em, Classical.not_not, not_false_eq_true, not_true_eq_false, true_and, and_true, false_and, and_false, and_self, true_implies, false_implies, implies_true, Option.toList_some, Option.toList_none, List.cons_append, List.nil_append, Nat.add_eq_zero_iff, a_nl_i, a_nl_r, a_nl_n, true_or, or_true, eq_self, a_isRA_22, a_isRA_24, a_isRA_32, a_isA_20, ok_4, ok_5, ok_6, ok_7, ok_9, ok_20, ok_21, ok_30, ok_50, ok_180, ok_192, ok_200, hb, b0, w0, w2, w3, s0, s2, s3, h0, h2, h3, p0, p2, d1, d2, d3, d4, f1, f2, f3, f4, f5, f6, f7, a_copy_eq, a_kd_eq, a_ln_eq, cn00, lt00, Nat.zero_add]
      have e9 : 2 * L (R b 5) = 160 * m := by omega
      have hJJ : ∀ x j, x < n + 1 → a_ci (a_zi I (n + 1)) (R b 5) (n + 1) 0 0 (L (R b 5)) x j = I x j := fun x j hx => by rw [ci_ne (by omega), zi_ne (by omega)]
      have hf := hP (n + 1) (t + 160 * m) (a_up K (n + 1) 20) (a_up L (n + 1) (160 * m)) (a_ci (a_zi I (n + 1)) (R b 5) (n + 1) 0 0 (L (R b 5))) (a_ur (a_zr R (n + 1)) b 5 (n + 1)) (cH_past hH hb m1 m2 (by omega) hj hJJ) ⟨by omega, fun x hx => up_ne (by omega), fun x hx => up_ne (by omega), fun x j hx hk => by rw [ur_ap, if_neg (fun e => hk (by rw [e.1]; exact hb)), zr_ne (by omega)], fun x j hx _ _ _ => hJJ x j hx⟩ hJJ c1 (by rw [ur_ap, if_pos ⟨rfl, rfl⟩, up_eq]; omega)
      rw [e9]
      try simp only [not_false_eq_true, true_and, and_true]
      repeat' first
        | with_reducible apply And.intro
        | exact hf
        | decide
        | omega
  · try simp only [q48_10, q48_11, as_nil, as_i, as_r, Nat.reduceAdd, Nat.reduceLeDiff, z_eq0, z_eq1, z_or, z_em, Classical.not_not, not_false_eq_true, not_true_eq_false, true_and, and_true, false_and, and_false, and_self, true_implies, false_implies, implies_true, Option.toList_some, Option.toList_none, List.cons_append, List.nil_append, Nat.add_eq_zero_iff, a_nl_i, a_nl_r, a_nl_n, true_or, or_true, eq_self, a_isRA_22, a_isRA_24, a_isRA_32, a_isA_20, ok_4, ok_5, ok_6, ok_7, ok_9, ok_20, ok_21, ok_30, ok_50, ok_180, ok_192, ok_200, hb, b0, w0, w2, w3, s0, s2, s3, h0, h2, h3, p0, p2]
    first
      | exact hP0
      | exact ⟨by decide, hP0⟩
theorem ck_remember {b : Nat} (hb : K b = 3) {a : Nat} (ha : K a = 1) (hH : cH C c (n + 1) t K L I R) (hj : ∃ j, j < 6 ∧ R (C + 16) j = b) (hs : 0 ≤ I a 14 ∧ I a 14 < 200) {w : Int32} (hP : ∀ n' t' K' L' J R', cH C c (n' + 1) t' K' L' J R' → dQ C (n + 1) K L I R (n' + 1) K' L' J R' → (∀ j, J a j = I a j) → P none (n' + 1, t', K', L', J, R')) : a_does (d + 2) 47 [a_rf b, a_rf a, .int w] (n + 1, t, K, L, I, R) P := by
  have hT := hH.1
  have hS := hT.s
  obtain ⟨b1, ⟨w1, w2, w3⟩, ⟨s1, s2, s3⟩, ⟨h1, h2, h3⟩, ⟨p1, p2, p3⟩, q1⟩ := hT.g_bnc b hb
  have b0 : (b = 0) = False := eq_false (by omega)
  have w0 : (R b 2 = 0) = False := eq_false (by omega)
  have s0 : (R b 3 = 0) = False := eq_false (by omega)
  have h0 : (R b 4 = 0) = False := eq_false (by omega)
  have p0 : (R b 5 = 0) = False := eq_false (by omega)
  obtain ⟨a1, a2, a4, a3⟩ := hT.g_ask a ha
  have a0 : (a = 0) = False := eq_false (by omega)
  have fr := hH.2.1
  have bl : b < n + 1 := kn_lt fr hb (by decide)
  have al : a < n + 1 := kn_lt fr ha (by decide)
  have hn := hP n t K L I R hH dQ_refl (fun _ => rfl)
  rw [a_enter1 (M := a_m47) rfl (a_cat_rf (a_cat_rf (a_cat_int a_cat_nil))) (show 3 ≤ 5 by decide)]
  show a_at _ (a_xm a_m47) 0 [some (a_rf b), some (a_rf a), some (.int w), none, none] [] _ _
  simp only [q47_0, q47_1, q47_4, q47_5, q47_8, q47_9, q47_10, q47_11, q47_12, q47_15, q47_16, as_nil, as_i, as_r, Nat.reduceAdd, Nat.reduceLeDiff, z_eq0, z_eq1, z_or, z_em, Classical.not_not, not_false_eq_true, not_true_eq_false, true_and, and_true, false_and, and_false, and_self, true_implies, false_implies, implies_true, Option.toList_some, Option.toList_none, List.cons_append, List.nil_append, Nat.add_eq_zero_iff, a_nl_i, a_nl_r, a_nl_n, true_or, or_true, eq_self, a_isRA_22, a_isRA_24, a_isRA_32, a_isA_20, ok_4, ok_5, ok_6, ok_7, ok_9, ok_20, ok_21, ok_30, ok_50, ok_180, ok_192, ok_200, hb, b0, w0, w2, w3, s0, s2, s3, h0, h2, h3, p0, p2, ha, a0]
  refine ⟨hs, fun c1 => ?_, fun c1 => ?_⟩
  · simp only [q47_22, as_nil, as_i, as_r, Nat.reduceAdd, Nat.reduceLeDiff, z_eq0, z_eq1, z_or, z_em, Classical.not_not, not_false_eq_true, not_true_eq_false, true_and, and_true, false_and, and_false, and_self, true_implies, false_implies, implies_true, Option.toList_some, Option.toList_none, List.cons_append, List.nil_append, Nat.add_eq_zero_iff, a_nl_i, a_nl_r, a_nl_n, true_or, or_true, eq_self, a_isRA_22, a_isRA_24, a_isRA_32, a_isA_20, ok_4, ok_5, ok_6, ok_7, ok_9, ok_20, ok_21, ok_30, ok_50, ok_180, ok_192, ok_200]
    exact hn
  · refine ck_hasRoom hb hH hj ?_ (fun n' t' K' L' J R' hH' hQ hJ hp hl => ?_)
    · simp only [q47_19, q47_22, as_nil, as_i, as_r, Nat.reduceAdd, Nat.reduceLeDiff, z_eq0, z_eq1, z_or, z_em, Classical.not_not, not_false_eq_true, not_true_eq_false, true_and, and_true, false_and, and_false, and_self, true_implies, false_implies, implies_true, Option.toList_some, Option.toList_none, List.cons_append, List.nil_append, Nat.add_eq_zero_iff, a_nl_i, a_nl_r, a_nl_n, true_or, or_true, eq_self, a_isRA_22, a_isRA_24, a_isRA_32, a_isA_20, ok_4, ok_5, ok_6, ok_7, ok_9, ok_20, ok_21, ok_30, ok_50, ok_180, ok_192, ok_200]
      first
        | exact hn
        | exact ⟨fun h => absurd rfl h, fun _ => hn⟩
    · clear hn
      have hb' : K' b = 3 := by rw [hQ.2.1 b bl]; exact hb
      have ha' : K' a = 1 := by rw [hQ.2.1 a al]; exact ha
      have hT' := hH'.1
      have e6 := hJ b 6 bl
      obtain ⟨-, -, -, -, ⟨r1, r2, -⟩, r6⟩ := hT'.g_bnc b hb'
      have p0' : (R' b 5 = 0) = False := eq_false (by omega)
      rw [← e6] at hp
      rw [← e6] at hl
      have hi : J b 6 < J b 6 + 1 := by clear hP hT hT' hH hH' hQ hJ; grind
      have hi2 : J b 6 + 1 ≤ 16384 := by clear hP hT hT' hH hH' hQ hJ; grind
      have m0 := past_ok0 r6.1 hi hi2 hl
      have m1 := past_ok (e := 1) r6.1 hi hi2 hl (by decide)
      have m2 := past_ok (e := 2) r6.1 hi hi2 hl (by decide)
      have m3 := past_ok (e := 3) r6.1 hi hi2 hl (by decide)
      have m4 := past_ok (e := 4) r6.1 hi hi2 hl (by decide)
      have n1 : ¬ b = R' b 5 := fun e => by rw [← e, hb'] at r2; cases r2
      have n2 : ¬ a = R' b 5 := fun e => by rw [← e, ha'] at r2; cases r2
      have n3 : ¬ a = b := fun e => by rw [e, hb] at ha; cases ha
      simp only [q47_19, q47_22, q47_23, q47_24, q47_27, q47_28, q47_29, q47_31, q47_32, q47_35, q47_37, q47_38, q47_41, q47_42, q47_43, q47_46, q47_48, q47_49, q47_50, q47_51, q47_54, q47_55, q47_56, q47_59, q47_61, q47_62, q47_63, q47_64, q47_67, q47_68, q47_69, q47_72, q47_74, q47_75, q47_76, q47_77, q47_78, q47_79, q47_82, q47_84, q47_85, q47_86, q47_87, q47_88, q47_89, q47_90, q47_93, q47_94, q47_95, q47_98, sp_last, as_nil, as_i, as_r, Nat.reduceAdd, Nat.reduceLeDiff, z_eq0, z_eq1, z_or, z_em, Classical.not_not, not_false_eq_true, not_true_eq_false, true_and, and_true, false_and, and_false, and_self, true_implies, false_implies, implies_true, Option.toList_some, Option.toList_none, List.cons_append, List.nil_append, Nat.add_eq_zero_iff, a_nl_i, a_nl_r, a_nl_n, true_or, or_true, eq_self, a_isRA_22, a_isRA_24, a_isRA_32, a_isA_20, ok_4, ok_5, ok_6, ok_7, ok_9, ok_20, ok_21, ok_30, ok_50, ok_180, ok_192, ok_200, ui_ap, cc_ne, cc_n0, cc_0n, Nat.reduceEqDiff, reduceIte, if_true, if_false, hb', ha', b0, a0, p0', r2, n1, n2, n3, m0, m1, m2, m3, m4]
      have z : 0 ≤ J b 6 + 1 := by clear hP hT hT' hH hH' hQ hJ; grind
      have hq : ∀ J2, cT C K' L' J2 R' → dQ C (n' + 1) K' L' J R' (n' + 1) K' L' J2 R' → (∀ j, J2 a j = J a j) → P none (n' + 1, t', K', L', J2, R') := fun J2 q1 q2 q3 => hP n' t' K' L' J2 R' (cH_J hH' q1) (dQ_Q hQ q2) (fun j => (q3 j).trans (hJ a j al))
      repeat' first
        | with_reducible apply And.intro
        | with_reducible assumption
        | with_reducible intro _
        | with_reducible apply hq
        | with_reducible apply sT_past
        | with_reducible apply sT_arr
        | with_reducible apply dQ_3 (h1 := b1) (h2 := hb')
        | with_reducible apply dQ_20 (h1 := r1) (h2 := r2)
        | with_reducible exact dQ_refl
        | (simp only [ui_ap, n1, n2, n3, false_and, if_false, b0]; done)
      
theorem ck_clear {a : Nat} (ha : K a = 1) (hH : cH C c (n + 1) t K L I R) (hP : ∀ n' t' K' L' J R', cH C c (n' + 1) t' K' L' J R' → dQ C (n + 1) K L I R (n' + 1) K' L' J R' → P none (n' + 1, t', K', L', J, R')) : a_does (d + 5) 45 [a_rf (C + 14), a_rf a] (n + 1, t, K, L, I, R) P := by
  have hT := hH.1
  have hS := hT.s
  obtain ⟨a1, a2, a4, a3⟩ := hT.g_ask a ha
  have a0 : (a = 0) = False := eq_false (by omega)
  have gA := hT.g_asksR
  have gB := hT.g_benchesR
  have gX := hT.g_textsR
  have fr := hH.2.1
  have al : a < n + 1 := kn_lt fr ha (by decide)
  have gi := gB (I a 13).toNatClampNeg
  have hlift : ∀ n' t' K' L' J R', cH C c (n' + 1) t' K' L' J R' → dQ C (n + 1) K L I R (n' + 1) K' L' J R' → ∀ u, a_at (d + 4) (a_xm a_m45) 44 [some (a_rf (C + 14)), some (a_rf a), u] [] (n' + 1, t', K', L', J, R') P := fun n' t' K' L' J R' hH' hQ u => by
    have ha' : K' a = 1 := by rw [hQ.2.1 a al]; exact ha
    have hS := hH'.1.s
    simp only [q45_44, q45_45, q45_46, q45_49, k_14 hS, z_14, as_nil, as_i, as_r, Nat.reduceAdd, Nat.reduceLeDiff, z_eq0, z_eq1, z_or, z_em, Classical.not_not, not_false_eq_true, not_true_eq_false, true_and, and_true, false_and, and_false, and_self, true_implies, false_implies, implies_true, Option.toList_some, Option.toList_none, List.cons_append, List.nil_append, Nat.add_eq_zero_iff, a_nl_i, a_nl_r, a_nl_n, true_or, or_true, eq_self, a_isRA_22, a_isRA_24, a_isRA_32, a_isA_20, ok_4, ok_5, ok_6, ok_7, ok_9, ok_20, ok_21, ok_30, ok_50, ok_180, ok_192, ok_200, ha', a0]
    refine ck_lift ha' hH'.1 (fun J2 hL => ?_)
    simp only [q45_49, as_nil, as_i, as_r, Nat.reduceAdd, Nat.reduceLeDiff, z_eq0, z_eq1, z_or, z_em, Classical.not_not, not_false_eq_true, not_true_eq_false, true_and, and_true, false_and, and_false, and_self, true_implies, false_implies, implies_true, Option.toList_some, Option.toList_none, List.cons_append, List.nil_append, Nat.add_eq_zero_iff, a_nl_i, a_nl_r, a_nl_n, true_or, or_true, eq_self, a_isRA_22, a_isRA_24, a_isRA_32, a_isA_20, ok_4, ok_5, ok_6, ok_7, ok_9, ok_20, ok_21, ok_30, ok_50, ok_180, ok_192, ok_200, ha', a0]
    exact hP n' t' K' L' J2 R' (cH_J hH' hL.1) (dQ_Q hQ (dQ_L hL))
  have hl0 := hlift n t K L I R hH dQ_refl
  rw [a_enter1 (M := a_m45) rfl (a_cat_rf (a_cat_rf a_cat_nil)) (show 2 ≤ 3 by decide)]
  show a_at _ (a_xm a_m45) 0 [some (a_rf (C + 14)), some (a_rf a), none] [] _ _
  simp only [q45_0, q45_1, q45_2, q45_5, q45_8, q45_9, q45_10, k_14 hS, z_14, sp_benchAt hS gB, as_nil, as_i, as_r, Nat.reduceAdd, Nat.reduceLeDiff, z_eq0, z_eq1, z_or, z_em, Classical.not_not, not_false_eq_true, not_true_eq_false, true_and, and_true, false_and, and_false, and_self, true_implies, false_implies, implies_true, Option.toList_some, Option.toList_none, List.cons_append, List.nil_append, Nat.add_eq_zero_iff, a_nl_i, a_nl_r, a_nl_n, true_or, or_true, eq_self, a_isRA_22, a_isRA_24, a_isRA_32, a_isA_20, ok_4, ok_5, ok_6, ok_7, ok_9, ok_20, ok_21, ok_30, ok_50, ok_180, ok_192, ok_200, ha, a0]
  refine ⟨fun h1 => ⟨fun h2 => hl0 _, fun h2 => ?_⟩, fun h1 => ?_⟩
  · have hb := gi.resolve_left h2
    have b1 := (hT.g_bnc _ hb).1
    have b0 : (R (C + 16) (I a 13).toNatClampNeg = 0) = False := eq_false h2
    have h3 := a3 h1.1
    have hj : ∃ j, j < 6 ∧ R (C + 16) j = R (C + 16) (I a 13).toNatClampNeg := ⟨_, show (I a 13).toNatClampNeg < (6 : Int32).toNatClampNeg from cl_lt h1.1 h1.2.2, rfl⟩
    have bl := kn_lt fr hb (by decide)
    simp only [q45_13, q45_14, q45_15, q45_16, q45_19, q45_22, k_14 hS, z_14, r_14_0 hS, k_1 hS, z_1, as_nil, as_i, as_r, Nat.reduceAdd, Nat.reduceLeDiff, z_eq0, z_eq1, z_or, z_em, Classical.not_not, not_false_eq_true, not_true_eq_false, true_and, and_true, false_and, and_false, and_self, true_implies, false_implies, implies_true, Option.toList_some, Option.toList_none, List.cons_append, List.nil_append, Nat.add_eq_zero_iff, a_nl_i, a_nl_r, a_nl_n, true_or, or_true, eq_self, a_isRA_22, a_isRA_24, a_isRA_32, a_isA_20, ok_4, ok_5, ok_6, ok_7, ok_9, ok_20, ok_21, ok_30, ok_50, ok_180, ok_192, ok_200, ha, a0, hb, b0]
    refine ck_remember hb ha hH hj ⟨h3.1, by clear hP hlift hl0 hT hH gA gB gX; grind⟩ (fun n' t' K' L' J R' hH' hQ hJ => ?_)
    have ha' : K' a = 1 := by rw [hQ.2.1 a al]; exact ha
    have hb' : K' (R (C + 16) (I a 13).toNatClampNeg) = 3 := by rw [hQ.2.1 _ bl]; exact hb
    have hS := hH'.1.s
    have e14 := hJ 14
    simp only [q45_25, q45_26, q45_27, q45_30, q45_31, q45_34, q45_35, q45_38, q45_41, k_14 hS, z_14, r_14_0 hS, k_1 hS, z_1, sp_last, as_nil, as_i, as_r, Nat.reduceAdd, Nat.reduceLeDiff, z_eq0, z_eq1, z_or, z_em, Classical.not_not, not_false_eq_true, not_true_eq_false, true_and, and_true, false_and, and_false, and_self, true_implies, false_implies, implies_true, Option.toList_some, Option.toList_none, List.cons_append, List.nil_append, Nat.add_eq_zero_iff, a_nl_i, a_nl_r, a_nl_n, true_or, or_true, eq_self, a_isRA_22, a_isRA_24, a_isRA_32, a_isA_20, ok_4, ok_5, ok_6, ok_7, ok_9, ok_20, ok_21, ok_30, ok_50, ok_180, ok_192, ok_200, ha', a0, hb', b0]
    refine ck_date hb' (dL_refl hH'.1) ⟨by rw [e14]; exact h3.1, by rw [e14]; exact Int32.le_trans h3.2.1 (by decide)⟩ (fun J2 hL => ?_)
    exact hlift n' t' K' L' J2 R' (cH_J hH' hL.1) (dQ_Q hQ (dQ_L hL)) _
  · first
      | exact hl0 _
      | exact ⟨fun _ => hl0 _, fun h => absurd rfl h⟩
theorem ck_clearUnfit {a : Nat} (ha : K a = 1) (hH : cH C c (n + 1) t K L I R) (hP : ∀ v n' t' K' L' J R', cH C c (n' + 1) t' K' L' J R' → dQ C (n + 1) K L I R (n' + 1) K' L' J R' → P (some (.int v)) (n' + 1, t', K', L', J, R')) : a_does (d + 6) 145 [a_rf (C + 14), a_rf a] (n + 1, t, K, L, I, R) P := by
  have hT := hH.1
  have hS := hT.s
  obtain ⟨a1, a2, a4, a3⟩ := hT.g_ask a ha
  have a0 : (a = 0) = False := eq_false (by omega)
  have hn : ∀ J, dC C K L R I J → ∀ v, P (some (.int v)) (n + 1, t, K, L, J, R) := fun J h v => hP v n t K L J R (cH_J hH h.1) (dQ_C h)
  have hr := dC_refl hT
  rw [a_enter1 (M := a_m145) rfl (a_cat_rf (a_cat_rf a_cat_nil)) (show 2 ≤ 2 by decide)]
  show a_at _ (a_xm a_m145) 0 [some (a_rf (C + 14)), some (a_rf a)] [] _ _
  simp only [q145_0, q145_1, q145_2, q145_5, q145_8, q145_9, q145_10, q145_11, q145_14, q145_15, q145_18, k_14 hS, z_14, sp_mayMove hS, as_nil, as_i, as_r, Nat.reduceAdd, Nat.reduceLeDiff, z_eq0, z_eq1, z_or, z_em, Classical.not_not, not_false_eq_true, not_true_eq_false, true_and, and_true, false_and, and_false, and_self, true_implies, false_implies, implies_true, Option.toList_some, Option.toList_none, List.cons_append, List.nil_append, Nat.add_eq_zero_iff, a_nl_i, a_nl_r, a_nl_n, true_or, or_true, eq_self, a_isRA_22, a_isRA_24, a_isRA_32, a_isA_20, ok_4, ok_5, ok_6, ok_7, ok_9, ok_20, ok_21, ok_30, ok_50, ok_180, ok_192, ok_200, ha, a0]
  refine ⟨fun h1 => ?_, fun h1 => ?_⟩
  all_goals
    try simp only [q145_24, q145_25, as_nil, as_i, as_r, Nat.reduceAdd, Nat.reduceLeDiff, z_eq0, z_eq1, z_or, z_em, Classical.not_not, not_false_eq_true, not_true_eq_false, true_and, and_true, false_and, and_false, and_self, true_implies, false_implies, implies_true, Option.toList_some, Option.toList_none, List.cons_append, List.nil_append, Nat.add_eq_zero_iff, a_nl_i, a_nl_r, a_nl_n, true_or, or_true, eq_self, a_isRA_22, a_isRA_24, a_isRA_32, a_isA_20, ok_4, ok_5, ok_6, ok_7, ok_9, ok_20, ok_21, ok_30, ok_50, ok_180, ok_192, ok_200, ha, a0]
    first
      | exact hn I hr _
      | exact ⟨by decide, hn I hr _⟩
      | skip
  all_goals
    refine ck_firstBar ha hT (fun v J hJ _ => ?_)
    simp only [q145_21, q145_24, q145_25, q145_26, q145_27, q145_28, k_14 hS, z_14, as_nil, as_i, as_r, Nat.reduceAdd, Nat.reduceLeDiff, z_eq0, z_eq1, z_or, z_em, Classical.not_not, not_false_eq_true, not_true_eq_false, true_and, and_true, false_and, and_false, and_self, true_implies, false_implies, implies_true, Option.toList_some, Option.toList_none, List.cons_append, List.nil_append, Nat.add_eq_zero_iff, a_nl_i, a_nl_r, a_nl_n, true_or, or_true, eq_self, a_isRA_22, a_isRA_24, a_isRA_32, a_isA_20, ok_4, ok_5, ok_6, ok_7, ok_9, ok_20, ok_21, ok_30, ok_50, ok_180, ok_192, ok_200, ha, a0]
    have hJT := cH_J hH hJ.1
    refine ⟨fun h2 => ?_, fun h2 => ?_⟩
    all_goals first
      | exact hn J hJ _
      | exact ⟨by decide, hn J hJ _⟩
      | (refine ck_clear ha hJT (fun n' t' K' L' J2 R' hH' hQ => ?_)
         simp only [q145_31, q145_32, as_nil, as_i, as_r, Nat.reduceAdd, Nat.reduceLeDiff, z_eq0, z_eq1, z_or, z_em, Classical.not_not, not_false_eq_true, not_true_eq_false, true_and, and_true, false_and, and_false, and_self, true_implies, false_implies, implies_true, Option.toList_some, Option.toList_none, List.cons_append, List.nil_append, Nat.add_eq_zero_iff, a_nl_i, a_nl_r, a_nl_n, true_or, or_true, eq_self, a_isRA_22, a_isRA_24, a_isRA_32, a_isA_20, ok_4, ok_5, ok_6, ok_7, ok_9, ok_20, ok_21, ok_30, ok_50, ok_180, ok_192, ok_200, ha, a0]
         first
           | exact hP _ _ _ _ _ _ _ hH' (dQ_Q (dQ_C hJ) hQ)
           | exact ⟨by decide, hP _ _ _ _ _ _ _ hH' (dQ_Q (dQ_C hJ) hQ)⟩)
end K8
end

/-! the class's small methods -/
theorem a_isRA_22 : (a_isRA 22 = true) = True := eq_true (by decide)
theorem a_isRA_24 : (a_isRA 24 = true) = True := eq_true (by decide)
theorem a_isRA_32 : (a_isRA 32 = true) = True := eq_true (by decide)
theorem a_isA_20 : (a_isA 20 = true) = True := eq_true (by decide)
section K1
variable {d : Nat} {P : Option Value → AH → Prop}
theorem sp_max {a b : Int32} {h : AH} : a_does (d + 1) 35 [.int a, .int b] h P ↔ (a < b → P (some (.int b)) h) ∧ (¬ a < b → P (some (.int a)) h) := by
  rw [a_enter1 (M := a_m35) rfl (a_cat_int (a_cat_int a_cat_nil)) (show 2 ≤ 2 by decide)]
  show a_at _ (a_xm a_m35) 0 [some (.int a), some (.int b)] [] _ _ ↔ _
  simp only [q35_0, q35_1, q35_2, q35_5, q35_6, q35_9, q35_10, as_nil, as_i, as_r, Nat.reduceAdd, Nat.reduceLeDiff, z_eq0, z_eq1, z_or, z_em, Classical.not_not, not_false_eq_true, not_true_eq_false, true_and, and_true, false_and, and_false, and_self, true_implies, false_implies, implies_true, Option.toList_some, Option.toList_none, List.cons_append, List.nil_append, Nat.add_eq_zero_iff, a_nl_i, a_nl_r, a_nl_n, true_or, or_true, eq_self]
theorem sp_min {a b : Int32} {h : AH} : a_does (d + 1) 34 [.int a, .int b] h P ↔ (b < a → P (some (.int b)) h) ∧ (¬ b < a → P (some (.int a)) h) := by
  rw [a_enter1 (M := a_m34) rfl (a_cat_int (a_cat_int a_cat_nil)) (show 2 ≤ 2 by decide)]
  show a_at _ (a_xm a_m34) 0 [some (.int a), some (.int b)] [] _ _ ↔ _
  simp only [q34_0, q34_1, q34_2, q34_5, q34_6, q34_9, q34_10, as_nil, as_i, as_r, Nat.reduceAdd, Nat.reduceLeDiff, z_eq0, z_eq1, z_or, z_em, Classical.not_not, not_false_eq_true, not_true_eq_false, true_and, and_true, false_and, and_false, and_self, true_implies, false_implies, implies_true, Option.toList_some, Option.toList_none, List.cons_append, List.nil_append, Nat.add_eq_zero_iff, a_nl_i, a_nl_r, a_nl_n, true_or, or_true, eq_self]
theorem ck_bitCount {a : Int32} {h : AH} (hP : ∀ v, P (some (.int v)) h) : a_does (d + 1) 57 [.int a] h P := by
  rw [a_enter1 (M := a_m57) rfl (a_cat_int a_cat_nil) (show 1 ≤ 1 by decide)]
  show a_at _ (a_xm a_m57) 0 [some (.int a)] [] _ _
  simp only [q57_0, q57_1, q57_2, q57_3, q57_4, q57_7, q57_8, q57_9, q57_10, q57_11, q57_14, q57_15, q57_16, q57_17, q57_18, q57_21, q57_22, q57_23, q57_24, q57_25, q57_26, q57_27, q57_28, q57_29, q57_32, q57_33, q57_34, q57_35, q57_36, q57_38, q57_39, q57_40, q57_41, q57_42, q57_43, q57_45, q57_46, q57_47, q57_48, q57_49, q57_51, q57_52, as_nil, as_i, as_r, Nat.reduceAdd, Nat.reduceLeDiff, z_eq0, z_eq1, z_or, z_em, Classical.not_not, not_false_eq_true, not_true_eq_false, true_and, and_true, false_and, and_false, and_self, true_implies, false_implies, implies_true, Option.toList_some, Option.toList_none, List.cons_append, List.nil_append, Nat.add_eq_zero_iff, a_nl_i, a_nl_r, a_nl_n, true_or, or_true, eq_self]
  exact hP _
theorem ck_floorDiv {a b : Int32} {h : AH} (hb : ¬ b = 0) (hP : ∀ v, P (some (.int v)) h) : a_does (d + 1) 31 [.int a, .int b] h P := by
  rw [a_enter1 (M := a_m31) rfl (a_cat_int (a_cat_int a_cat_nil)) (show 2 ≤ 3 by decide)]
  show a_at _ (a_xm a_m31) 0 [some (.int a), some (.int b), none] [] _ _
  simp only [q31_0, q31_1, q31_2, q31_3, q31_4, q31_5, q31_6, q31_7, q31_10, q31_11, q31_12, q31_13, q31_14, q31_17, q31_18, q31_19, q31_20, q31_21, q31_22, as_nil, as_i, as_r, Nat.reduceAdd, Nat.reduceLeDiff, z_eq0, z_eq1, z_or, z_em, Classical.not_not, not_false_eq_true, not_true_eq_false, true_and, and_true, false_and, and_false, and_self, true_implies, false_implies, implies_true, Option.toList_some, Option.toList_none, List.cons_append, List.nil_append, Nat.add_eq_zero_iff, a_nl_i, a_nl_r, a_nl_n, true_or, or_true, eq_self]
  grind
theorem sp_isShiftC {v : Int32} {h : AH} : a_does (d + 1) 13 [.int v] h P ↔ P (some (.int (if 0 ≤ v ∧ v < 200 then 1 else 0))) h := by
  rw [a_enter1 (M := a_m13) rfl (a_cat_int a_cat_nil) (show 1 ≤ 1 by decide)]
  show a_at _ (a_xm a_m13) 0 [some (.int v)] [] _ _ ↔ _
  simp only [q13_0, q13_1, q13_4, q13_5, q13_8, q13_11, q13_12, q13_15, q13_16, as_nil, as_i, as_r, Nat.reduceAdd, Nat.reduceLeDiff, z_eq0, z_eq1, z_or, z_em, Classical.not_not, not_false_eq_true, not_true_eq_false, true_and, and_true, false_and, and_false, and_self, true_implies, false_implies, implies_true, Option.toList_some, Option.toList_none, List.cons_append, List.nil_append, Nat.add_eq_zero_iff, a_nl_i, a_nl_r, a_nl_n, true_or, or_true, eq_self]
  grind
theorem sp_areShifts {a b : Int32} {h : AH} : a_does (d + 2) 12 [.int a, .int b] h P ↔ P (some (.int (if (0 ≤ a ∧ a < 200) ∧ (0 ≤ b ∧ b < 200) ∧ a ≤ b then 1 else 0))) h := by
  rw [a_enter1 (M := a_m12) rfl (a_cat_int (a_cat_int a_cat_nil)) (show 2 ≤ 2 by decide)]
  show a_at _ (a_xm a_m12) 0 [some (.int a), some (.int b)] [] _ _ ↔ _
  simp only [q12_0, q12_1, q12_4, q12_7, q12_8, q12_11, q12_14, q12_15, q12_16, q12_19, q12_20, q12_23, q12_24, sp_isShiftC, as_nil, as_i, as_r, Nat.reduceAdd, Nat.reduceLeDiff, z_eq0, z_eq1, z_or, z_em, Classical.not_not, not_false_eq_true, not_true_eq_false, true_and, and_true, false_and, and_false, and_self, true_implies, false_implies, implies_true, Option.toList_some, Option.toList_none, List.cons_append, List.nil_append, Nat.add_eq_zero_iff, a_nl_i, a_nl_r, a_nl_n, true_or, or_true, eq_self]
  grind
theorem sp_isReaderC {v : Int32} {h : AH} : a_does (d + 1) 90 [.int v] h P ↔ P (some (.int (if 0 ≤ v ∧ v < 6 then 1 else 0))) h := by
  rw [a_enter1 (M := a_m90) rfl (a_cat_int a_cat_nil) (show 1 ≤ 1 by decide)]
  show a_at _ (a_xm a_m90) 0 [some (.int v)] [] _ _ ↔ _
  simp only [q90_0, q90_1, q90_4, q90_5, q90_7, q90_10, q90_11, q90_14, q90_15, as_nil, as_i, as_r, Nat.reduceAdd, Nat.reduceLeDiff, z_eq0, z_eq1, z_or, z_em, Classical.not_not, not_false_eq_true, not_true_eq_false, true_and, and_true, false_and, and_false, and_self, true_implies, false_implies, implies_true, Option.toList_some, Option.toList_none, List.cons_append, List.nil_append, Nat.add_eq_zero_iff, a_nl_i, a_nl_r, a_nl_n, true_or, or_true, eq_self]
  grind
theorem ck_isIn {a b : Int32} {h : AH} (hP : ∀ v, P (some (.int v)) h) : a_does (d + 1) 130 [.int a, .int b] h P := by
  rw [a_enter1 (M := a_m130) rfl (a_cat_int (a_cat_int a_cat_nil)) (show 2 ≤ 2 by decide)]
  show a_at _ (a_xm a_m130) 0 [some (.int a), some (.int b)] [] _ _
  repeat' first
    | with_reducible apply And.intro
    | with_reducible assumption
    | with_reducible intro _
    | with_reducible apply hP
    | simp only [q130_0, q130_1, q130_4, q130_5, q130_7, q130_10, q130_11, q130_12, q130_13, q130_14, q130_15, q130_18, q130_19, q130_22, q130_23, as_nil, as_i, as_r, Nat.reduceAdd, Nat.reduceLeDiff, z_eq0, z_eq1, z_or, z_em, Classical.not_not, not_false_eq_true, not_true_eq_false, true_and, and_true, false_and, and_false, and_self, true_implies, false_implies, implies_true, Option.toList_some, Option.toList_none, List.cons_append, List.nil_append, Nat.add_eq_zero_iff, a_nl_i, a_nl_r, a_nl_n, true_or, or_true, eq_self, a_isRA_22, a_isRA_24, a_isRA_32, a_isA_20, ok_4, ok_5, ok_6, ok_7, ok_9, ok_20, ok_21, ok_30, ok_50, ok_180, ok_192, ok_200]
  all_goals grind [ui_ap]
theorem ck_daysBelow {a b c : Int32} {h : AH} (hP : ∀ v, P (some (.int v)) h) : a_does (d + 1) 39 [.int a, .int b, .int c] h P := by
  rw [a_enter1 (M := a_m39) rfl (a_cat_int (a_cat_int (a_cat_int a_cat_nil))) (show 3 ≤ 3 by decide)]
  show a_at _ (a_xm a_m39) 0 [some (.int a), some (.int b), some (.int c)] [] _ _
  repeat' first
    | with_reducible apply And.intro
    | with_reducible assumption
    | with_reducible intro _
    | with_reducible apply hP
    | simp only [q39_0, q39_1, q39_2, q39_5, q39_6, q39_9, q39_10, q39_13, q39_14, q39_15, q39_16, q39_17, q39_20, q39_21, q39_24, q39_25, q39_26, q39_29, q39_30, q39_33, q39_34, as_nil, as_i, as_r, Nat.reduceAdd, Nat.reduceLeDiff, z_eq0, z_eq1, z_or, z_em, Classical.not_not, not_false_eq_true, not_true_eq_false, true_and, and_true, false_and, and_false, and_self, true_implies, false_implies, implies_true, Option.toList_some, Option.toList_none, List.cons_append, List.nil_append, Nat.add_eq_zero_iff, a_nl_i, a_nl_r, a_nl_n, true_or, or_true, eq_self, a_isRA_22, a_isRA_24, a_isRA_32, a_isA_20, ok_4, ok_5, ok_6, ok_7, ok_9, ok_20, ok_21, ok_30, ok_50, ok_180, ok_192, ok_200]
  all_goals grind [ui_ap]
theorem ck_daysAbove {a b c : Int32} {h : AH} (hP : ∀ v, P (some (.int v)) h) : a_does (d + 1) 40 [.int a, .int b, .int c] h P := by
  rw [a_enter1 (M := a_m40) rfl (a_cat_int (a_cat_int (a_cat_int a_cat_nil))) (show 3 ≤ 3 by decide)]
  show a_at _ (a_xm a_m40) 0 [some (.int a), some (.int b), some (.int c)] [] _ _
  repeat' first
    | with_reducible apply And.intro
    | with_reducible assumption
    | with_reducible intro _
    | with_reducible apply hP
    | simp only [q40_0, q40_1, q40_2, q40_5, q40_6, q40_8, q40_11, q40_12, q40_15, q40_16, q40_17, q40_18, q40_19, q40_22, q40_23, q40_26, q40_29, q40_30, q40_33, q40_36, q40_37, q40_40, q40_41, as_nil, as_i, as_r, Nat.reduceAdd, Nat.reduceLeDiff, z_eq0, z_eq1, z_or, z_em, Classical.not_not, not_false_eq_true, not_true_eq_false, true_and, and_true, false_and, and_false, and_self, true_implies, false_implies, implies_true, Option.toList_some, Option.toList_none, List.cons_append, List.nil_append, Nat.add_eq_zero_iff, a_nl_i, a_nl_r, a_nl_n, true_or, or_true, eq_self, a_isRA_22, a_isRA_24, a_isRA_32, a_isA_20, ok_4, ok_5, ok_6, ok_7, ok_9, ok_20, ok_21, ok_30, ok_50, ok_180, ok_192, ok_200]
  all_goals grind [ui_ap]
end K1
section K2
variable {d n t C : Nat} {K L : Nat → Nat} {I I0 J J0 J1 J2 : Nat → Nat → Int32} {R : Nat → Nat → Nat} {P : Option Value → AH → Prop}
theorem sp_askAt (hS : cS C K L R) (gA : ∀ j, R (C + 15) j = 0 ∨ K (R (C + 15) j) = 1) {v : Int32} : a_does (d + 1) 32 [a_rf (C + 14), .int v] (n, t, K, L, I, R) P ↔ ((0 ≤ v ∧ v < I (C + 14) 4 ∧ v < 30) → P (some (a_rf (R (C + 15) v.toNatClampNeg))) (n, t, K, L, I, R)) ∧ (¬ (0 ≤ v ∧ v < I (C + 14) 4 ∧ v < 30) → P (some (a_rf 0)) (n, t, K, L, I, R)) := by
  rw [a_enter1 (M := a_m32) rfl (a_cat_rf (a_cat_int a_cat_nil)) (show 2 ≤ 2 by decide)]
  show a_at _ (a_xm a_m32) 0 [some (a_rf (C + 14)), some (.int v)] [] _ _ ↔ _
  have := gA v.toNatClampNeg
  simp only [q32_0, q32_1, q32_4, q32_5, q32_6, q32_9, q32_12, q32_13, q32_15, q32_18, q32_19, q32_22, q32_23, q32_24, q32_27, q32_28, k_14 hS, z_14, r_14_2 hS, k_15 hS, l_15 hS, z_15, as_nil, as_i, as_r, Nat.reduceAdd, Nat.reduceLeDiff, z_eq0, z_eq1, z_or, z_em, Classical.not_not, not_false_eq_true, not_true_eq_false, true_and, and_true, false_and, and_false, and_self, true_implies, false_implies, implies_true, Option.toList_some, Option.toList_none, List.cons_append, List.nil_append, Nat.add_eq_zero_iff, a_nl_i, a_nl_r, a_nl_n, true_or, or_true, eq_self, a_isRA_22, a_isRA_24, a_isRA_32, a_isA_20, ok_4, ok_5, ok_6, ok_7, ok_9, ok_20, ok_21, ok_30, ok_50, ok_180, ok_192, ok_200]
  grind
theorem sp_benchAt (hS : cS C K L R) (gB : ∀ j, R (C + 16) j = 0 ∨ K (R (C + 16) j) = 3) {v : Int32} : a_does (d + 1) 46 [a_rf (C + 14), .int v] (n, t, K, L, I, R) P ↔ ((0 ≤ v ∧ v < I (C + 14) 5 ∧ v < 6) → P (some (a_rf (R (C + 16) v.toNatClampNeg))) (n, t, K, L, I, R)) ∧ (¬ (0 ≤ v ∧ v < I (C + 14) 5 ∧ v < 6) → P (some (a_rf 0)) (n, t, K, L, I, R)) := by
  rw [a_enter1 (M := a_m46) rfl (a_cat_rf (a_cat_int a_cat_nil)) (show 2 ≤ 2 by decide)]
  show a_at _ (a_xm a_m46) 0 [some (a_rf (C + 14)), some (.int v)] [] _ _ ↔ _
  have := gB v.toNatClampNeg
  simp only [q46_0, q46_1, q46_4, q46_5, q46_6, q46_9, q46_12, q46_13, q46_15, q46_18, q46_19, q46_22, q46_23, q46_24, q46_27, q46_28, k_14 hS, z_14, r_14_3 hS, k_16 hS, l_16 hS, z_16, as_nil, as_i, as_r, Nat.reduceAdd, Nat.reduceLeDiff, z_eq0, z_eq1, z_or, z_em, Classical.not_not, not_false_eq_true, not_true_eq_false, true_and, and_true, false_and, and_false, and_self, true_implies, false_implies, implies_true, Option.toList_some, Option.toList_none, List.cons_append, List.nil_append, Nat.add_eq_zero_iff, a_nl_i, a_nl_r, a_nl_n, true_or, or_true, eq_self, a_isRA_22, a_isRA_24, a_isRA_32, a_isA_20, ok_4, ok_5, ok_6, ok_7, ok_9, ok_20, ok_21, ok_30, ok_50, ok_180, ok_192, ok_200]
  grind
theorem sp_textAt (hS : cS C K L R) (gX : ∀ j, R (C + 8) j = 0 ∨ K (R (C + 8) j) = 11) {v : Int32} : a_does (d + 1) 61 [a_rf (C + 7), .int v] (n, t, K, L, I, R) P ↔ ((0 ≤ v ∧ v < I (C + 7) 3 ∧ v < 20) → P (some (a_rf (R (C + 8) v.toNatClampNeg))) (n, t, K, L, I, R)) ∧ (¬ (0 ≤ v ∧ v < I (C + 7) 3 ∧ v < 20) → P (some (a_rf 0)) (n, t, K, L, I, R)) := by
  rw [a_enter1 (M := a_m61) rfl (a_cat_rf (a_cat_int a_cat_nil)) (show 2 ≤ 2 by decide)]
  show a_at _ (a_xm a_m61) 0 [some (a_rf (C + 7)), some (.int v)] [] _ _ ↔ _
  have := gX v.toNatClampNeg
  simp only [q61_0, q61_1, q61_4, q61_5, q61_6, q61_9, q61_12, q61_13, q61_15, q61_18, q61_19, q61_22, q61_23, q61_24, q61_27, q61_28, k_7 hS, z_7, r_7_0 hS, k_8 hS, l_8 hS, z_8, as_nil, as_i, as_r, Nat.reduceAdd, Nat.reduceLeDiff, z_eq0, z_eq1, z_or, z_em, Classical.not_not, not_false_eq_true, not_true_eq_false, true_and, and_true, false_and, and_false, and_self, true_implies, false_implies, implies_true, Option.toList_some, Option.toList_none, List.cons_append, List.nil_append, Nat.add_eq_zero_iff, a_nl_i, a_nl_r, a_nl_n, true_or, or_true, eq_self, a_isRA_22, a_isRA_24, a_isRA_32, a_isA_20, ok_4, ok_5, ok_6, ok_7, ok_9, ok_20, ok_21, ok_30, ok_50, ok_180, ok_192, ok_200]
  grind
theorem sp_hasBegun (hS : cS C K L R) {v : Int32} : a_does (d + 1) 103 [a_rf (C + 1), .int v] (n, t, K, L, I, R) P ↔ P (some (.int (if v * 8 < I (C + 1) 6 then 1 else 0))) (n, t, K, L, I, R) := by
  rw [a_enter1 (M := a_m103) rfl (a_cat_rf (a_cat_int a_cat_nil)) (show 2 ≤ 2 by decide)]
  show a_at _ (a_xm a_m103) 0 [some (a_rf (C + 1)), some (.int v)] [] _ _ ↔ _
  simp only [q103_0, q103_1, q103_4, q103_5, q103_7, q103_8, q103_11, q103_12, q103_15, q103_16, k_1 hS, z_1, as_nil, as_i, as_r, Nat.reduceAdd, Nat.reduceLeDiff, z_eq0, z_eq1, z_or, z_em, Classical.not_not, not_false_eq_true, not_true_eq_false, true_and, and_true, false_and, and_false, and_self, true_implies, false_implies, implies_true, Option.toList_some, Option.toList_none, List.cons_append, List.nil_append, Nat.add_eq_zero_iff, a_nl_i, a_nl_r, a_nl_n, true_or, or_true, eq_self, a_isRA_22, a_isRA_24, a_isRA_32, a_isA_20, ok_4, ok_5, ok_6, ok_7, ok_9, ok_20, ok_21, ok_30, ok_50, ok_180, ok_192, ok_200]
  grind
theorem sp_isPlaced {a : Nat} : a_does (d + 1) 55 [a_rf a] (n, t, K, L, I, R) P ↔ (¬ a = 0 ∧ K a = 1) ∧ P (some (.int (if 0 ≤ I a 13 then 1 else 0))) (n, t, K, L, I, R) := by
  rw [a_enter1 (M := a_m55) rfl (a_cat_rf a_cat_nil) (show 1 ≤ 1 by decide)]
  show a_at _ (a_xm a_m55) 0 [some (a_rf a)] [] _ _ ↔ _
  simp only [q55_0, q55_1, q55_4, q55_7, q55_8, q55_11, q55_12, as_nil, as_i, as_r, Nat.reduceAdd, Nat.reduceLeDiff, z_eq0, z_eq1, z_or, z_em, Classical.not_not, not_false_eq_true, not_true_eq_false, true_and, and_true, false_and, and_false, and_self, true_implies, false_implies, implies_true, Option.toList_some, Option.toList_none, List.cons_append, List.nil_append, Nat.add_eq_zero_iff, a_nl_i, a_nl_r, a_nl_n, true_or, or_true, eq_self, a_isRA_22, a_isRA_24, a_isRA_32, a_isA_20, ok_4, ok_5, ok_6, ok_7, ok_9, ok_20, ok_21, ok_30, ok_50, ok_180, ok_192, ok_200]
  grind
theorem sp_last {a : Nat} : a_does (d + 1) 49 [a_rf a] (n, t, K, L, I, R) P ↔ (¬ a = 0 ∧ K a = 1) ∧ P (some (.int (I a 14 + I a 2 - 1))) (n, t, K, L, I, R) := by
  rw [a_enter1 (M := a_m49) rfl (a_cat_rf a_cat_nil) (show 1 ≤ 1 by decide)]
  show a_at _ (a_xm a_m49) 0 [some (a_rf a)] [] _ _ ↔ _
  simp only [q49_0, q49_1, q49_4, q49_5, q49_8, q49_9, q49_10, q49_11, as_nil, as_i, as_r, Nat.reduceAdd, Nat.reduceLeDiff, z_eq0, z_eq1, z_or, z_em, Classical.not_not, not_false_eq_true, not_true_eq_false, true_and, and_true, false_and, and_false, and_self, true_implies, false_implies, implies_true, Option.toList_some, Option.toList_none, List.cons_append, List.nil_append, Nat.add_eq_zero_iff, a_nl_i, a_nl_r, a_nl_n, true_or, or_true, eq_self, a_isRA_22, a_isRA_24, a_isRA_32, a_isA_20, ok_4, ok_5, ok_6, ok_7, ok_9, ok_20, ok_21, ok_30, ok_50, ok_180, ok_192, ok_200]
  grind
theorem sp_mayMove (hS : cS C K L R) {a : Nat} : a_does (d + 2) 117 [a_rf (C + 14), a_rf a] (n, t, K, L, I, R) P ↔ (¬ a = 0 ∧ K a = 1) ∧ P (some (.int (if 0 ≤ I a 13 ∧ ¬ I a 14 * 8 < I (C + 1) 6 then 1 else 0))) (n, t, K, L, I, R) := by
  rw [a_enter1 (M := a_m117) rfl (a_cat_rf (a_cat_rf a_cat_nil)) (show 2 ≤ 2 by decide)]
  show a_at _ (a_xm a_m117) 0 [some (a_rf (C + 14)), some (a_rf a)] [] _ _ ↔ _
  simp only [q117_0, q117_1, q117_4, q117_7, q117_8, q117_11, q117_12, q117_15, q117_18, q117_21, q117_22, q117_25, q117_26, k_14 hS, z_14, r_14_0 hS, k_1 hS, z_1, sp_isPlaced, sp_hasBegun hS, as_nil, as_i, as_r, Nat.reduceAdd, Nat.reduceLeDiff, z_eq0, z_eq1, z_or, z_em, Classical.not_not, not_false_eq_true, not_true_eq_false, true_and, and_true, false_and, and_false, and_self, true_implies, false_implies, implies_true, Option.toList_some, Option.toList_none, List.cons_append, List.nil_append, Nat.add_eq_zero_iff, a_nl_i, a_nl_r, a_nl_n, true_or, or_true, eq_self, a_isRA_22, a_isRA_24, a_isRA_32, a_isA_20, ok_4, ok_5, ok_6, ok_7, ok_9, ok_20, ok_21, ok_30, ok_50, ok_180, ok_192, ok_200]
  by_cases h : ¬ a = 0 ∧ K a = 1
  · simp only [h, true_and]
    grind
  · simp only [h, false_and]
theorem ck_rank {a : Nat} (ha : ¬ a = 0) (hk : K a = 1) (hP : ∀ v, P (some (.int v)) (n, t, K, L, I, R)) : a_does (d + 1) 122 [a_rf a] (n, t, K, L, I, R) P := by
  rw [a_enter1 (M := a_m122) rfl (a_cat_rf a_cat_nil) (show 1 ≤ 1 by decide)]
  show a_at _ (a_xm a_m122) 0 [some (a_rf a)] [] _ _
  repeat' first
    | with_reducible apply And.intro
    | with_reducible assumption
    | with_reducible intro _
    | with_reducible apply hP
    | simp only [q122_0, q122_1, q122_4, q122_5, q122_8, q122_9, q122_10, q122_11, q122_14, q122_15, q122_18, q122_19, q122_22, q122_23, as_nil, as_i, as_r, Nat.reduceAdd, Nat.reduceLeDiff, z_eq0, z_eq1, z_or, z_em, Classical.not_not, not_false_eq_true, not_true_eq_false, true_and, and_true, false_and, and_false, and_self, true_implies, false_implies, implies_true, Option.toList_some, Option.toList_none, List.cons_append, List.nil_append, Nat.add_eq_zero_iff, a_nl_i, a_nl_r, a_nl_n, true_or, or_true, eq_self, a_isRA_22, a_isRA_24, a_isRA_32, a_isA_20, ok_4, ok_5, ok_6, ok_7, ok_9, ok_20, ok_21, ok_30, ok_50, ok_180, ok_192, ok_200]
  all_goals grind [ui_ap]
theorem ck_isAheadOf {a b : Nat} (ha : ¬ a = 0) (hk : K a = 1) (hb : ¬ b = 0) (hkb : K b = 1) (hP : ∀ v, P (some (.int v)) (n, t, K, L, I, R)) : a_does (d + 2) 121 [a_rf a, a_rf b] (n, t, K, L, I, R) P := by
  rw [a_enter1 (M := a_m121) rfl (a_cat_rf (a_cat_rf a_cat_nil)) (show 2 ≤ 2 by decide)]
  show a_at _ (a_xm a_m121) 0 [some (a_rf a), some (a_rf b)] [] _ _
  repeat' first
    | with_reducible apply And.intro
    | with_reducible assumption
    | with_reducible intro _
    | with_reducible apply hP
    | with_reducible apply ck_rank
    | simp only [q121_0, q121_1, q121_4, q121_5, q121_8, q121_11, q121_12, q121_15, q121_16, q121_19, q121_22, q121_23, q121_26, q121_27, q121_28, q121_29, q121_32, q121_33, q121_36, q121_39, q121_40, q121_43, q121_44, q121_47, q121_50, q121_51, q121_54, q121_55, q121_56, q121_57, q121_60, q121_61, q121_64, q121_67, q121_68, q121_71, q121_72, as_nil, as_i, as_r, Nat.reduceAdd, Nat.reduceLeDiff, z_eq0, z_eq1, z_or, z_em, Classical.not_not, not_false_eq_true, not_true_eq_false, true_and, and_true, false_and, and_false, and_self, true_implies, false_implies, implies_true, Option.toList_some, Option.toList_none, List.cons_append, List.nil_append, Nat.add_eq_zero_iff, a_nl_i, a_nl_r, a_nl_n, true_or, or_true, eq_self, a_isRA_22, a_isRA_24, a_isRA_32, a_isA_20, ok_4, ok_5, ok_6, ok_7, ok_9, ok_20, ok_21, ok_30, ok_50, ok_180, ok_192, ok_200]
  all_goals grind [ui_ap]
theorem sp_inForce {x : Nat} {v : Int32} : a_does (d + 1) 62 [a_rf x, .int v] (n, t, K, L, I, R) P ↔ (¬ x = 0 ∧ K x = 11) ∧ P (some (.int (if I x 1 ≤ v ∧ v < I x 3 then 1 else 0))) (n, t, K, L, I, R) := by
  rw [a_enter1 (M := a_m62) rfl (a_cat_rf (a_cat_int a_cat_nil)) (show 2 ≤ 2 by decide)]
  show a_at _ (a_xm a_m62) 0 [some (a_rf x), some (.int v)] [] _ _ ↔ _
  simp only [q62_0, q62_1, q62_4, q62_5, q62_8, q62_9, q62_10, q62_13, q62_16, q62_17, q62_20, q62_21, as_nil, as_i, as_r, Nat.reduceAdd, Nat.reduceLeDiff, z_eq0, z_eq1, z_or, z_em, Classical.not_not, not_false_eq_true, not_true_eq_false, true_and, and_true, false_and, and_false, and_self, true_implies, false_implies, implies_true, Option.toList_some, Option.toList_none, List.cons_append, List.nil_append, Nat.add_eq_zero_iff, a_nl_i, a_nl_r, a_nl_n, true_or, or_true, eq_self, a_isRA_22, a_isRA_24, a_isRA_32, a_isA_20, ok_4, ok_5, ok_6, ok_7, ok_9, ok_20, ok_21, ok_30, ok_50, ok_180, ok_192, ok_200]
  grind
end K2

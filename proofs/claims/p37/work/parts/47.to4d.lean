section
/-! the class: panels -/
section K9
variable {d n t C : Nat} {K L : Nat → Nat} {I I0 J J0 J1 J2 : Nat → Nat → Int32} {R : Nat → Nat → Nat} {P : Option Value → AH → Prop}
theorem of_180 : Int32.ofNat 180 = 180 := rfl
theorem ck_markBy (hS : cS C K L R) {r k : Int32} (hP : ∀ v, P (some (.int v)) (n, t, K, L, I, R)) : a_does (d + 1) 30 [a_rf (C + 17), .int r, .int k] (n, t, K, L, I, R) P := by
  rw [a_enter1 (M := a_m30) rfl (a_cat_rf (a_cat_int (a_cat_int a_cat_nil))) (show 3 ≤ 4 by decide)]
  show a_at _ (a_xm a_m30) 0 [some (a_rf (C + 17)), some (.int r), some (.int k), none] [] _ _
  repeat' first
    | with_reducible apply And.intro
    | with_reducible assumption
    | with_reducible intro _
    | with_reducible apply hP
    | simp only [q30_0, q30_1, q30_3, q30_4, q30_5, q30_6, q30_7, q30_8, q30_11, q30_12, q30_13, q30_16, q30_17, q30_20, q30_21, q30_24, q30_25, q30_26, q30_29, q30_31, k_17 hS, z_17, r_17_3 hS, k_20 hS, l_20 hS, z_20, as_nil, as_i, as_r, Nat.reduceAdd, Nat.reduceLeDiff, z_eq0, z_eq1, z_or, z_em, Classical.not_not, not_false_eq_true, not_true_eq_false, true_and, and_true, false_and, and_false, and_self, true_implies, false_implies, implies_true, Option.toList_some, Option.toList_none, List.cons_append, List.nil_append, Nat.add_eq_zero_iff, a_nl_i, a_nl_r, a_nl_n, true_or, or_true, eq_self, a_isRA_22, a_isRA_24, a_isRA_32, a_isA_20, ok_4, ok_5, ok_6, ok_7, ok_9, ok_20, ok_21, ok_30, ok_50, ok_180, ok_192, ok_200, of_180]
  all_goals grind [ui_ap]
theorem ck_areTwoMarks (hS : cS C K L R) {r o k : Int32} (hP : ∀ v, P (some (.int v)) (n, t, K, L, I, R)) : a_does (d + 2) 29 [a_rf (C + 17), .int r, .int o, .int k] (n, t, K, L, I, R) P := by
  rw [a_enter1 (M := a_m29) rfl (a_cat_rf (a_cat_int (a_cat_int (a_cat_int a_cat_nil)))) (show 4 ≤ 4 by decide)]
  show a_at _ (a_xm a_m29) 0 [some (a_rf (C + 17)), some (.int r), some (.int o), some (.int k)] [] _ _
  repeat' first
    | with_reducible apply And.intro
    | with_reducible assumption
    | with_reducible intro _
    | with_reducible apply hP
    | with_reducible apply ck_markBy hS
    | simp only [q29_0, q29_1, q29_2, q29_5, q29_6, q29_7, q29_8, q29_11, q29_13, q29_16, q29_17, q29_18, q29_19, q29_22, q29_24, q29_27, q29_28, q29_31, q29_32, k_17 hS, z_17, as_nil, as_i, as_r, Nat.reduceAdd, Nat.reduceLeDiff, z_eq0, z_eq1, z_or, z_em, Classical.not_not, not_false_eq_true, not_true_eq_false, true_and, and_true, false_and, and_false, and_self, true_implies, false_implies, implies_true, Option.toList_some, Option.toList_none, List.cons_append, List.nil_append, Nat.add_eq_zero_iff, a_nl_i, a_nl_r, a_nl_n, true_or, or_true, eq_self, a_isRA_22, a_isRA_24, a_isRA_32, a_isA_20, ok_4, ok_5, ok_6, ok_7, ok_9, ok_20, ok_21, ok_30, ok_50, ok_180, ok_192, ok_200]
  all_goals grind [ui_ap]
theorem lk_habitOf_22 (hS : cS C K L R) {q i : Int32} (hn : ∀ o m u, a_at (d + 2) (a_xm a_m28) 69 [some (a_rf (C + 17)), some (.int q), some (.int o), some (.int m), some (.int i), u] [] (n, t, K, L, I, R) P) : ∀ r : Int32, r ≤ 6 → ∀ (o m : Int32), 0 ≤ r → a_at (d + 2) (a_xm a_m28) 22 [some (a_rf (C + 17)), some (.int q), some (.int o), some (.int m), some (.int i), some (.int r)] [] (n, t, K, L, I, R) P := by
  refine up_ind 6 (fun r hk ih => ?_)
  intro o m q0
  rw [q28_22]
  repeat' first
    | with_reducible apply And.intro
    | with_reducible assumption
    | with_reducible intro _
    | with_reducible apply hn
    | with_reducible apply ih
    | with_reducible apply ck_areTwoMarks hS
    | with_reducible apply ck_markBy hS
    | simp only [q28_24, q28_26, q28_29, q28_30, q28_31, q28_33, q28_35, q28_38, q28_41, q28_42, q28_43, q28_44, q28_46, q28_49, q28_50, q28_52, q28_54, q28_57, q28_58, q28_59, q28_60, q28_63, q28_66, k_17 hS, z_17, as_nil, as_i, as_r, Nat.reduceAdd, Nat.reduceLeDiff, z_eq0, z_eq1, z_or, z_em, Classical.not_not, not_false_eq_true, not_true_eq_false, true_and, and_true, false_and, and_false, and_self, true_implies, false_implies, implies_true, Option.toList_some, Option.toList_none, List.cons_append, List.nil_append, Nat.add_eq_zero_iff, a_nl_i, a_nl_r, a_nl_n, true_or, or_true, eq_self, a_isRA_22, a_isRA_24, a_isRA_32, a_isA_20, ok_4, ok_5, ok_6, ok_7, ok_9, ok_20, ok_21, ok_30, ok_50, ok_180, ok_192, ok_200]
  all_goals grind [ui_ap]
theorem lk_habitOf_7 (hT : cT C K L I R) {q : Int32} (hP : ∀ v, P (some (.int v)) (n, t, K, L, I, R)) : ∀ i : Int32, i ≤ 30 → ∀ (o m : Int32) u, 0 ≤ i → a_at (d + 2) (a_xm a_m28) 7 [some (a_rf (C + 17)), some (.int q), some (.int o), some (.int m), some (.int i), u] [] (n, t, K, L, I, R) P := by
  have hS := hT.s
  have gc := hT.g_asks
  refine up_ind 30 (fun i hk ih => ?_)
  intro o m u q0
  have hn : i < 30 → ∀ o m u, a_at (d + 2) (a_xm a_m28) 69 [some (a_rf (C + 17)), some (.int q), some (.int o), some (.int m), some (.int i), u] [] (n, t, K, L, I, R) P := fun hi o m u => by
    have ih := ih hi
    simp only [q28_69, q28_72, as_nil, as_i, as_r, Nat.reduceAdd, Nat.reduceLeDiff, z_eq0, z_eq1, z_or, z_em, Classical.not_not, not_false_eq_true, not_true_eq_false, true_and, and_true, false_and, and_false, and_self, true_implies, false_implies, implies_true, Option.toList_some, Option.toList_none, List.cons_append, List.nil_append, Nat.add_eq_zero_iff, a_nl_i, a_nl_r, a_nl_n, true_or, or_true, eq_self, a_isRA_22, a_isRA_24, a_isRA_32, a_isA_20, ok_4, ok_5, ok_6, ok_7, ok_9, ok_20, ok_21, ok_30, ok_50, ok_180, ok_192, ok_200]
    exact ih o m u (by grind)
  have hl : i < 30 → ∀ o m, a_at (d + 2) (a_xm a_m28) 22 [some (a_rf (C + 17)), some (.int q), some (.int o), some (.int m), some (.int i), some (.int 0)] [] (n, t, K, L, I, R) P := fun hi o m => lk_habitOf_22 hS (hn hi) 0 (by decide) o m (by decide)
  rw [q28_7]
  repeat' first
    | with_reducible apply And.intro
    | with_reducible assumption
    | with_reducible intro _
    | with_reducible apply hP
    | with_reducible apply hl
    | with_reducible apply ck_floorDiv
    | simp only [q28_9, q28_10, q28_13, q28_16, q28_19, q28_20, k_17 hS, z_17, r_17_0 hS, k_14 hS, z_14, q28_75, q28_76, q28_79, q28_80, q28_83, q28_84, q28_85, q28_88, as_nil, as_i, as_r, Nat.reduceAdd, Nat.reduceLeDiff, z_eq0, z_eq1, z_or, z_em, Classical.not_not, not_false_eq_true, not_true_eq_false, true_and, and_true, false_and, and_false, and_self, true_implies, false_implies, implies_true, Option.toList_some, Option.toList_none, List.cons_append, List.nil_append, Nat.add_eq_zero_iff, a_nl_i, a_nl_r, a_nl_n, true_or, or_true, eq_self, a_isRA_22, a_isRA_24, a_isRA_32, a_isA_20, ok_4, ok_5, ok_6, ok_7, ok_9, ok_20, ok_21, ok_30, ok_50, ok_180, ok_192, ok_200]
  all_goals grind [ui_ap]
theorem ck_habitOf (hT : cT C K L I R) {q : Int32} (hP : ∀ v, P (some (.int v)) (n, t, K, L, I, R)) : a_does (d + 3) 28 [a_rf (C + 17), .int q] (n, t, K, L, I, R) P := by
  have hS := hT.s
  have hl := fun o m u => lk_habitOf_7 (d := d) hT (q := q) hP 0 (by decide) o m u (by decide)
  rw [a_enter1 (M := a_m28) rfl (a_cat_rf (a_cat_int a_cat_nil)) (show 2 ≤ 6 by decide)]
  show a_at _ (a_xm a_m28) 0 [some (a_rf (C + 17)), some (.int q), none, none, none, none] [] _ _
  repeat' first
    | with_reducible apply And.intro
    | with_reducible assumption
    | with_reducible intro _
    | with_reducible apply hl
    | simp only [q28_0, q28_1, q28_2, q28_3, q28_4, q28_5, as_nil, as_i, as_r, Nat.reduceAdd, Nat.reduceLeDiff, z_eq0, z_eq1, z_or, z_em, Classical.not_not, not_false_eq_true, not_true_eq_false, true_and, and_true, false_and, and_false, and_self, true_implies, false_implies, implies_true, Option.toList_some, Option.toList_none, List.cons_append, List.nil_append, Nat.add_eq_zero_iff, a_nl_i, a_nl_r, a_nl_n, true_or, or_true, eq_self, a_isRA_22, a_isRA_24, a_isRA_32, a_isA_20, ok_4, ok_5, ok_6, ok_7, ok_9, ok_20, ok_21, ok_30, ok_50, ok_180, ok_192, ok_200]
  all_goals grind [ui_ap]
theorem lk_doubtOf_24 (hS : cS C K L R) {q i : Int32} (hn : ∀ o m u w, a_at (d + 2) (a_xm a_m98) 81 [some (a_rf (C + 17)), some (.int q), some (.int o), some (.int m), some (.int i), u, w] [] (n, t, K, L, I, R) P) : ∀ r : Int32, r ≤ 6 → ∀ (o m : Int32) u, 0 ≤ r → a_at (d + 2) (a_xm a_m98) 24 [some (a_rf (C + 17)), some (.int q), some (.int o), some (.int m), some (.int i), some (.int r), u] [] (n, t, K, L, I, R) P := by
  refine up_ind 6 (fun r hk ih => ?_)
  intro o m u q0
  rw [q98_24]
  repeat' first
    | with_reducible apply And.intro
    | with_reducible assumption
    | with_reducible intro _
    | with_reducible apply hn
    | with_reducible apply ih
    | with_reducible apply ck_areTwoMarks hS
    | with_reducible apply ck_markBy hS
    | simp only [q98_26, q98_28, q98_31, q98_32, q98_33, q98_35, q98_37, q98_40, q98_43, q98_44, q98_45, q98_47, q98_50, q98_51, q98_53, q98_55, q98_58, q98_59, q98_61, q98_62, q98_64, q98_67, q98_68, q98_69, q98_71, q98_74, q98_75, q98_78, k_17 hS, z_17, sp_min, sp_max, as_nil, as_i, as_r, Nat.reduceAdd, Nat.reduceLeDiff, z_eq0, z_eq1, z_or, z_em, Classical.not_not, not_false_eq_true, not_true_eq_false, true_and, and_true, false_and, and_false, and_self, true_implies, false_implies, implies_true, Option.toList_some, Option.toList_none, List.cons_append, List.nil_append, Nat.add_eq_zero_iff, a_nl_i, a_nl_r, a_nl_n, true_or, or_true, eq_self, a_isRA_22, a_isRA_24, a_isRA_32, a_isA_20, ok_4, ok_5, ok_6, ok_7, ok_9, ok_20, ok_21, ok_30, ok_50, ok_180, ok_192, ok_200]
  all_goals grind [ui_ap]
theorem lk_doubtOf_9 (hT : cT C K L I R) {q : Int32} (hP : ∀ v, P (some (.int v)) (n, t, K, L, I, R)) : ∀ i : Int32, i ≤ 30 → ∀ (o m : Int32) u w, 0 ≤ i → a_at (d + 2) (a_xm a_m98) 9 [some (a_rf (C + 17)), some (.int q), some (.int o), some (.int m), some (.int i), u, w] [] (n, t, K, L, I, R) P := by
  have hS := hT.s
  have gc := hT.g_asks
  refine up_ind 30 (fun i hk ih => ?_)
  intro o m u w q0
  have hn : i < 30 → ∀ o m u w, a_at (d + 2) (a_xm a_m98) 81 [some (a_rf (C + 17)), some (.int q), some (.int o), some (.int m), some (.int i), u, w] [] (n, t, K, L, I, R) P := fun hi o m u w => by
    have ih := ih hi
    simp only [q98_81, q98_84, as_nil, as_i, as_r, Nat.reduceAdd, Nat.reduceLeDiff, z_eq0, z_eq1, z_or, z_em, Classical.not_not, not_false_eq_true, not_true_eq_false, true_and, and_true, false_and, and_false, and_self, true_implies, false_implies, implies_true, Option.toList_some, Option.toList_none, List.cons_append, List.nil_append, Nat.add_eq_zero_iff, a_nl_i, a_nl_r, a_nl_n, true_or, or_true, eq_self, a_isRA_22, a_isRA_24, a_isRA_32, a_isA_20, ok_4, ok_5, ok_6, ok_7, ok_9, ok_20, ok_21, ok_30, ok_50, ok_180, ok_192, ok_200]
    exact ih o m u w (by grind)
  have hl : i < 30 → ∀ o m u, a_at (d + 2) (a_xm a_m98) 24 [some (a_rf (C + 17)), some (.int q), some (.int o), some (.int m), some (.int i), some (.int 0), u] [] (n, t, K, L, I, R) P := fun hi o m u => lk_doubtOf_24 hS (hn hi) 0 (by decide) o m u (by decide)
  rw [q98_9]
  repeat' first
    | with_reducible apply And.intro
    | with_reducible assumption
    | with_reducible intro _
    | with_reducible apply hP
    | with_reducible apply hl
    | with_reducible apply ck_floorDiv
    | simp only [q98_11, q98_12, q98_15, q98_18, q98_21, q98_22, k_17 hS, z_17, r_17_0 hS, k_14 hS, z_14, q98_87, q98_88, q98_89, q98_90, q98_91, q98_94, sp_max, as_nil, as_i, as_r, Nat.reduceAdd, Nat.reduceLeDiff, z_eq0, z_eq1, z_or, z_em, Classical.not_not, not_false_eq_true, not_true_eq_false, true_and, and_true, false_and, and_false, and_self, true_implies, false_implies, implies_true, Option.toList_some, Option.toList_none, List.cons_append, List.nil_append, Nat.add_eq_zero_iff, a_nl_i, a_nl_r, a_nl_n, true_or, or_true, eq_self, a_isRA_22, a_isRA_24, a_isRA_32, a_isA_20, ok_4, ok_5, ok_6, ok_7, ok_9, ok_20, ok_21, ok_30, ok_50, ok_180, ok_192, ok_200]
  all_goals grind [ui_ap]
theorem ck_doubtOf (hT : cT C K L I R) {q : Int32} (hP : ∀ v, P (some (.int v)) (n, t, K, L, I, R)) : a_does (d + 3) 98 [a_rf (C + 17), .int q] (n, t, K, L, I, R) P := by
  have hS := hT.s
  have hl := fun o m u w => lk_doubtOf_9 (d := d) hT (q := q) hP 0 (by decide) o m u w (by decide)
  rw [a_enter1 (M := a_m98) rfl (a_cat_rf (a_cat_int a_cat_nil)) (show 2 ≤ 7 by decide)]
  show a_at _ (a_xm a_m98) 0 [some (a_rf (C + 17)), some (.int q), none, none, none, none, none] [] _ _
  repeat' first
    | with_reducible apply And.intro
    | with_reducible assumption
    | with_reducible intro _
    | with_reducible apply hl
    | simp only [q98_0, q98_2, q98_3, q98_5, q98_6, q98_7, as_nil, as_i, as_r, Nat.reduceAdd, Nat.reduceLeDiff, z_eq0, z_eq1, z_or, z_em, Classical.not_not, not_false_eq_true, not_true_eq_false, true_and, and_true, false_and, and_false, and_self, true_implies, false_implies, implies_true, Option.toList_some, Option.toList_none, List.cons_append, List.nil_append, Nat.add_eq_zero_iff, a_nl_i, a_nl_r, a_nl_n, true_or, or_true, eq_self, a_isRA_22, a_isRA_24, a_isRA_32, a_isA_20, ok_4, ok_5, ok_6, ok_7, ok_9, ok_20, ok_21, ok_30, ok_50, ok_180, ok_192, ok_200]
  all_goals grind [ui_ap]
theorem lk_joinedMark_7 (hS : cS C K L R) {q : Int32} (hP : ∀ v, P (some (.int v)) (n, t, K, L, I, R)) : ∀ i : Int32, i ≤ 6 → ∀ (o m : Int32), 0 ≤ i → a_at (d + 1) (a_xm a_m33) 7 [some (a_rf (C + 17)), some (.int q), some (.int o), some (.int m), some (.int i)] [] (n, t, K, L, I, R) P := by
  refine up_ind 6 (fun i hk ih => ?_)
  intro o m q0
  rw [q33_7]
  repeat' first
    | with_reducible apply And.intro
    | with_reducible assumption
    | with_reducible intro _
    | with_reducible apply hP
    | with_reducible apply ih
    | with_reducible apply ck_markBy hS
    | simp only [q33_9, q33_11, q33_14, q33_15, q33_17, q33_18, q33_21, q33_23, q33_26, q33_27, q33_28, q33_30, q33_31, q33_34, q33_35, q33_38, q33_40, q33_41, q33_42, q33_43, q33_44, q33_47, q33_50, q33_53, q33_54, q33_57, q33_59, q33_62, q33_63, q33_65, q33_66, q33_67, q33_68, q33_71, q33_74, k_17 hS, z_17, r_17_4 hS, k_21 hS, l_21 hS, z_21, sp_min, sp_max, as_nil, as_i, as_r, Nat.reduceAdd, Nat.reduceLeDiff, z_eq0, z_eq1, z_or, z_em, Classical.not_not, not_false_eq_true, not_true_eq_false, true_and, and_true, false_and, and_false, and_self, true_implies, false_implies, implies_true, Option.toList_some, Option.toList_none, List.cons_append, List.nil_append, Nat.add_eq_zero_iff, a_nl_i, a_nl_r, a_nl_n, true_or, or_true, eq_self, a_isRA_22, a_isRA_24, a_isRA_32, a_isA_20, ok_4, ok_5, ok_6, ok_7, ok_9, ok_20, ok_21, ok_30, ok_50, ok_180, ok_192, ok_200]
  all_goals grind [ui_ap]
theorem ck_joinedMark (hS : cS C K L R) {q : Int32} (hP : ∀ v, P (some (.int v)) (n, t, K, L, I, R)) : a_does (d + 2) 33 [a_rf (C + 17), .int q] (n, t, K, L, I, R) P := by
  have hl := fun o m => lk_joinedMark_7 (d := d) hS (q := q) hP 0 (by decide) o m (by decide)
  rw [a_enter1 (M := a_m33) rfl (a_cat_rf (a_cat_int a_cat_nil)) (show 2 ≤ 5 by decide)]
  show a_at _ (a_xm a_m33) 0 [some (a_rf (C + 17)), some (.int q), none, none, none] [] _ _
  repeat' first
    | with_reducible apply And.intro
    | with_reducible assumption
    | with_reducible intro _
    | with_reducible apply hl
    | simp only [q33_0, q33_1, q33_2, q33_3, q33_4, q33_5, as_nil, as_i, as_r, Nat.reduceAdd, Nat.reduceLeDiff, z_eq0, z_eq1, z_or, z_em, Classical.not_not, not_false_eq_true, not_true_eq_false, true_and, and_true, false_and, and_false, and_self, true_implies, false_implies, implies_true, Option.toList_some, Option.toList_none, List.cons_append, List.nil_append, Nat.add_eq_zero_iff, a_nl_i, a_nl_r, a_nl_n, true_or, or_true, eq_self, a_isRA_22, a_isRA_24, a_isRA_32, a_isA_20, ok_4, ok_5, ok_6, ok_7, ok_9, ok_20, ok_21, ok_30, ok_50, ok_180, ok_192, ok_200]
  all_goals grind [ui_ap]
theorem lk_toldOf_4 (hS : cS C K L R) {q : Int32} (hP : ∀ v, P (some (.int v)) (n, t, K, L, I, R)) : ∀ i : Int32, i ≤ 6 → ∀ (o : Int32), 0 ≤ i → a_at d (a_xm a_m94) 4 [some (a_rf (C + 17)), some (.int q), some (.int o), some (.int i)] [] (n, t, K, L, I, R) P := by
  refine up_ind 6 (fun i hk ih => ?_)
  intro o q0
  rw [q94_4]
  repeat' first
    | with_reducible apply And.intro
    | with_reducible assumption
    | with_reducible intro _
    | with_reducible apply hP
    | with_reducible apply ih
    | simp only [q94_5, q94_7, q94_10, q94_11, q94_12, q94_15, q94_16, q94_17, q94_18, q94_19, q94_20, q94_21, q94_22, q94_23, q94_26, q94_29, q94_30, k_17 hS, z_17, r_17_2 hS, k_19 hS, l_19 hS, z_19, as_nil, as_i, as_r, Nat.reduceAdd, Nat.reduceLeDiff, z_eq0, z_eq1, z_or, z_em, Classical.not_not, not_false_eq_true, not_true_eq_false, true_and, and_true, false_and, and_false, and_self, true_implies, false_implies, implies_true, Option.toList_some, Option.toList_none, List.cons_append, List.nil_append, Nat.add_eq_zero_iff, a_nl_i, a_nl_r, a_nl_n, true_or, or_true, eq_self, a_isRA_22, a_isRA_24, a_isRA_32, a_isA_20, ok_4, ok_5, ok_6, ok_7, ok_9, ok_20, ok_21, ok_30, ok_50, ok_180, ok_192, ok_200]
  all_goals grind [ui_ap]
theorem ck_toldOf (hS : cS C K L R) {q : Int32} (hP : ∀ v, P (some (.int v)) (n, t, K, L, I, R)) : a_does (d + 1) 94 [a_rf (C + 17), .int q] (n, t, K, L, I, R) P := by
  have hl := fun o => lk_toldOf_4 (d := d) hS (q := q) hP 0 (by decide) o (by decide)
  rw [a_enter1 (M := a_m94) rfl (a_cat_rf (a_cat_int a_cat_nil)) (show 2 ≤ 4 by decide)]
  show a_at _ (a_xm a_m94) 0 [some (a_rf (C + 17)), some (.int q), none, none] [] _ _
  repeat' first
    | with_reducible apply And.intro
    | with_reducible assumption
    | with_reducible intro _
    | with_reducible apply hl
    | simp only [q94_0, q94_1, q94_2, q94_3, as_nil, as_i, as_r, Nat.reduceAdd, Nat.reduceLeDiff, z_eq0, z_eq1, z_or, z_em, Classical.not_not, not_false_eq_true, not_true_eq_false, true_and, and_true, false_and, and_false, and_self, true_implies, false_implies, implies_true, Option.toList_some, Option.toList_none, List.cons_append, List.nil_append, Nat.add_eq_zero_iff, a_nl_i, a_nl_r, a_nl_n, true_or, or_true, eq_self, a_isRA_22, a_isRA_24, a_isRA_32, a_isA_20, ok_4, ok_5, ok_6, ok_7, ok_9, ok_20, ok_21, ok_30, ok_50, ok_180, ok_192, ok_200]
  all_goals grind [ui_ap]
theorem ck_isTold (hS : cS C K L R) {r k : Int32} (hr : 0 ≤ r ∧ r < 6) (hP : ∀ v, P (some (.int v)) (n, t, K, L, I, R)) : a_does (d + 1) 93 [a_rf (C + 17), .int r, .int k] (n, t, K, L, I, R) P := by
  rw [a_enter1 (M := a_m93) rfl (a_cat_rf (a_cat_int (a_cat_int a_cat_nil))) (show 3 ≤ 3 by decide)]
  show a_at _ (a_xm a_m93) 0 [some (a_rf (C + 17)), some (.int r), some (.int k)] [] _ _
  repeat' first
    | with_reducible apply And.intro
    | with_reducible assumption
    | with_reducible intro _
    | with_reducible apply hP
    | simp only [q93_0, q93_1, q93_4, q93_5, q93_6, q93_7, q93_8, q93_9, q93_10, q93_13, q93_14, q93_17, q93_18, k_17 hS, z_17, r_17_2 hS, k_19 hS, l_19 hS, z_19, as_nil, as_i, as_r, Nat.reduceAdd, Nat.reduceLeDiff, z_eq0, z_eq1, z_or, z_em, Classical.not_not, not_false_eq_true, not_true_eq_false, true_and, and_true, false_and, and_false, and_self, true_implies, false_implies, implies_true, Option.toList_some, Option.toList_none, List.cons_append, List.nil_append, Nat.add_eq_zero_iff, a_nl_i, a_nl_r, a_nl_n, true_or, or_true, eq_self, a_isRA_22, a_isRA_24, a_isRA_32, a_isA_20, ok_4, ok_5, ok_6, ok_7, ok_9, ok_20, ok_21, ok_30, ok_50, ok_180, ok_192, ok_200]
  all_goals grind [ui_ap]
theorem ck_tellKin (hS : cS C K L R) {r g : Int32} (hr : 0 ≤ r ∧ r < 6) (hP : P (some (.int (if (I (C + 18) r.toNatClampNeg >>> (g &&& 31)) &&& 1 = 0 then 1 else 0))) (n, t, K, L, (a_ui I (C + 18) r.toNatClampNeg (I (C + 18) r.toNatClampNeg ||| (1 <<< (g &&& 31)))), R)) : a_does (d + 1) 91 [a_rf (C + 17), .int r, .int g] (n, t, K, L, I, R) P := by
  rw [a_enter1 (M := a_m91) rfl (a_cat_rf (a_cat_int (a_cat_int a_cat_nil))) (show 3 ≤ 4 by decide)]
  show a_at _ (a_xm a_m91) 0 [some (a_rf (C + 17)), some (.int r), some (.int g), none] [] _ _
  simp only [q91_0, q91_1, q91_4, q91_5, q91_6, q91_7, q91_8, q91_9, q91_10, q91_13, q91_14, q91_17, q91_18, q91_19, q91_20, q91_23, q91_24, q91_25, q91_26, q91_27, q91_28, q91_29, q91_30, q91_31, q91_32, k_17 hS, z_17, r_17_1 hS, k_18 hS, l_18 hS, z_18, as_nil, as_i, as_r, Nat.reduceAdd, Nat.reduceLeDiff, z_eq0, z_eq1, z_or, z_em, Classical.not_not, not_false_eq_true, not_true_eq_false, true_and, and_true, false_and, and_false, and_self, true_implies, false_implies, implies_true, Option.toList_some, Option.toList_none, List.cons_append, List.nil_append, Nat.add_eq_zero_iff, a_nl_i, a_nl_r, a_nl_n, true_or, or_true, eq_self, a_isRA_22, a_isRA_24, a_isRA_32, a_isA_20, ok_4, ok_5, ok_6, ok_7, ok_9, ok_20, ok_21, ok_30, ok_50, ok_180, ok_192, ok_200]
  by_cases c : (I (C + 18) r.toNatClampNeg >>> (g &&& 31)) &&& 1 = 0
  · simp only [c, if_true] at hP
    simp only [c, hP, hr, not_true_eq_false, false_implies, true_implies, and_true, true_and]
    try decide
  · simp only [c, if_false] at hP
    simp only [c, hP, hr, not_false_eq_true, false_implies, true_implies, and_true, true_and]
    try decide
theorem lk_reckonMarks_39 (hP : ∀ J, dG C K L R I0 J → P none (n, t, K, L, J, R)) : ∀ i : Int32, i ≤ 30 → ∀ J u, 0 ≤ i → dG C K L R I0 J → a_at (d + 3) (a_xm a_m27) 39 [some (a_rf (C + 17)), some (.int i), u] [] (n, t, K, L, J, R) P := by
  refine up_ind 30 (fun i hk ih => ?_)
  intro J u q0 hJ
  have hT := hJ.1
  have hS := hT.s
  have gA := hT.g_asksR
  have gB := hT.g_benchesR
  have gX := hT.g_textsR
  have gc := hT.g_asks
  have gi := gA i.toNatClampNeg
  have hw : ∀ x v, K x = 1 → dG C K L R I0 (a_ui J x 12 v) := fun x v hx => dG_askf hJ (hT.g_ask x hx).1 hx (by decide)
  rw [q27_39]
  repeat' first
    | with_reducible apply And.intro
    | with_reducible assumption
    | with_reducible intro _
    | with_reducible apply hP
    | with_reducible apply ih
    | with_reducible apply ck_joinedMark hS
    | with_reducible apply hw
    | simp only [q27_40, q27_41, q27_44, q27_47, q27_50, q27_51, q27_54, q27_55, q27_58, q27_59, q27_60, q27_63, q27_64, q27_65, q27_66, q27_69, q27_72, q27_75, q27_78, k_17 hS, z_17, r_17_0 hS, k_14 hS, z_14, sp_askAt hS gA, as_nil, as_i, as_r, Nat.reduceAdd, Nat.reduceLeDiff, z_eq0, z_eq1, z_or, z_em, Classical.not_not, not_false_eq_true, not_true_eq_false, true_and, and_true, false_and, and_false, and_self, true_implies, false_implies, implies_true, Option.toList_some, Option.toList_none, List.cons_append, List.nil_append, Nat.add_eq_zero_iff, a_nl_i, a_nl_r, a_nl_n, true_or, or_true, eq_self, a_isRA_22, a_isRA_24, a_isRA_32, a_isA_20, ok_4, ok_5, ok_6, ok_7, ok_9, ok_20, ok_21, ok_30, ok_50, ok_180, ok_192, ok_200]
  all_goals grind [ui_ap]
theorem lk_reckonMarks_2 (hP : ∀ J, dG C K L R I0 J → P none (n, t, K, L, J, R)) : ∀ i : Int32, i ≤ 6 → ∀ J u, 0 ≤ i → dG C K L R I0 J → a_at (d + 3) (a_xm a_m27) 2 [some (a_rf (C + 17)), some (.int i), u] [] (n, t, K, L, J, R) P := by
  refine up_ind 6 (fun i hk ih => ?_)
  intro J u q0 hJ
  have hT := hJ.1
  have hS := hT.s
  have hw : ∀ k v, dG C K L R I0 (a_ui J (C + 21) k v) := fun k v => dG_21 hJ
  have hl := fun u => lk_reckonMarks_39 (d := d) hP 0 (by decide) J u (by decide) hJ
  rw [q27_2]
  repeat' first
    | with_reducible apply And.intro
    | with_reducible assumption
    | with_reducible intro _
    | with_reducible apply hl
    | with_reducible apply ih
    | with_reducible apply ck_habitOf
    | with_reducible apply hw
    | simp only [q27_3, q27_5, q27_8, q27_9, q27_12, q27_13, q27_14, q27_17, q27_18, q27_21, q27_22, q27_23, q27_26, q27_29, q27_30, q27_31, q27_34, q27_37, q27_38, k_17 hS, z_17, r_17_4 hS, k_21 hS, l_21 hS, z_21, as_nil, as_i, as_r, Nat.reduceAdd, Nat.reduceLeDiff, z_eq0, z_eq1, z_or, z_em, Classical.not_not, not_false_eq_true, not_true_eq_false, true_and, and_true, false_and, and_false, and_self, true_implies, false_implies, implies_true, Option.toList_some, Option.toList_none, List.cons_append, List.nil_append, Nat.add_eq_zero_iff, a_nl_i, a_nl_r, a_nl_n, true_or, or_true, eq_self, a_isRA_22, a_isRA_24, a_isRA_32, a_isA_20, ok_4, ok_5, ok_6, ok_7, ok_9, ok_20, ok_21, ok_30, ok_50, ok_180, ok_192, ok_200]
  all_goals grind [ui_ap]
theorem ck_reckonMarks (hG : dG C K L R I0 I) (hP : ∀ J, dG C K L R I0 J → P none (n, t, K, L, J, R)) : a_does (d + 4) 27 [a_rf (C + 17)] (n, t, K, L, I, R) P := by
  have hS := hG.1.s
  have hl := fun u => lk_reckonMarks_2 (d := d) hP 0 (by decide) I u (by decide) hG
  rw [a_enter1 (M := a_m27) rfl (a_cat_rf a_cat_nil) (show 1 ≤ 3 by decide)]
  show a_at _ (a_xm a_m27) 0 [some (a_rf (C + 17)), none, none] [] _ _
  repeat' first
    | with_reducible apply And.intro
    | with_reducible assumption
    | with_reducible intro _
    | with_reducible apply hl
    | simp only [q27_0, q27_1, as_nil, as_i, as_r, Nat.reduceAdd, Nat.reduceLeDiff, z_eq0, z_eq1, z_or, z_em, Classical.not_not, not_false_eq_true, not_true_eq_false, true_and, and_true, false_and, and_false, and_self, true_implies, false_implies, implies_true, Option.toList_some, Option.toList_none, List.cons_append, List.nil_append, Nat.add_eq_zero_iff, a_nl_i, a_nl_r, a_nl_n, true_or, or_true, eq_self, a_isRA_22, a_isRA_24, a_isRA_32, a_isA_20, ok_4, ok_5, ok_6, ok_7, ok_9, ok_20, ok_21, ok_30, ok_50, ok_180, ok_192, ok_200]
  all_goals grind [ui_ap]
theorem ck_changeScaled (hT : cT C K L I R) {v : Int32} (hP : ∀ J, dG C K L R (a_ui I (C + 17) 5 v) J → P (some (.int (I (C + 17) 5))) (n, t, K, L, J, R)) : a_does (d + 5) 26 [a_rf (C + 17), .int v] (n, t, K, L, I, R) P := by
  have hS := hT.s
  have hr := dG_refl (sT_Panel_scaled hT (v := v))
  rw [a_enter1 (M := a_m26) rfl (a_cat_rf (a_cat_int a_cat_nil)) (show 2 ≤ 3 by decide)]
  show a_at _ (a_xm a_m26) 0 [some (a_rf (C + 17)), some (.int v), none] [] _ _
  repeat' first
    | with_reducible apply And.intro
    | with_reducible assumption
    | with_reducible intro _
    | with_reducible apply hP
    | with_reducible apply ck_reckonMarks hr
    | simp only [q26_0, q26_1, q26_4, q26_5, q26_6, q26_7, q26_10, q26_11, q26_14, q26_15, k_17 hS, z_17, as_nil, as_i, as_r, Nat.reduceAdd, Nat.reduceLeDiff, z_eq0, z_eq1, z_or, z_em, Classical.not_not, not_false_eq_true, not_true_eq_false, true_and, and_true, false_and, and_false, and_self, true_implies, false_implies, implies_true, Option.toList_some, Option.toList_none, List.cons_append, List.nil_append, Nat.add_eq_zero_iff, a_nl_i, a_nl_r, a_nl_n, true_or, or_true, eq_self, a_isRA_22, a_isRA_24, a_isRA_32, a_isA_20, ok_4, ok_5, ok_6, ok_7, ok_9, ok_20, ok_21, ok_30, ok_50, ok_180, ok_192, ok_200]
  all_goals grind [ui_ap]
theorem ck_tell {a : Nat} (ha : K a = 1) (hG : dG C K L R I0 I) {r v : Int32} (hr : 0 ≤ r ∧ r < 6) (hP : ∀ v J, dG C K L R I0 J → P (some (.int v)) (n, t, K, L, J, R)) : a_does (d + 5) 95 [a_rf (C + 17), .int r, a_rf a, .int v] (n, t, K, L, I, R) P := by
  have hT := hG.1
  have hS := hT.s
  obtain ⟨a1, a2, a4, a3⟩ := hT.g_ask a ha
  have a0 : (a = 0) = False := eq_false (by omega)
  have a19 : (a = C + 19) = False := eq_false (by omega)
  have a20 : (a = C + 20) = False := eq_false (by omega)
  rw [a_enter1 (M := a_m95) rfl (a_cat_rf (a_cat_int (a_cat_rf (a_cat_int a_cat_nil)))) (show 4 ≤ 5 by decide)]
  show a_at _ (a_xm a_m95) 0 [some (a_rf (C + 17)), some (.int r), some (a_rf a), some (.int v), none] [] _ _
  repeat' first
    | with_reducible apply And.intro
    | with_reducible assumption
    | with_reducible intro _
    | with_reducible apply hP
    | with_reducible apply ck_reckonMarks (I0 := I0)
    | with_reducible apply dG_20
    | with_reducible apply dG_19
    | simp only [q95_0, q95_1, q95_4, q95_5, q95_6, q95_7, q95_8, q95_9, q95_12, q95_13, q95_14, q95_15, q95_16, q95_19, q95_20, q95_21, q95_22, q95_25, q95_26, q95_27, q95_28, q95_31, q95_32, q95_33, q95_34, q95_36, q95_37, q95_38, q95_41, q95_42, q95_44, q95_46, q95_49, q95_51, q95_52, q95_55, q95_56, q95_59, q95_60, q95_63, q95_65, q95_66, q95_67, q95_68, q95_71, q95_72, k_17 hS, z_17, r_17_2 hS, k_19 hS, l_19 hS, z_19, r_17_1 hS, k_18 hS, l_18 hS, z_18, r_17_3 hS, k_20 hS, l_20 hS, z_20, as_nil, as_i, as_r, Nat.reduceAdd, Nat.reduceLeDiff, z_eq0, z_eq1, z_or, z_em, Classical.not_not, not_false_eq_true, not_true_eq_false, true_and, and_true, false_and, and_false, and_self, true_implies, false_implies, implies_true, Option.toList_some, Option.toList_none, List.cons_append, List.nil_append, Nat.add_eq_zero_iff, a_nl_i, a_nl_r, a_nl_n, true_or, or_true, eq_self, a_isRA_22, a_isRA_24, a_isRA_32, a_isA_20, ok_4, ok_5, ok_6, ok_7, ok_9, ok_20, ok_21, ok_30, ok_50, ok_180, ok_192, ok_200, ha, a0, of_180, a19, ui_ap, cc_ne, cc_n0, cc_0n, Nat.reduceEqDiff, reduceIte, if_true, if_false]
  all_goals grind [ui_ap]
end K9
end
section
/-! the class: reading a text -/
section KA
variable {d n t C : Nat} {K L : Nat → Nat} {I I0 J J0 J1 J2 : Nat → Nat → Int32} {R : Nat → Nat → Nat} {P : Option Value → AH → Prop}
theorem sp_signOf {s a b c k : Int32} {h : AH} : a_does (d + 1) 76 [.int s, .int a, .int b, .int c, .int k] h P ↔ P (some (.int (if s = a then k else if s = b then k + 1 else if s = c then k + 2 else -9))) h := by
  rw [a_enter1 (M := a_m76) rfl (a_cat_int (a_cat_int (a_cat_int (a_cat_int (a_cat_int a_cat_nil))))) (show 5 ≤ 5 by decide)]
  show a_at _ (a_xm a_m76) 0 [some (.int s), some (.int a), some (.int b), some (.int c), some (.int k)] [] _ _ ↔ _
  simp only [q76_0, q76_1, q76_2, q76_5, q76_7, q76_8, q76_9, q76_10, q76_13, q76_15, q76_16, q76_17, q76_18, q76_19, q76_20, q76_23, q76_25, q76_26, q76_27, q76_30, q76_32, as_nil, as_i, as_r, Nat.reduceAdd, Nat.reduceLeDiff, z_eq0, z_eq1, z_or, z_em, Classical.not_not, not_false_eq_true, not_true_eq_false, true_and, and_true, false_and, and_false, and_self, true_implies, false_implies, implies_true, Option.toList_some, Option.toList_none, List.cons_append, List.nil_append, Nat.add_eq_zero_iff, a_nl_i, a_nl_r, a_nl_n, true_or, or_true, eq_self, a_isRA_22, a_isRA_24, a_isRA_32, a_isA_20]
  grind
theorem inc_ti {p : Int32} (h0 : 0 ≤ p) (h : p < 1000) : (p + 1).toInt = p.toInt + 1 ∧ 0 ≤ p + 1 := by
  have e0 := Int32.le_iff_toInt_le.mp h0
  have e1 := Int32.lt_iff_toInt_lt.mp h
  have c0 : (0 : Int32).toInt = 0 := rfl
  have c1 : (1 : Int32).toInt = 1 := rfl
  have c2 : (1000 : Int32).toInt = 1000 := rfl
  have e : (p + 1).toInt = p.toInt + 1 := by rw [ti_add (by omega)]; omega
  exact ⟨e, by rw [Int32.le_iff_toInt_le]; omega⟩
theorem ck_letter (hT : cT C K L I R) (hP : ∀ v, P (some (.int v)) (n, t, K, L, I, R)) : a_does (d + 1) 80 [a_rf (C + 11)] (n, t, K, L, I, R) P := by
  have hS := hT.s
  rw [a_enter1 (M := a_m80) rfl (a_cat_rf a_cat_nil) (show 1 ≤ 1 by decide)]
  show a_at _ (a_xm a_m80) 0 [some (a_rf (C + 11))] [] _ _
  repeat' first
    | with_reducible apply And.intro
    | with_reducible assumption
    | with_reducible intro _
    | with_reducible apply hP
    | simp only [q80_0, q80_1, q80_4, q80_7, q80_8, q80_11, q80_12, q80_13, q80_16, q80_18, k_11 hS, z_11, r_11_0 hS, k_12 hS, l_12 hS, z_12, as_nil, as_i, as_r, Nat.reduceAdd, Nat.reduceLeDiff, z_eq0, z_eq1, z_or, z_em, Classical.not_not, not_false_eq_true, not_true_eq_false, true_and, and_true, false_and, and_false, and_self, true_implies, false_implies, implies_true, Option.toList_some, Option.toList_none, List.cons_append, List.nil_append, Nat.add_eq_zero_iff, a_nl_i, a_nl_r, a_nl_n, true_or, or_true, eq_self, a_isRA_22, a_isRA_24, a_isRA_32, a_isA_20, ok_4, ok_5, ok_6, ok_7, ok_9, ok_20, ok_21, ok_30, ok_50, ok_180, ok_192, ok_200]
  all_goals grind [ui_ap]
end KA
end
section
/-! the class: frames of public methods; what is added -/
/-- what most calls may change -/
def dX (C n : Nat) (K L : Nat → Nat) (I : Nat → Nat → Int32) (R : Nat → Nat → Nat) (n' : Nat) (K' L' : Nat → Nat) (J : Nat → Nat → Int32) (R' : Nat → Nat → Nat) : Prop := n ≤ n' ∧ (∀ x, x < n → K' x = K x) ∧ (∀ x, x < n → L' x = L x) ∧ (∀ x j, (x = C + 8 ∨ C + 44 ≤ x) → x ≤ C + 96 → R' x j = R x j) ∧ (∀ x j, eD C K x j → x < n → J x j = I x j)
def cZ (C c n0 : Nat) (K0 L0 : Nat → Nat) (I0 : Nat → Nat → Int32) (R0 : Nat → Nat → Nat) (n t : Nat) (K L : Nat → Nat) (J : Nat → Nat → Int32) (R : Nat → Nat → Nat) : Prop := C + 96 < n0 ∧ cH C c n t K L J R ∧ dX C n0 K0 L0 I0 R0 n K L J R
section KB
variable {d n t C c n0 n' n'' t' : Nat} {K L K0 L0 K' L' K'' L'' : Nat → Nat} {I I0 J J0 J1 J2 : Nat → Nat → Int32} {R R0 R' R'' : Nat → Nat → Nat} {P : Option Value → AH → Prop}
theorem dX_refl : dX C n K L I R n K L I R := ⟨Nat.le_refl _, fun _ _ => rfl, fun _ _ => rfl, fun _ _ _ _ => rfl, fun _ _ _ _ => rfl⟩
theorem eD_K {x j : Nat} (e : K' x = K x) (h : eD C K x j) : eD C K' x j := by
  unfold eD at h ⊢
  rw [e]
  exact h
theorem dX_X (h : dX C n K L I R n' K' L' J R') (h2 : dX C n' K' L' J R' n'' K'' L'' J0 R'') : dX C n K L I R n'' K'' L'' J0 R'' := by
  obtain ⟨p1, p2, p3, p4, p5⟩ := h
  obtain ⟨q1, q2, q3, q4, q5⟩ := h2
  exact ⟨by omega, fun x hx => (q2 x (by omega)).trans (p2 x hx), fun x hx => (q3 x (by omega)).trans (p3 x hx), fun x j h1 h2 => (q4 x j h1 h2).trans (p4 x j h1 h2), fun x j h1 h2 => (q5 x j (eD_K (p2 x h2) h1) (by omega)).trans (p5 x j h1 h2)⟩
theorem cZ_refl (h : cH C c n t K L I R) : cZ C c n K L I R n t K L I R := ⟨h.2.2.1, h, dX_refl⟩
theorem cH_le (h : cH C c n t K L J R) {c2 : Nat} (hc : c ≤ c2) : cH C c2 n t K L J R := by
  obtain ⟨p1, p2, p3, p4, p5, p6⟩ := h
  have : 1000 * c ≤ 1000 * c2 := Nat.mul_le_mul_left _ hc
  have : 800 * c ≤ 800 * c2 := Nat.mul_le_mul_left _ hc
  exact ⟨p1, p2, p3, p4, by omega, by omega⟩
theorem cZ_le (h : cZ C c n0 K0 L0 I0 R0 n t K L J R) {c2 : Nat} (hc : c ≤ c2) : cZ C c2 n0 K0 L0 I0 R0 n t K L J R := ⟨h.1, cH_le h.2.1 hc, h.2.2⟩
theorem cZ_G (h : cZ C c n0 K0 L0 I0 R0 n t K L I R) (g : dG C K L R I J) : cZ C c n0 K0 L0 I0 R0 n t K L J R := ⟨h.1, cH_J h.2.1 g.1, dX_X h.2.2 ⟨Nat.le_refl _, fun _ _ => rfl, fun _ _ => rfl, fun _ _ _ _ => rfl, fun x j h1 _ => g.2 x j h1⟩⟩
theorem cZ_C (h : cZ C c n0 K0 L0 I0 R0 n t K L I R) (g : dC C K L R I J) : cZ C c n0 K0 L0 I0 R0 n t K L J R := cZ_G h (dG_C (dG_refl h.2.1.1) g)
theorem cZ_L (h : cZ C c n0 K0 L0 I0 R0 n t K L I R) (g : dL C K L R I J) : cZ C c n0 K0 L0 I0 R0 n t K L J R := cZ_G h (dG_L (dG_refl h.2.1.1) g)
theorem cZ_Q (h : cZ C c n0 K0 L0 I0 R0 n t K L I R) (g : dQ C n K L I R n' K' L' J R') (h2 : cH C c n' t' K' L' J R') : cZ C c n0 K0 L0 I0 R0 n' t' K' L' J R' := by
  have hC := h.2.1.2.2.1
  have hK : ∀ x, (x = C + 8 ∨ C + 44 ≤ x) → x ≤ C + 96 → ¬ K x = 3 := fun x p q e => by
    have := (h.2.1.1.g_bnc x e).1
    omega
  obtain ⟨q1, q2, q3, q4, q5⟩ := g
  refine ⟨h.1, h2, dX_X h.2.2 ⟨q1, q2, q3, fun x j p q => q4 x j (by omega) (hK x p q), fun x j p q => q5 x j q (by unfold eD at p; omega) (by unfold eD at p; omega) ?_⟩⟩
  intro r
  unfold eD at p
  omega
theorem cV_eq (hL : ∀ j, L' (R' (R' (C + 16) j) 5) = L (R (R (C + 16) j) 5)) : cV C L' R' = cV C L R := by
  unfold cV
  rw [hL 0, hL 1, hL 2, hL 3, hL 4, hL 5]
theorem cH_R (h : cH C c n t K L J R) {k j v : Nat} (hk : k ≤ 43) (h16 : ¬ k = 16) (h2 : cT C K L J (a_ur R (C + k) j v)) : cH C c n t K L J (a_ur R (C + k) j v) := by
  obtain ⟨p1, p2, p3, p4, p5, p6⟩ := h
  have hv : cV C L (a_ur R (C + k) j v) = cV C L R := cV_eq (fun i => by
    have e1 : a_ur R (C + k) j v (C + 16) i = R (C + 16) i := by rw [ur_ap, if_neg (by omega)]
    rw [e1, ur_ap, if_neg ?_]
    intro e
    rcases p1.g_benchesR i with q | q
    · have := p1.s.1
      omega
    · have := (p1.g_bnc _ q).1
      omega)
  have hC := p1.s.1
  exact ⟨h2, p2, p3, by rw [ur_ap, if_neg (by omega)]; exact p4, by rw [hv]; exact p5, by rw [hv]; exact p6⟩
theorem cZ_R (h : cZ C c n0 K0 L0 I0 R0 n t K L J R) {k j v : Nat} (hk : k ≤ 43) (h16 : ¬ k = 16) (h8 : ¬ k = 8) (h2 : cT C K L J (a_ur R (C + k) j v)) : cZ C c n0 K0 L0 I0 R0 n t K L J (a_ur R (C + k) j v) := ⟨h.1, cH_R h.2.1 hk h16 h2, dX_X h.2.2 ⟨Nat.le_refl _, fun _ _ => rfl, fun _ _ => rfl, fun x i p q => by rw [ur_ap, if_neg (by omega)], fun _ _ _ _ => rfl⟩⟩
theorem cZ_R23 (h : cZ C c n0 K0 L0 I0 R0 n t K L J R) {j v : Nat} (hv : v = 0 ∨ K v = 1) : cZ C c n0 K0 L0 I0 R0 n t K L J (a_ur R (C + 23) j v) := cZ_R h (by decide) (by decide) (by decide) (sT_Rorder h.2.1.1 hv)
theorem cZ_R28 (h : cZ C c n0 K0 L0 I0 R0 n t K L J R) {j v : Nat} (hv : v = 0 ∨ K v = 1) : cZ C c n0 K0 L0 I0 R0 n t K L J (a_ur R (C + 28) j v) := cZ_R h (by decide) (by decide) (by decide) (sT_Rbest h.2.1.1 hv)
theorem cZ_R38 (h : cZ C c n0 K0 L0 I0 R0 n t K L J R) {j v : Nat} (hv : v = 0 ∨ K v = 1) : cZ C c n0 K0 L0 I0 R0 n t K L J (a_ur R (C + 38) j v) := cZ_R h (by decide) (by decide) (by decide) (sT_Rring h.2.1.1 hv)
theorem cH_R8 (h : cH C c n t K L J R) {j v : Nat} (hv : v = 0 ∨ K v = 11) : cH C c n t K L J (a_ur R (C + 8) j v) := cH_R h (by decide) (by decide) (sT_Rtexts h.1 hv)
theorem cZ_Rd (h : cZ C c n0 K0 L0 I0 R0 n t K L J R) {v : Nat} (hv : v = 0 ∨ K v = 1) : cZ C c n0 K0 L0 I0 R0 n t K L J (a_ur R C 11 v) := cZ_R (k := 0) h (by decide) (by decide) (by decide) (sT_Rdraft h.2.1.1 hv)
/-- one more cell, or some -/
theorem cZ_new (h : cZ C c n0 K0 L0 I0 R0 (n + 1) t K L I R) {m s : Nat} (hm : 80 * m ≤ 800) (hs : s ≤ 1000) (hK : ∀ x, x < n + 1 → K' x = K x) (hL : ∀ x, x < n + 1 → L' x = L x) (hJ : ∀ x j, x < n + 1 → J x j = I x j) (hR : ∀ x j, x < n + 1 → R' x j = R x j) (hz : ∀ x, n + 1 + m ≤ x → K' x = 0) (na : ∀ a, n + 1 ≤ a → K' a = 1 → (C + 96 < a ∧ (1 ≤ J a 2 ∧ J a 2 ≤ 4) ∧ (0 ≤ J a 4 ∧ J a 4 ≤ 29) ∧ (0 ≤ J a 13 → 0 ≤ J a 14 ∧ J a 14 ≤ 199 ∧ J a 14 + J a 2 ≤ 200))) (nb : ∀ b, n + 1 ≤ b → K' b = 3 → (C + 96 < b ∧ (C + 96 < R' b 2 ∧ K' (R' b 2) = 20 ∧ L' (R' b 2) = 200) ∧ (C + 96 < R' b 3 ∧ K' (R' b 3) = 20 ∧ L' (R' b 3) = 200) ∧ (C + 96 < R' b 4 ∧ K' (R' b 4) = 20 ∧ L' (R' b 4) = 200) ∧ (C + 96 < R' b 5 ∧ K' (R' b 5) = 20 ∧ (∃ m, L' (R' b 5) = 80 * m ∧ 1 ≤ m ∧ m ≤ 2048)) ∧ (0 ≤ J b 6 ∧ J b 6 ≤ 16384 ∧ 5 * (J b 6).toNatClampNeg ≤ L' (R' b 5)))) (nx : ∀ x, n + 1 ≤ x → K' x = 11 → (C + 96 < x ∧ C + 96 < R' x 2 ∧ K' (R' x 2) = 20 ∧ L' (R' x 2) ≤ 50)) : cZ C (c + 1) n0 K0 L0 I0 R0 (n + 1 + m) (t + s) K' L' J R' := by
  obtain ⟨z1, ⟨p1, p2, p3, p4, p5, p6⟩, z3⟩ := h
  have hT := cT_grow p1 p2 p3 hK hL hJ hR na nb nx
  have hv : cV C L' R' = cV C L R := cV_eq (fun i => by
    rw [hR (C + 16) i (by omega)]
    rcases p1.g_benchesR i with q | q
    · rw [q, hR 0 5 (by omega), p4.1, hL 0 (by omega)]
    · have l1 := kn_lt p2 q (by decide)
      rw [hR _ 5 l1, hL _ (kn_lt p2 (p1.g_bnc _ q).2.2.2.2.1.2.1 (by decide))])
  refine ⟨z1, ⟨hT, hz, by omega, ⟨by rw [hR 0 5 (by omega)]; exact p4.1, by rw [hL 0 (by omega)]; exact p4.2⟩, by rw [hv]; omega, by rw [hv]; omega⟩, dX_X z3 ⟨by omega, hK, hL, fun x j q1 q2 => hR x j (by omega), fun x j _ q => hJ x j q⟩⟩
theorem sT_addAsk (h : cT C K L J R) {v : Nat} (hv : K v = 1) (hc : ¬ 30 ≤ J (C + 14) 4) : cT C K L (a_ui (a_ui J v 4 (J (C + 14) 4)) (C + 14) 4 (J (C + 14) 4 + 1)) (a_ur R (C + 15) (J (C + 14) 4).toNatClampNeg v) := by
  have g := h.g_asks
  have v1 := (h.g_ask v hv).1
  have h1 := sT_Rasks (k := (J (C + 14) 4).toNatClampNeg) (v := v) (sT_number (x := v) (v := J (C + 14) 4) h v1 hv (by clear h; grind)) (Or.inr hv) (by omega)
  have n1 : ¬ v = C + 14 := by omega
  exact cT_mk
    (s := h1.s)
    (g_now := by rw [ui_ap, if_neg (by omega)]; exact h1.g_now)
    (g_trips := by rw [ui_ap, if_neg (by omega)]; exact h1.g_trips)
    (g_texts := by rw [ui_ap, if_neg (by omega)]; exact h1.g_texts)
    (g_size := by rw [ui_ap, if_neg (by omega)]; exact h1.g_size)
    (g_code := by rw [ui_ap, if_neg (by omega)]; exact h1.g_code)
    (g_at := by rw [ui_ap, if_neg (by omega)]; exact h1.g_at)
    (g_asks := by rw [ui_ap, if_pos ⟨rfl, rfl⟩]; clear h h1; grind)
    (g_benches := by rw [ui_ap, if_neg (by omega)]; exact h1.g_benches)
    (g_orderSize := by rw [ui_ap, if_neg (by omega)]; exact h1.g_orderSize)
    (g_passed := by rw [ui_ap, if_neg (by omega)]; exact h1.g_passed)
    (g_best := by rw [ui_ap, if_neg (by omega)]; exact h1.g_best)
    (g_circle := by rw [ui_ap, if_neg (by omega)]; exact h1.g_circle)
    (g_row := by rw [ui_ap, if_neg (by omega)]; exact h1.g_row)
    (g_rest := by rw [ui_ap, if_neg (by omega)]; exact h1.g_rest)
    (g_lost := fun j => by rw [ui_ap, if_neg (by omega)]; exact h1.g_lost j)
    (g_spots := fun j => by rw [ui_ap, if_neg (by omega)]; exact h1.g_spots j)
    (g_ask := fun a ha => by
      have q := h1.g_ask a ha
      have e : ¬ a = C + 14 := by omega
      simp only [ui_ap (a_ui J v 4 (J (C + 14) 4)), e, false_and, if_false]
      exact q)
    (g_bnc := fun b hb => by
      have q := h1.g_bnc b hb
      have e : ¬ b = C + 14 := by omega
      simp only [ui_ap (a_ui J v 4 (J (C + 14) 4)), e, false_and, if_false]
      exact q)
    (g_txt := h1.g_txt)
    (g_asksR := h1.g_asksR)
    (g_asksN := fun i h0 hi => by
      rw [ui_ap, if_pos ⟨rfl, rfl⟩] at hi
      by_cases e : i = J (C + 14) 4
      · rw [ur_ap, if_pos ⟨rfl, by rw [e]⟩]
        omega
      · refine h1.g_asksN i h0 ?_
        rw [ui_ap, if_neg (fun q => n1 q.1.symm)]
        clear h h1
        grind)
    (g_benchesR := h1.g_benchesR) (g_textsR := h1.g_textsR) (g_orderR := h1.g_orderR) (g_bestR := h1.g_bestR) (g_ringR := h1.g_ringR) (g_draft := h1.g_draft)
    (g_benN := fun j hj => by rw [ui_ap, if_neg (by omega)] at hj; exact h1.g_benN j hj)
    (g_benY := fun j hj => by rw [ui_ap, if_neg (by omega)] at hj; exact h1.g_benY j hj)
theorem sT_addBench (h : cT C K L J R) {v : Nat} (hv : K v = 3) (hc : ¬ 6 ≤ J (C + 14) 5) : cT C K L (a_ui J (C + 14) 5 (J (C + 14) 5 + 1)) (a_ur R (C + 16) (J (C + 14) 5).toNatClampNeg v) := by
  have g := h.g_benches
  have hi : (J (C + 14) 5 + 1).toNatClampNeg = (J (C + 14) 5).toNatClampNeg + 1 := by
    have e0 := Int32.le_iff_toInt_le.mp g.1
    have e1 := Int32.lt_iff_toInt_lt.mp (Int32.not_le.mp hc)
    have c0 : (0 : Int32).toInt = 0 := rfl
    have c6 : (6 : Int32).toInt = 6 := rfl
    have c1 : (1 : Int32).toInt = 1 := rfl
    have e : (J (C + 14) 5 + 1).toInt = (J (C + 14) 5).toInt + 1 := by rw [ti_add (by omega)]; omega
    show (J (C + 14) 5 + 1).toInt.toNat = (J (C + 14) 5).toInt.toNat + 1
    rw [e]
    omega
  exact cT_mk
    (s := iR_16 h.s)
    (g_now := by rw [ui_ap, if_neg (by omega)]; exact h.g_now)
    (g_trips := by rw [ui_ap, if_neg (by omega)]; exact h.g_trips)
    (g_texts := by rw [ui_ap, if_neg (by omega)]; exact h.g_texts)
    (g_size := by rw [ui_ap, if_neg (by omega)]; exact h.g_size)
    (g_code := by rw [ui_ap, if_neg (by omega)]; exact h.g_code)
    (g_at := by rw [ui_ap, if_neg (by omega)]; exact h.g_at)
    (g_asks := by rw [ui_ap, if_neg (by omega)]; exact h.g_asks)
    (g_benches := by rw [ui_ap, if_pos ⟨rfl, rfl⟩]; clear h; grind)
    (g_orderSize := by rw [ui_ap, if_neg (by omega)]; exact h.g_orderSize)
    (g_passed := by rw [ui_ap, if_neg (by omega)]; exact h.g_passed)
    (g_best := by rw [ui_ap, if_neg (by omega)]; exact h.g_best)
    (g_circle := by rw [ui_ap, if_neg (by omega)]; exact h.g_circle)
    (g_row := by rw [ui_ap, if_neg (by omega)]; exact h.g_row)
    (g_rest := by rw [ui_ap, if_neg (by omega)]; exact h.g_rest)
    (g_lost := fun j => by rw [ui_ap, if_neg (by omega)]; exact h.g_lost j)
    (g_spots := fun j => by rw [ui_ap, if_neg (by omega)]; exact h.g_spots j)
    (g_ask := fun a ha => by
      have q := h.g_ask a ha
      have e : ¬ a = C + 14 := by omega
      simp only [ui_ap, e, false_and, if_false]
      exact q)
    (g_bnc := fun b hb => by
      have q := h.g_bnc b hb
      have e : ¬ b = C + 14 := by omega
      have e2 : ¬ b = C + 16 := by omega
      simp only [ui_ap, ur_ap, e, e2, false_and, if_false]
      exact q)
    (g_txt := fun b hb => by
      have q := h.g_txt b hb
      have e2 : ¬ b = C + 16 := by omega
      simp only [ur_ap, e2, false_and, if_false]
      exact q)
    (g_asksN := fun i h0 hi => by
      rw [ui_ap, if_neg (by omega)] at hi
      rw [ur_ap, if_neg (by omega)]
      exact h.g_asksN i h0 hi)
    (g_benchesR := fun j => by
      rw [ur_ap]
      split
      · exact Or.inr hv
      · exact h.g_benchesR j)
    (g_draft := by rw [ur_ap, if_neg (by omega)]; exact h.g_draft)
    (g_benN := fun j hj => by
      rw [ui_ap, if_pos ⟨rfl, rfl⟩, hi] at hj
      rw [ur_ap, if_neg (by omega)]
      exact h.g_benN j (by omega))
    (g_benY := fun j hj => by
      rw [ui_ap, if_pos ⟨rfl, rfl⟩, hi] at hj
      rw [ur_ap]
      split
      · intro e
        subst e
        exact absurd (h.g_bnc 0 hv).1 (by omega)
      · exact h.g_benY j (by omega))
    (g_asksR := fun j => by rw [ur_ap, if_neg (by omega)]; exact h.g_asksR j)
    (g_textsR := fun j => by rw [ur_ap, if_neg (by omega)]; exact h.g_textsR j)
    (g_orderR := fun j => by rw [ur_ap, if_neg (by omega)]; exact h.g_orderR j)
    (g_bestR := fun j => by rw [ur_ap, if_neg (by omega)]; exact h.g_bestR j)
    (g_ringR := fun j => by rw [ur_ap, if_neg (by omega)]; exact h.g_ringR j)
end KB
end
section
/-! the class: what is added -/
section KC
variable {d n t C c n0 n' n'' t' : Nat} {K L K0 L0 K' L' K'' L'' : Nat → Nat} {I I0 J J0 J1 J2 : Nat → Nat → Int32} {R R0 R' R'' : Nat → Nat → Nat} {P : Option Value → AH → Prop}
theorem up_ap (f : Nat → Nat) (a v x : Nat) : a_up f a v x = if x = a then v else f x := rfl
theorem zi_ap (f : Nat → Nat → Int32) (a x j : Nat) : a_zi f a x j = if x = a then 0 else f x j := rfl
theorem zr_ap (f : Nat → Nat → Nat) (a x j : Nat) : a_zr f a x j = if x = a then 0 else f x j := rfl
theorem n_ne (a b : Nat) : (n + a = n + b) = (a = b) := by simp
theorem cn_200 : Int32.toNatClampNeg 200 = 200 := rfl
theorem cn_80 : Int32.toNatClampNeg 80 = 80 := rfl
theorem ng_200 : ((200 : Int32) < 0) = False := eq_false (by decide)
theorem ng_80 : ((80 : Int32) < 0) = False := eq_false (by decide)
theorem lk_Binit_51 {b : Nat} (hb : K b = 3) (b0 : (b = 0) = False) (w0 : (R b 2 = 0) = False) (w2 : K (R b 2) = 20) (w3 : L (R b 2) = 200) (h0 : (R b 4 = 0) = False) (h2 : K (R b 4) = 20) (h3 : L (R b 4) = 200) {p q : Int32} (hP : ∀ J, (∀ x j, ¬ x = R b 2 → ¬ x = R b 4 → J x j = I x j) → P none (n, t, K, L, J, R)) : ∀ i : Int32, i ≤ 200 → ∀ J, 0 ≤ i → (∀ x j, ¬ x = R b 2 → ¬ x = R b 4 → J x j = I x j) → a_at d (a_xm a_m22) 51 [some (a_rf b), some (.int p), some (.int q), some (.int i)] [] (n, t, K, L, J, R) P := by
  refine up_ind 200 (fun i hk ih => ?_)
  intro J q0 hJ
  have hw : ∀ k k2 v v2, ∀ x j, ¬ x = R b 2 → ¬ x = R b 4 → a_ui (a_ui J (R b 2) k v) (R b 4) k2 v2 x j = I x j := fun k k2 v v2 x j e1 e2 => by
    rw [ui_ap, if_neg (fun e => e2 e.1), ui_ap, if_neg (fun e => e1 e.1)]
    exact hJ x j e1 e2
  rw [q22_51]
  repeat' first
    | with_reducible apply And.intro
    | with_reducible assumption
    | with_reducible intro _
    | with_reducible apply hP
    | with_reducible apply ih
    | with_reducible apply hw
    | simp only [q22_52, q22_55, q22_58, q22_59, q22_62, q22_63, q22_65, q22_66, q22_67, q22_70, q22_71, q22_73, q22_74, q22_77, q22_80, as_nil, as_i, as_r, Nat.reduceAdd, Nat.reduceLeDiff, z_eq0, z_eq1, z_or, z_em, Classical.not_not, not_false_eq_true, not_true_eq_false, true_and, and_true, false_and, and_false, and_self, true_implies, false_implies, implies_true, Option.toList_some, Option.toList_none, List.cons_append, List.nil_append, Nat.add_eq_zero_iff, a_nl_i, a_nl_r, a_nl_n, true_or, or_true, eq_self, a_isRA_22, a_isRA_24, a_isRA_32, a_isA_20, ok_4, ok_5, ok_6, ok_7, ok_9, ok_20, ok_21, ok_30, ok_50, ok_180, ok_192, ok_200, hb, b0, w0, w2, w3, h0, h2, h3]
  all_goals ((try clear ih); (try clear hP); (try clear hl); (try clear hq); (try clear a3); grind [ui_ap])
theorem ck_Binit (hn : ∀ x, n + 1 ≤ x → K x = 0) {p q : Int32} (hP : ∀ K' L' J' R', K' (n + 1) = 3 → (∀ x, x < n + 1 → K' x = K x) → (∀ x, n + 1 + 5 ≤ x → K' x = 0) → (∀ x, n + 1 < x → x < n + 1 + 5 → K' x = 20) → (∀ x, x < n + 1 → L' x = L x) → L' (n + 2) = 200 → L' (n + 3) = 200 → L' (n + 4) = 200 → L' (n + 5) = 80 → (∀ x j, x < n + 1 → J' x j = I x j) → (∀ x j, x < n + 1 → R' x j = R x j) → R' (n + 1) 2 = n + 2 → R' (n + 1) 3 = n + 3 → R' (n + 1) 4 = n + 4 → R' (n + 1) 5 = n + 5 → J' (n + 1) 6 = 0 → P none (n + 1 + 5, t + 680, K', L', J', R')) : a_does (d + 1) 22 [a_rf (n + 1), .int p, .int q] (n + 1 + 1, t, a_up K (n + 1) 3, a_up L (n + 1) 7, a_zi I (n + 1), a_zr R (n + 1)) P := by
  have f0 : (n + 1 = 0) = False := eq_false (by omega)
  have f1 : (n + 1 + 1 = 0) = False := eq_false (by omega)
  rw [a_enter1 (M := a_m22) rfl (a_cat_rf (a_cat_int (a_cat_int a_cat_nil))) (show 3 ≤ 4 by decide)]
  show a_at _ (a_xm a_m22) 0 [some (a_rf (n+1)), some (.int p), some (.int q), none] [] _ _
  simp only [q22_0, as_nil, as_i, as_r, Nat.reduceAdd, Nat.reduceLeDiff, z_eq0, z_eq1, z_or, z_em, Classical.not_not, not_false_eq_true, not_true_eq_false, true_and, and_true, false_and, and_false, and_self, true_implies, false_implies, implies_true, Option.toList_some, Option.toList_none, List.cons_append, List.nil_append, Nat.add_eq_zero_iff, a_nl_i, a_nl_r, a_nl_n, true_or, or_true, eq_self, a_isRA_22, a_isRA_24, a_isRA_32, a_isA_20, ok_4, ok_5, ok_6, ok_7, ok_9, ok_20, ok_21, ok_30, ok_50, ok_180, ok_192, ok_200]
  rw [q22_1 (show ¬ n + 1 = 0 by omega) (show a_sum [] ≤ 8 by decide)]
  simp only [q22_4, q22_5, q22_6, q22_9, q22_10, q22_11, q22_14, q22_15, q22_18, q22_20, q22_23, q22_24, q22_27, q22_29, q22_32, q22_33, q22_36, q22_38, q22_41, q22_42, q22_44, q22_46, q22_49, q22_50, as_nil, as_i, as_r, Nat.reduceAdd, Nat.reduceLeDiff, z_eq0, z_eq1, z_or, z_em, Classical.not_not, not_false_eq_true, not_true_eq_false, true_and, and_true, false_and, and_false, and_self, true_implies, false_implies, implies_true, Option.toList_some, Option.toList_none, List.cons_append, List.nil_append, Nat.add_eq_zero_iff, a_nl_i, a_nl_r, a_nl_n, true_or, or_true, eq_self, a_isRA_22, a_isRA_24, a_isRA_32, a_isA_20, ok_4, ok_5, ok_6, ok_7, ok_9, ok_20, ok_21, ok_30, ok_50, ok_180, ok_192, ok_200, up_ap, up_eq, Nat.add_left_cancel_iff, Nat.add_right_cancel_iff, Nat.reduceEqDiff, if_true, if_false, ur_ap, n_ne, cn_200, cn_80, ng_200, ng_80, f0, f1]
  have hne : ∀ x, x < n + 1 → (¬ x = n + 1) ∧ (¬ x = n + 2) ∧ (¬ x = n + 3) ∧ (¬ x = n + 4) ∧ (¬ x = n + 5) := fun x hx => by omega
  have hk : ∀ x : Nat, a_up (a_up (a_up (a_up (a_up K (n + 1) 3) (n + 1 + 1) 20) (n + 2 + 1) 20) (n + 3 + 1) 20) (n + 4 + 1) 20 x = if x = n + 5 then 20 else if x = n + 4 then 20 else if x = n + 3 then 20 else if x = n + 2 then 20 else if x = n + 1 then 3 else K x := fun x => rfl
  have hl : ∀ x : Nat, a_up (a_up (a_up (a_up (a_up L (n + 1) 7) (n + 1 + 1) 200) (n + 2 + 1) 200) (n + 3 + 1) 200) (n + 4 + 1) 80 x = if x = n + 5 then 80 else if x = n + 4 then 200 else if x = n + 3 then 200 else if x = n + 2 then 200 else if x = n + 1 then 7 else L x := fun x => rfl
  generalize a_up (a_up (a_up (a_up (a_up K (n + 1) 3) (n + 1 + 1) 20) (n + 2 + 1) 20) (n + 3 + 1) 20) (n + 4 + 1) 20 = K5 at hk ⊢
  generalize a_up (a_up (a_up (a_up (a_up L (n + 1) 7) (n + 1 + 1) 200) (n + 2 + 1) 200) (n + 3 + 1) 200) (n + 4 + 1) 80 = L5 at hl ⊢
  generalize hr5 : a_ur (a_zr (a_ur (a_zr (a_ur (a_zr (a_ur (a_zr (a_zr R (n + 1)) (n + 1 + 1)) (n + 1) 2 (n + 1 + 1)) (n + 2 + 1)) (n + 1) 3 (n + 2 + 1)) (n + 3 + 1)) (n + 1) 4 (n + 3 + 1)) (n + 4 + 1)) (n + 1) 5 (n + 4 + 1) = R5
  generalize hi5 : a_zi (a_zi (a_zi (a_zi (a_ui (a_ui (a_zi I (n + 1)) (n + 1) 0 p) (n + 1) 1 q) (n + 1 + 1)) (n + 2 + 1)) (n + 3 + 1)) (n + 4 + 1) = I5
  have r2 : R5 (n + 1) 2 = n + 2 := by rw [← hr5]; simp [ur_ap, zr_ap]
  have r3 : R5 (n + 1) 3 = n + 3 := by rw [← hr5]; simp [ur_ap, zr_ap]
  have r4 : R5 (n + 1) 4 = n + 4 := by rw [← hr5]; simp [ur_ap, zr_ap]
  have r5 : R5 (n + 1) 5 = n + 5 := by rw [← hr5]; simp [ur_ap, zr_ap]
  have rx : ∀ x j, x < n + 1 → R5 x j = R x j := fun x j hx => by
    obtain ⟨e1, e2, e3, e4, e5⟩ := hne x hx
    rw [← hr5]
    simp [ur_ap, zr_ap, e1, e2, e3, e4, e5]
  have ix : ∀ x j, x < n + 1 → I5 x j = I x j := fun x j hx => by
    obtain ⟨e1, e2, e3, e4, e5⟩ := hne x hx
    rw [← hi5]
    simp [ui_ap, zi_ap, e1, e2, e3, e4, e5]
  have i6 : I5 (n + 1) 6 = 0 := by rw [← hi5]; simp [ui_ap, zi_ap]
  clear hr5 hi5
  refine ⟨by simp, by simp, by simp, by simp, ?_⟩
  refine lk_Binit_51 (by rw [hk]; simp) f0 (by rw [r2]; simp) (by rw [r2, hk]; simp) (by rw [r2, hl]; simp) (by rw [r4]; simp) (by rw [r4, hk]; simp) (by rw [r4, hl]; simp) (fun J hJ => ?_) 0 (by decide) I5 (by decide) (fun _ _ _ _ => rfl)
  rw [r2, r4] at hJ
  have e680 : t + 200 + 200 + 200 + 80 = t + 680 := by omega
  rw [e680]
  refine hP K5 L5 J R5 (by rw [hk]; simp) (fun x hx => ?_) (fun x hx => ?_) (fun x h1 h2 => ?_) (fun x hx => ?_) (by rw [hl]; simp) (by rw [hl]; simp) (by rw [hl]; simp) (by rw [hl]; simp) (fun x j hx => ?_) rx r2 r3 r4 r5 ?_
  · obtain ⟨e1, e2, e3, e4, e5⟩ := hne x hx
    rw [hk]
    simp [e1, e2, e3, e4, e5]
  · rw [hk, if_neg (by omega), if_neg (by omega), if_neg (by omega), if_neg (by omega), if_neg (by omega)]
    exact hn x (by omega)
  · rw [hk]
    rcases (by omega : x = n + 2 ∨ x = n + 3 ∨ x = n + 4 ∨ x = n + 5) with e | e | e | e <;> subst e <;> simp
  · obtain ⟨e1, e2, e3, e4, e5⟩ := hne x hx
    rw [hl]
    simp [e1, e2, e3, e4, e5]
  · rw [hJ x j (by omega) (by omega)]
    exact ix x j hx
  · rw [hJ _ _ (by omega) (by omega)]
    exact i6
theorem ck_addBench (hH : cH C c (n + 1) t K L I R) {p q : Int32} (hc : ¬ 6 ≤ I (C + 14) 5) (hP : ∀ t' K' L' J R', cH C (c + 1) (n + 1 + 5) t' K' L' J R' → dX C (n + 1) K L (a_ui I (C + 14) 5 (I (C + 14) 5 + 1)) R (n + 1 + 5) K' L' J R' → P (some (.int (I (C + 14) 5 + 1 - 1))) (n + 1 + 5, t', K', L', J, R')) : a_does (d + 2) 21 [a_rf (C + 14), .int p, .int q] (n + 1, t, K, L, I, R) P := by
  have hT := hH.1
  have hS := hT.s
  have g := hT.g_benches
  have fr := hH.2.1
  have hC := hH.2.2.1
  have ok6 : 0 ≤ I (C + 14) 5 ∧ I (C + 14) 5 < 6 := ⟨g.1, Int32.not_le.mp hc⟩
  have hc' : I (C + 14) 5 < 6 := ok6.2
  have f1 : (n + 1 = 0) = False := eq_false (by omega)
  rw [a_enter1 (M := a_m21) rfl (a_cat_rf (a_cat_int (a_cat_int a_cat_nil))) (show 3 ≤ 3 by decide)]
  show a_at _ (a_xm a_m21) 0 [some (a_rf (C + 14)), some (.int p), some (.int q)] [] _ _
  simp only [q21_0, q21_1, q21_4, q21_6, q21_9, q21_11, q21_12, q21_13, q21_16, q21_17, q21_20, q21_23, q21_24, q21_25, q21_26, k_14 hS, z_14, r_14_3 hS, k_16 hS, l_16 hS, z_16, as_nil, as_i, as_r, Nat.reduceAdd, Nat.reduceLeDiff, z_eq0, z_eq1, z_or, z_em, Classical.not_not, not_false_eq_true, not_true_eq_false, true_and, and_true, false_and, and_false, and_self, true_implies, false_implies, implies_true, Option.toList_some, Option.toList_none, List.cons_append, List.nil_append, Nat.add_eq_zero_iff, a_nl_i, a_nl_r, a_nl_n, true_or, or_true, eq_self, a_isRA_22, a_isRA_24, a_isRA_32, a_isA_20, ok_4, ok_5, ok_6, ok_7, ok_9, ok_20, ok_21, ok_30, ok_50, ok_180, ok_192, ok_200, hc', hc, f1]
  refine ck_Binit fr (fun K' L' J' R' k1 k2 k3 k4 l0 l2 l3 l4 l5 j1 r1 r2 r3 r4 r5 j6 => ?_)
  have hT2 : cT C K' L' J' R' := by
    refine cT_grow hT fr hC k2 l0 j1 r1 (fun a h1 h2 => ?_) (fun b h1 h2 => ?_) (fun x h1 h2 => ?_)
    · rcases (by omega : a = n + 1 ∨ (n + 1 < a ∧ a < n + 1 + 5) ∨ n + 1 + 5 ≤ a) with e | e | e
      · rw [e, k1] at h2; cases h2
      · rw [k4 a e.1 e.2] at h2; cases h2
      · rw [k3 a e] at h2; cases h2
    · rcases (by omega : b = n + 1 ∨ (n + 1 < b ∧ b < n + 1 + 5) ∨ n + 1 + 5 ≤ b) with e | e | e
      · subst e
        rw [r2, r3, r4, r5, j6, l2, l3, l4, l5, k4 _ (by omega) (by omega), k4 _ (by omega) (by omega), k4 _ (by omega) (by omega), k4 _ (by omega) (by omega)]
        exact ⟨by omega, ⟨by omega, rfl, rfl⟩, ⟨by omega, rfl, rfl⟩, ⟨by omega, rfl, rfl⟩, ⟨by omega, rfl, 1, rfl, by decide, by decide⟩, by decide, by decide, by decide⟩
      · rw [k4 b e.1 e.2] at h2; cases h2
      · rw [k3 b e] at h2; cases h2
    · rcases (by omega : x = n + 1 ∨ (n + 1 < x ∧ x < n + 1 + 5) ∨ n + 1 + 5 ≤ x) with e | e | e
      · rw [e, k1] at h2; cases h2
      · rw [k4 x e.1 e.2] at h2; cases h2
      · rw [k3 x e] at h2; cases h2
  have e5 : J' (C + 14) 5 = I (C + 14) 5 := j1 _ _ (by omega)
  have hS2 := hT2.s
  have hT3 := sT_addBench hT2 k1 (by rw [e5]; exact hc)
  have hV : cV C L' (a_ur R' (C + 16) (I (C + 14) 5).toNatClampNeg (n + 1)) = cV C L R + 80 := by
    have hi : (I (C + 14) 5).toNatClampNeg < 6 := show _ < (6 : Int32).toNatClampNeg from cl_lt g.1 hc'
    have hv : ∀ i, L' (a_ur R' (C + 16) (I (C + 14) 5).toNatClampNeg (n + 1) (a_ur R' (C + 16) (I (C + 14) 5).toNatClampNeg (n + 1) (C + 16) i) 5) = L (R (R (C + 16) i) 5) + if i = (I (C + 14) 5).toNatClampNeg then 80 else 0 := fun i => by
      rw [ur_ap R' _ _ _ (C + 16) i]
      by_cases e : i = (I (C + 14) 5).toNatClampNeg
      · rw [if_pos ⟨rfl, e⟩, if_pos e, ur_ap, if_neg (by omega), r5, l5, hT.g_benN i (by omega), hH.2.2.2.1.1, hH.2.2.2.1.2]
      · rw [if_neg (fun q => e q.2), if_neg e, r1 _ _ (by omega)]
        rcases hT.g_benchesR i with q | q
        · rw [q, ur_ap, if_neg (by omega), r1 _ _ (by omega), hH.2.2.2.1.1, l0 _ (by omega)]
          rfl
        · have b1 := (hT.g_bnc _ q).1
          have l1 := kn_lt fr q (by decide)
          rw [ur_ap, if_neg (by omega), r1 _ _ l1, l0 _ (kn_lt fr (hT.g_bnc _ q).2.2.2.2.1.2.1 (by decide))]
          rfl
    unfold cV
    rw [hv 0, hv 1, hv 2, hv 3, hv 4, hv 5]
    generalize (I (C + 14) 5).toNatClampNeg = z at hi
    rcases (by omega : z = 0 ∨ z = 1 ∨ z = 2 ∨ z = 3 ∨ z = 4 ∨ z = 5) with e | e | e | e | e | e <;> subst e <;> simp <;> omega
  rw [e5] at hT3
  have hfin := hP (t + 7 + 680) K' L' (a_ui J' (C + 14) 5 (I (C + 14) 5 + 1)) (a_ur R' (C + 16) (I (C + 14) 5).toNatClampNeg (n + 1)) ⟨hT3, k3, by omega, ⟨by rw [ur_ap, if_neg (by omega), r1 _ _ (by omega)]; exact hH.2.2.2.1.1, by rw [l0 _ (by omega)]; exact hH.2.2.2.1.2⟩, by rw [hV]; have := hH.2.2.2.2.1; omega, by rw [hV]; have := hH.2.2.2.2.2; omega⟩ ⟨by omega, k2, l0, fun x j q1 q2 => by rw [ur_ap, if_neg (by omega)]; exact r1 x j (by omega), fun x j q1 q2 => by rw [ui_ap, ui_ap]; split; rfl; exact j1 x j q2⟩
  have hS := hS2
  simp only [q21_29, q21_30, q21_31, q21_32, q21_35, q21_36, q21_37, q21_40, q21_41, q21_44, q21_45, q21_46, k_14 hS, z_14, as_nil, as_i, as_r, Nat.reduceAdd, Nat.reduceLeDiff, z_eq0, z_eq1, z_or, z_em, Classical.not_not, not_false_eq_true, not_true_eq_false, true_and, and_true, false_and, and_false, and_self, true_implies, false_implies, implies_true, Option.toList_some, Option.toList_none, List.cons_append, List.nil_append, Nat.add_eq_zero_iff, a_nl_i, a_nl_r, a_nl_n, true_or, or_true, eq_self, a_isRA_22, a_isRA_24, a_isRA_32, a_isA_20, ok_4, ok_5, ok_6, ok_7, ok_9, ok_20, ok_21, ok_30, ok_50, ok_180, ok_192, ok_200, ui_ap, cc_ne, cc_n0, cc_0n, Nat.reduceEqDiff, reduceIte, if_true, if_false, k_16 hS, l_16 hS, z_16, e5, k1, hc', g.1]
  repeat' first
    | with_reducible apply And.intro
    | exact hfin
    | exact ok6.1
    | exact hc'
    | (right; rfl)
    | decide
theorem ck_Ainit (hZ : cZ C c n0 K0 L0 I0 R0 (n + 1) t K L I R) {g l m w : Int32} (hm : 1 ≤ m ∧ m ≤ 4) (hP : ∀ t' K' L' J R', cZ C (c + 1) n0 K0 L0 I0 R0 (n + 1 + 1) t' K' L' J R' → K' (n + 1) = 1 → (∀ x, x < n + 1 → K' x = K x) → P none (n + 1 + 1, t', K', L', J, R')) : a_does (d + 1) 37 [a_rf (n + 1), .int g, .int l, .int m, .int w] (n + 1 + 1, t + 17, a_up K (n + 1) 1, a_up L (n + 1) 17, a_zi I (n + 1), a_zr R (n + 1)) P := by
  have fr := hZ.2.1.2.1
  have hC := hZ.2.1.2.2.1
  have f0 : (n + 1 = 0) = False := eq_false (by omega)
  rw [a_enter1 (M := a_m37) rfl (a_cat_rf (a_cat_int (a_cat_int (a_cat_int (a_cat_int a_cat_nil))))) (show 5 ≤ 5 by decide)]
  show a_at _ (a_xm a_m37) 0 [some (a_rf (n+1)), some (.int g), some (.int l), some (.int m), some (.int w)] [] _ _
  simp only [q37_0, as_nil, as_i, as_r, Nat.reduceAdd, Nat.reduceLeDiff, z_eq0, z_eq1, z_or, z_em, Classical.not_not, not_false_eq_true, not_true_eq_false, true_and, and_true, false_and, and_false, and_self, true_implies, false_implies, implies_true, Option.toList_some, Option.toList_none, List.cons_append, List.nil_append, Nat.add_eq_zero_iff, a_nl_i, a_nl_r, a_nl_n, true_or, or_true, eq_self, a_isRA_22, a_isRA_24, a_isRA_32, a_isA_20, ok_4, ok_5, ok_6, ok_7, ok_9, ok_20, ok_21, ok_30, ok_50, ok_180, ok_192, ok_200]
  rw [q37_1 (show ¬ n + 1 = 0 by omega) (show a_sum [] ≤ 8 by decide)]
  simp only [q37_4, q37_5, q37_6, q37_9, q37_10, q37_11, q37_14, q37_15, q37_16, q37_19, q37_20, q37_22, q37_25, q37_26, q37_28, q37_31, q37_32, q37_34, q37_37, q37_38, q37_40, q37_43, as_nil, as_i, as_r, Nat.reduceAdd, Nat.reduceLeDiff, z_eq0, z_eq1, z_or, z_em, Classical.not_not, not_false_eq_true, not_true_eq_false, true_and, and_true, false_and, and_false, and_self, true_implies, false_implies, implies_true, Option.toList_some, Option.toList_none, List.cons_append, List.nil_append, Nat.add_eq_zero_iff, a_nl_i, a_nl_r, a_nl_n, true_or, or_true, eq_self, a_isRA_22, a_isRA_24, a_isRA_32, a_isA_20, ok_4, ok_5, ok_6, ok_7, ok_9, ok_20, ok_21, ok_30, ok_50, ok_180, ok_192, ok_200, up_ap, up_eq, Nat.add_left_cancel_iff, Nat.add_right_cancel_iff, Nat.reduceEqDiff, if_true, if_false, f0]
  generalize hi : a_ui (a_ui (a_ui (a_ui (a_ui (a_ui (a_ui (a_zi I (n + 1)) (n + 1) 0 g) (n + 1) 1 l) (n + 1) 2 m) (n + 1) 3 w) (n + 1) 12 (-9)) (n + 1) 13 (-9)) (n + 1) 14 (-9) = I5
  have i2 : I5 (n + 1) 2 = m := by rw [← hi]; simp [ui_ap]
  have i4 : I5 (n + 1) 4 = 0 := by rw [← hi]; simp [ui_ap, zi_ap]
  have i13 : I5 (n + 1) 13 = -9 := by rw [← hi]; simp [ui_ap]
  have ix : ∀ x j, x < n + 1 → I5 x j = I x j := fun x j hx => by
    have e : ¬ x = n + 1 := by omega
    rw [← hi]
    simp [ui_ap, zi_ap, e]
  clear hi
  refine hP (t + 17) _ _ I5 _ (cZ_new (m := 1) (s := 17) hZ (by decide) (by decide) (fun x hx => up_ne (by omega)) (fun x hx => up_ne (by omega)) ix (fun x j hx => zr_ne (by omega)) (fun x hx => ?_) (fun a h1 h2 => ?_) (fun b h1 h2 => ?_) (fun x h1 h2 => ?_)) up_eq (fun x hx => up_ne (by omega))
  · rw [up_ne (by omega)]
    exact fr x (by omega)
  · by_cases e : a = n + 1
    · subst e
      rw [i2, i4, i13]
      exact ⟨by omega, hm, by decide, fun h => absurd h (by decide)⟩
    · rw [up_ne e, fr a (by omega)] at h2; cases h2
  · by_cases e : b = n + 1
    · subst e
      rw [up_eq] at h2; cases h2
    · rw [up_ne e, fr b (by omega)] at h2; cases h2
  · by_cases e : x = n + 1
    · subst e
      rw [up_eq] at h2; cases h2
    · rw [up_ne e, fr x (by omega)] at h2; cases h2
theorem ck_want {a : Nat} (ha : K a = 1) (hG : dG C K L R I0 I) {p q r w : Int32} (hP : ∀ J, dG C K L R I0 J → P none (n, t, K, L, J, R)) : a_does (d + 1) 41 [a_rf a, .int p, .int q, .int r, .int w] (n, t, K, L, I, R) P := by
  have hT := hG.1
  obtain ⟨a1, a2, a4, a3⟩ := hT.g_ask a ha
  have a0 : (a = 0) = False := eq_false (by omega)
  have hw : ∀ J k v, dG C K L R I0 J → (¬ k = 2 ∧ ¬ k = 4 ∧ ¬ k = 13 ∧ ¬ k = 14) → dG C K L R I0 (a_ui J a k v) := fun J k v h hk => dG_askf h a1 ha hk
  rw [a_enter1 (M := a_m41) rfl (a_cat_rf (a_cat_int (a_cat_int (a_cat_int (a_cat_int a_cat_nil))))) (show 5 ≤ 5 by decide)]
  show a_at _ (a_xm a_m41) 0 [some (a_rf a), some (.int p), some (.int q), some (.int r), some (.int w)] [] _ _
  simp only [q41_0, q41_1, q41_2, q41_5, q41_6, q41_7, q41_10, q41_11, q41_12, q41_15, q41_16, q41_18, q41_21, as_nil, as_i, as_r, Nat.reduceAdd, Nat.reduceLeDiff, z_eq0, z_eq1, z_or, z_em, Classical.not_not, not_false_eq_true, not_true_eq_false, true_and, and_true, false_and, and_false, and_self, true_implies, false_implies, implies_true, Option.toList_some, Option.toList_none, List.cons_append, List.nil_append, Nat.add_eq_zero_iff, a_nl_i, a_nl_r, a_nl_n, true_or, or_true, eq_self, a_isRA_22, a_isRA_24, a_isRA_32, a_isA_20, ok_4, ok_5, ok_6, ok_7, ok_9, ok_20, ok_21, ok_30, ok_50, ok_180, ok_192, ok_200, ha, a0]
  exact hP _ (hw _ _ _ (hw _ _ _ (hw _ _ _ (hw _ _ _ hG (by decide)) (by decide)) (by decide)) (by decide))
theorem ck_bind {a : Nat} (ha : K a = 1) (hG : dG C K L R I0 I) {p q r : Int32} (hP : ∀ J, dG C K L R I0 J → P none (n, t, K, L, J, R)) : a_does (d + 1) 42 [a_rf a, .int p, .int q, .int r] (n, t, K, L, I, R) P := by
  have hT := hG.1
  obtain ⟨a1, a2, a4, a3⟩ := hT.g_ask a ha
  have a0 : (a = 0) = False := eq_false (by omega)
  have hw : ∀ J k v, dG C K L R I0 J → (¬ k = 2 ∧ ¬ k = 4 ∧ ¬ k = 13 ∧ ¬ k = 14) → dG C K L R I0 (a_ui J a k v) := fun J k v h hk => dG_askf h a1 ha hk
  rw [a_enter1 (M := a_m42) rfl (a_cat_rf (a_cat_int (a_cat_int (a_cat_int a_cat_nil)))) (show 4 ≤ 4 by decide)]
  show a_at _ (a_xm a_m42) 0 [some (a_rf a), some (.int p), some (.int q), some (.int r)] [] _ _
  simp only [q42_0, q42_1, q42_2, q42_5, q42_6, q42_7, q42_10, q42_11, q42_12, q42_15, as_nil, as_i, as_r, Nat.reduceAdd, Nat.reduceLeDiff, z_eq0, z_eq1, z_or, z_em, Classical.not_not, not_false_eq_true, not_true_eq_false, true_and, and_true, false_and, and_false, and_self, true_implies, false_implies, implies_true, Option.toList_some, Option.toList_none, List.cons_append, List.nil_append, Nat.add_eq_zero_iff, a_nl_i, a_nl_r, a_nl_n, true_or, or_true, eq_self, a_isRA_22, a_isRA_24, a_isRA_32, a_isA_20, ok_4, ok_5, ok_6, ok_7, ok_9, ok_20, ok_21, ok_30, ok_50, ok_180, ok_192, ok_200, ha, a0]
  exact hP _ (hw _ _ _ (hw _ _ _ (hw _ _ _ hG (by decide)) (by decide)) (by decide))
theorem ck_owedOne {a : Nat} (ha : K a = 1) (hZ : cZ C c n0 K0 L0 I0 R0 (n + 1) t K L I R) {m : Int32} (hm : 1 ≤ m ∧ m ≤ 4) (hP : ∀ t' K' L' J R', cZ C (c + 1) n0 K0 L0 I0 R0 (n + 1 + 1) t' K' L' J R' → K' (n + 1) = 1 → (∀ x, x < n + 1 → K' x = K x) → P (some (a_rf (n + 1))) (n + 1 + 1, t', K', L', J, R')) : a_does (d + 2) 142 [a_rf a, .int m] (n + 1, t, K, L, I, R) P := by
  have hT := hZ.2.1.1
  obtain ⟨a1, a2, a4, a3⟩ := hT.g_ask a ha
  have a0 : (a = 0) = False := eq_false (by omega)
  have fr := hZ.2.1.2.1
  have al := kn_lt fr ha (by decide)
  have an : (a = n + 1) = False := eq_false (by omega)
  have f0 : (n + 1 = 0) = False := eq_false (by omega)
  rw [a_enter1 (M := a_m142) rfl (a_cat_rf (a_cat_int a_cat_nil)) (show 2 ≤ 3 by decide)]
  show a_at _ (a_xm a_m142) 0 [some (a_rf a), some (.int m), none] [] _ _
  simp only [q142_0, q142_3, q142_4, q142_5, q142_8, q142_9, q142_12, q142_13, q142_14, q142_17, as_nil, as_i, as_r, Nat.reduceAdd, Nat.reduceLeDiff, z_eq0, z_eq1, z_or, z_em, Classical.not_not, not_false_eq_true, not_true_eq_false, true_and, and_true, false_and, and_false, and_self, true_implies, false_implies, implies_true, Option.toList_some, Option.toList_none, List.cons_append, List.nil_append, Nat.add_eq_zero_iff, a_nl_i, a_nl_r, a_nl_n, true_or, or_true, eq_self, a_isRA_22, a_isRA_24, a_isRA_32, a_isA_20, ok_4, ok_5, ok_6, ok_7, ok_9, ok_20, ok_21, ok_30, ok_50, ok_180, ok_192, ok_200, ha, a0, up_ap, an, f0, if_false]
  refine ck_Ainit hZ hm (fun t' K' L' J R' z k1 k2 => ?_)
  have ha' : K' a = 1 := by rw [k2 a al]; exact ha
  simp only [q142_20, q142_21, q142_22, q142_23, q142_26, q142_27, q142_30, q142_31, q142_34, q142_35, q142_38, as_nil, as_i, as_r, Nat.reduceAdd, Nat.reduceLeDiff, z_eq0, z_eq1, z_or, z_em, Classical.not_not, not_false_eq_true, not_true_eq_false, true_and, and_true, false_and, and_false, and_self, true_implies, false_implies, implies_true, Option.toList_some, Option.toList_none, List.cons_append, List.nil_append, Nat.add_eq_zero_iff, a_nl_i, a_nl_r, a_nl_n, true_or, or_true, eq_self, a_isRA_22, a_isRA_24, a_isRA_32, a_isA_20, ok_4, ok_5, ok_6, ok_7, ok_9, ok_20, ok_21, ok_30, ok_50, ok_180, ok_192, ok_200, a0, ha', k1, f0]
  refine ck_want k1 (dG_refl z.2.1.1) (fun J2 g2 => ?_)
  simp only [q142_41, q142_42, q142_43, q142_44, q142_45, as_nil, as_i, as_r, Nat.reduceAdd, Nat.reduceLeDiff, z_eq0, z_eq1, z_or, z_em, Classical.not_not, not_false_eq_true, not_true_eq_false, true_and, and_true, false_and, and_false, and_self, true_implies, false_implies, implies_true, Option.toList_some, Option.toList_none, List.cons_append, List.nil_append, Nat.add_eq_zero_iff, a_nl_i, a_nl_r, a_nl_n, true_or, or_true, eq_self, a_isRA_22, a_isRA_24, a_isRA_32, a_isA_20, ok_4, ok_5, ok_6, ok_7, ok_9, ok_20, ok_21, ok_30, ok_50, ok_180, ok_192, ok_200, a0, ha', k1, f0]
  refine ck_bind k1 g2 (fun J3 g3 => ?_)
  simp only [q142_48, q142_49, as_nil, as_i, as_r, Nat.reduceAdd, Nat.reduceLeDiff, z_eq0, z_eq1, z_or, z_em, Classical.not_not, not_false_eq_true, not_true_eq_false, true_and, and_true, false_and, and_false, and_self, true_implies, false_implies, implies_true, Option.toList_some, Option.toList_none, List.cons_append, List.nil_append, Nat.add_eq_zero_iff, a_nl_i, a_nl_r, a_nl_n, true_or, or_true, eq_self, a_isRA_22, a_isRA_24, a_isRA_32, a_isA_20, ok_4, ok_5, ok_6, ok_7, ok_9, ok_20, ok_21, ok_30, ok_50, ok_180, ok_192, ok_200, a0, ha', k1, f0]
  exact hP t' K' L' J3 R' (cZ_G z g3) k1 k2
theorem ck_addAsk {a : Nat} (ha : K a = 1) (hZ : cZ C c n0 K0 L0 I0 R0 n t K L I R) (hc : ¬ 30 ≤ I (C + 14) 4) (hP : ∀ v J R', cZ C c n0 K0 L0 I0 R0 n t K L J R' → P (some (.int v)) (n, t, K, L, J, R')) : a_does (d + 1) 43 [a_rf (C + 14), a_rf a] (n, t, K, L, I, R) P := by
  have hT := hZ.2.1.1
  have hS := hT.s
  obtain ⟨a1, a2, a4, a3⟩ := hT.g_ask a ha
  have a0 : (a = 0) = False := eq_false (by omega)
  have g := hT.g_asks
  have h1 := sT_addAsk hT ha hc
  have hC := hT.s.1
  have hc' : I (C + 14) 4 < 30 := Int32.not_le.mp hc
  have g0 : 0 ≤ I (C + 14) 4 := g.1
  have an : (a = C + 14) = False := eq_false (by omega)
  have na : (C + 14 = a) = False := eq_false (by omega)
  have z : cZ C c n0 K0 L0 I0 R0 n t K L (a_ui (a_ui I a 4 (I (C + 14) 4)) (C + 14) 4 (I (C + 14) 4 + 1)) (a_ur R (C + 15) (I (C + 14) 4).toNatClampNeg a) := by
    obtain ⟨z1, ⟨p1, p2, p3, p4, p5, p6⟩, z3⟩ := hZ
    have hv : cV C L (a_ur R (C + 15) (I (C + 14) 4).toNatClampNeg a) = cV C L R := cV_eq (fun i => by
      have e1 : a_ur R (C + 15) (I (C + 14) 4).toNatClampNeg a (C + 16) i = R (C + 16) i := by rw [ur_ap, if_neg (by omega)]
      rw [e1, ur_ap, if_neg ?_]
      intro e
      rcases p1.g_benchesR i with q | q
      · omega
      · have := (p1.g_bnc _ q).1
        omega)
    exact ⟨z1, ⟨h1, p2, p3, by rw [ur_ap, if_neg (by omega)]; exact p4, by rw [hv]; exact p5, by rw [hv]; exact p6⟩, dX_X z3 ⟨Nat.le_refl _, fun _ _ => rfl, fun _ _ => rfl, fun x j p q => by rw [ur_ap, if_neg (by omega)], fun x j p q => by rw [ui_ap, if_neg (fun e => by unfold eD at p; omega), ui_ap, if_neg (fun e => by rw [e.1] at p; unfold eD at p; omega)]⟩⟩
  rw [a_enter1 (M := a_m43) rfl (a_cat_rf (a_cat_rf a_cat_nil)) (show 2 ≤ 2 by decide)]
  show a_at _ (a_xm a_m43) 0 [some (a_rf (C + 14)), some (a_rf a)] [] _ _
  simp only [q43_0, q43_1, q43_4, q43_6, q43_9, q43_11, q43_12, q43_13, q43_16, q43_17, q43_20, q43_21, q43_22, q43_23, q43_24, q43_27, q43_30, q43_31, q43_32, q43_35, q43_36, q43_37, q43_40, q43_41, q43_44, k_14 hS, z_14, r_14_2 hS, k_15 hS, l_15 hS, z_15, as_nil, as_i, as_r, Nat.reduceAdd, Nat.reduceLeDiff, z_eq0, z_eq1, z_or, z_em, Classical.not_not, not_false_eq_true, not_true_eq_false, true_and, and_true, false_and, and_false, and_self, true_implies, false_implies, implies_true, Option.toList_some, Option.toList_none, List.cons_append, List.nil_append, Nat.add_eq_zero_iff, a_nl_i, a_nl_r, a_nl_n, true_or, or_true, eq_self, a_isRA_22, a_isRA_24, a_isRA_32, a_isA_20, ok_4, ok_5, ok_6, ok_7, ok_9, ok_20, ok_21, ok_30, ok_50, ok_180, ok_192, ok_200, ui_ap, cc_ne, cc_n0, cc_0n, Nat.reduceEqDiff, reduceIte, if_true, if_false, ha, a0, hc', hc, g0, an, na]
  have hfin := fun v => hP v _ _ z
  repeat' first
    | with_reducible apply And.intro
    | exact hfin _
    | (right; rfl)
    | decide
theorem ck_written (hZ : cZ C c n0 K0 L0 I0 R0 (n + 1) t K L I R) (hP : ∀ t' K' L' J R', cZ C (c + 1) n0 K0 L0 I0 R0 (n + 1 + 1) t' K' L' J R' → K' (n + 1) = 20 → L' (n + 1) ≤ 50 → P (some (a_rf (n + 1))) (n + 1 + 1, t', K', L', J, R')) : a_does (d + 1) 81 [a_rf (C + 11)] (n + 1, t, K, L, I, R) P := by
  have hT := hZ.2.1.1
  have hS := hT.s
  have fr := hZ.2.1.2.1
  have hC := hZ.2.1.2.2.1
  have g := hT.g_code
  have f0 : (n + 1 = 0) = False := eq_false (by omega)
  have e0 := Int32.le_iff_toInt_le.mp g.1
  have e1 := Int32.le_iff_toInt_le.mp g.2
  have c0 : (0 : Int32).toInt = 0 := rfl
  have c50 : (50 : Int32).toInt = 50 := rfl
  have hm : (I (C + 11) 3).toNatClampNeg ≤ 50 := by
    show (I (C + 11) 3).toInt.toNat ≤ 50
    omega
  have h6 : (I (C + 11) 3).toNatClampNeg ≤ 1000000 := by omega
  have hn0 : (I (C + 11) 3 < 0) = False := eq_false (Int32.not_lt.mpr g.1)
  have n11 : (C + 11 = n + 1) = False := eq_false (by omega)
  have n13 : (C + 13 = n + 1) = False := eq_false (by omega)
  rw [a_enter1 (M := a_m81) rfl (a_cat_rf a_cat_nil) (show 1 ≤ 2 by decide)]
  show a_at _ (a_xm a_m81) 0 [some (a_rf (C + 11)), none] [] _ _
  simp only [q81_0, q81_1, q81_4, q81_6, q81_7, q81_8, q81_11, q81_12, q81_13, q81_14, q81_15, k_11 hS, z_11, r_11_1 hS, k_13 hS, l_13 hS, z_13, as_nil, as_i, as_r, Nat.reduceAdd, Nat.reduceLeDiff, z_eq0, z_eq1, z_or, z_em, Classical.not_not, not_false_eq_true, not_true_eq_false, true_and, and_true, false_and, and_false, and_self, true_implies, false_implies, implies_true, Option.toList_some, Option.toList_none, List.cons_append, List.nil_append, Nat.add_eq_zero_iff, a_nl_i, a_nl_r, a_nl_n, true_or, or_true, eq_self, a_isRA_22, a_isRA_24, a_isRA_32, a_isA_20, ok_4, ok_5, ok_6, ok_7, ok_9, ok_20, ok_21, ok_30, ok_50, ok_180, ok_192, ok_200, up_ap, up_eq, zi_ap, zr_ap, if_true, if_false, hn0, h6, n11, n13, f0, a_copy_eq, a_kd_eq, a_ln_eq, cn00, lt00, Nat.zero_add]
  generalize hk : (I (C + 11) 3).toNatClampNeg = k at hm ⊢
  simp only [q81_18, q81_21, q81_22, as_nil, as_i, as_r, Nat.reduceAdd, Nat.reduceLeDiff, z_eq0, z_eq1, z_or, z_em, Classical.not_not, not_false_eq_true, not_true_eq_false, true_and, and_true, false_and, and_false, and_self, true_implies, false_implies, implies_true, Option.toList_some, Option.toList_none, List.cons_append, List.nil_append, Nat.add_eq_zero_iff, a_nl_i, a_nl_r, a_nl_n, true_or, or_true, eq_self, a_isRA_22, a_isRA_24, a_isRA_32, a_isA_20, ok_4, ok_5, ok_6, ok_7, ok_9, ok_20, ok_21, ok_30, ok_50, ok_180, ok_192, ok_200, up_ap, up_eq, zi_ap, zr_ap, if_true, if_false, k_11 hS, z_11, k_13 hS, l_13 hS, z_13, hn0, hk, n11, n13, f0, a_copy_eq, a_kd_eq, a_ln_eq, cn00, lt00, Nat.zero_add, Nat.le_refl, hm]
  have ix : ∀ x j, x < n + 1 → a_ci (a_zi I (n + 1)) (C + 13) (n + 1) 0 0 k x j = I x j := fun x j hx => by rw [ci_ne (by omega), zi_ne (by omega)]
  have z := cZ_new (m := 1) (s := k) (K' := a_up K (n + 1) 20) (L' := a_up L (n + 1) k) (J := a_ci (a_zi I (n + 1)) (C + 13) (n + 1) 0 0 k) (R' := a_zr R (n + 1)) hZ (by decide) (by omega) (fun x hx => up_ne (by omega)) (fun x hx => up_ne (by omega)) ix (fun x j hx => zr_ne (by omega)) (fun x hx => by rw [up_ne (by omega)]; exact fr x (by omega)) (fun a h1 h2 => by
    by_cases e : a = n + 1
    · rw [e, up_eq] at h2; cases h2
    · rw [up_ne e, fr a (by omega)] at h2; cases h2) (fun a h1 h2 => by
    by_cases e : a = n + 1
    · rw [e, up_eq] at h2; cases h2
    · rw [up_ne e, fr a (by omega)] at h2; cases h2) (fun a h1 h2 => by
    by_cases e : a = n + 1
    · rw [e, up_eq] at h2; cases h2
    · rw [up_ne e, fr a (by omega)] at h2; cases h2)
  exact hP _ _ _ _ _ z up_eq (by rw [up_eq]; exact hm)
theorem ck_addText (hZ : cZ C c n0 K0 L0 I0 R0 (n + 1) t K L I R) {x : Nat} (hx : K x = 20) (x1 : C + 96 < x) (hl : L x ≤ 50) {p q : Int32} (hc : ¬ 20 ≤ I (C + 7) 3) (hP : ∀ t' K' L' J R', cZ C (c + 1) n0 K0 L0 I0 R0 (n + 1 + 1) t' K' L' J R' → J (C + 7) 3 = I (C + 7) 3 → K' (n + 1) = 11 → J (n + 1) 4 = 0 → cH C (c + 1) (n + 1 + 1) t' K' L' J (a_ur R' (C + 8) (I (C + 7) 3).toNatClampNeg (n + 1)) → P (some (.int (I (C + 7) 3 + 1 - 1))) (n + 1 + 1, t', K', L', a_ui J (C + 7) 3 (I (C + 7) 3 + 1), a_ur R' (C + 8) (I (C + 7) 3).toNatClampNeg (n + 1))) : a_does (d + 2) 82 [a_rf (C + 7), .int p, .int q, a_rf x] (n + 1, t, K, L, I, R) P := by
  have hT := hZ.2.1.1
  have hS := hT.s
  have fr := hZ.2.1.2.1
  have hC := hZ.2.1.2.2.1
  have g := hT.g_texts
  have xl := kn_lt fr hx (by decide)
  have hc' : I (C + 7) 3 < 20 := Int32.not_le.mp hc
  have g0 : 0 ≤ I (C + 7) 3 := g.1
  have f0 : (n + 1 = 0) = False := eq_false (by omega)
  have n7 : (C + 7 = n + 1) = False := eq_false (by omega)
  have n8 : (C + 8 = n + 1) = False := eq_false (by omega)
  rw [a_enter1 (M := a_m82) rfl (a_cat_rf (a_cat_int (a_cat_int (a_cat_rf a_cat_nil)))) (show 4 ≤ 4 by decide)]
  show a_at _ (a_xm a_m82) 0 [some (a_rf (C + 7)), some (.int p), some (.int q), some (a_rf x)] [] _ _
  simp only [q82_0, q82_1, q82_4, q82_6, q82_9, q82_11, q82_12, q82_13, q82_16, q82_17, q82_20, q82_23, q82_24, q82_25, q82_26, q82_27, k_7 hS, z_7, r_7_0 hS, k_8 hS, l_8 hS, z_8, as_nil, as_i, as_r, Nat.reduceAdd, Nat.reduceLeDiff, z_eq0, z_eq1, z_or, z_em, Classical.not_not, not_false_eq_true, not_true_eq_false, true_and, and_true, false_and, and_false, and_self, true_implies, false_implies, implies_true, Option.toList_some, Option.toList_none, List.cons_append, List.nil_append, Nat.add_eq_zero_iff, a_nl_i, a_nl_r, a_nl_n, true_or, or_true, eq_self, a_isRA_22, a_isRA_24, a_isRA_32, a_isA_20, ok_4, ok_5, ok_6, ok_7, ok_9, ok_20, ok_21, ok_30, ok_50, ok_180, ok_192, ok_200, up_ap, up_eq, zi_ap, zr_ap, if_true, if_false, hc', hc, n7, n8, f0]
  rw [a_enter1 (M := a_m83) rfl (a_cat_rf (a_cat_int (a_cat_int (a_cat_rf a_cat_nil)))) (show 4 ≤ 4 by decide)]
  show a_at _ (a_xm a_m83) 0 [some (a_rf (n+1)), some (.int p), some (.int q), some (a_rf x)] [] _ _
  simp only [q83_0, as_nil, as_i, as_r, Nat.reduceAdd, Nat.reduceLeDiff, z_eq0, z_eq1, z_or, z_em, Classical.not_not, not_false_eq_true, not_true_eq_false, true_and, and_true, false_and, and_false, and_self, true_implies, false_implies, implies_true, Option.toList_some, Option.toList_none, List.cons_append, List.nil_append, Nat.add_eq_zero_iff, a_nl_i, a_nl_r, a_nl_n, true_or, or_true, eq_self, a_isRA_22, a_isRA_24, a_isRA_32, a_isA_20, ok_4, ok_5, ok_6, ok_7, ok_9, ok_20, ok_21, ok_30, ok_50, ok_180, ok_192, ok_200]
  rw [q83_1 (show ¬ n + 1 = 0 by omega) (show a_sum [] ≤ 8 by decide)]
  simp only [q83_4, q83_5, q83_6, q83_9, q83_10, q83_11, q83_14, q83_15, q83_16, q83_19, q83_20, q83_23, q83_26, as_nil, as_i, as_r, Nat.reduceAdd, Nat.reduceLeDiff, z_eq0, z_eq1, z_or, z_em, Classical.not_not, not_false_eq_true, not_true_eq_false, true_and, and_true, false_and, and_false, and_self, true_implies, false_implies, implies_true, Option.toList_some, Option.toList_none, List.cons_append, List.nil_append, Nat.add_eq_zero_iff, a_nl_i, a_nl_r, a_nl_n, true_or, or_true, eq_self, a_isRA_22, a_isRA_24, a_isRA_32, a_isA_20, ok_4, ok_5, ok_6, ok_7, ok_9, ok_20, ok_21, ok_30, ok_50, ok_180, ok_192, ok_200, up_ap, up_eq, Nat.add_left_cancel_iff, Nat.add_right_cancel_iff, Nat.reduceEqDiff, if_true, if_false, f0]
  generalize hi : a_ui (a_ui (a_ui (a_zi I (n + 1)) (n + 1) 0 p) (n + 1) 1 q) (n + 1) 3 200 = I5
  have ix : ∀ x j, x < n + 1 → I5 x j = I x j := fun x j hx => by
    have e : ¬ x = n + 1 := by omega
    rw [← hi]
    simp [ui_ap, zi_ap, e]
  have i4 : I5 (n + 1) 4 = 0 := by rw [← hi]; simp [ui_ap, zi_ap]
  clear hi
  have z := cZ_new (m := 1) (s := 5) (K' := a_up K (n + 1) 11) (L' := a_up L (n + 1) 5) (J := I5) (R' := a_ur (a_zr R (n + 1)) (n + 1) 2 x) hZ (by decide) (by decide) (fun x hx => up_ne (by omega)) (fun x hx => up_ne (by omega)) ix (fun x j hx => by rw [ur_ap, if_neg (by omega), zr_ne (by omega)]) (fun x hx => by rw [up_ne (by omega)]; exact fr x (by omega)) (fun a h1 h2 => by
    by_cases e : a = n + 1
    · rw [e, up_eq] at h2; cases h2
    · rw [up_ne e, fr a (by omega)] at h2; cases h2) (fun a h1 h2 => by
    by_cases e : a = n + 1
    · rw [e, up_eq] at h2; cases h2
    · rw [up_ne e, fr a (by omega)] at h2; cases h2) (fun a h1 h2 => by
    by_cases e : a = n + 1
    · subst e
      rw [ur_ap, if_pos ⟨rfl, rfl⟩, up_ne (by omega), up_ne (by omega)]
      exact ⟨by omega, x1, hx, hl⟩
    · rw [up_ne e, fr a (by omega)] at h2; cases h2)
  have z2 := cH_R8 z.2.1 (j := (I (C + 7) 3).toNatClampNeg) (Or.inr (up_eq (f := K) (a := n + 1) (v := 11)))
  have e5 : I5 (C + 7) 3 = I (C + 7) 3 := ix _ _ (by omega)
  have hfin := hP _ _ _ _ _ z e5 up_eq i4 z2
  have hS := z.2.1.1.s
  have k11 : a_up K (n + 1) 11 (n + 1) = 11 := up_eq
  simp only [q82_30, q82_31, q82_32, q82_33, q82_36, q82_37, q82_38, q82_41, q82_42, q82_45, q82_46, q82_47, k_7 hS, z_7, as_nil, as_i, as_r, Nat.reduceAdd, Nat.reduceLeDiff, z_eq0, z_eq1, z_or, z_em, Classical.not_not, not_false_eq_true, not_true_eq_false, true_and, and_true, false_and, and_false, and_self, true_implies, false_implies, implies_true, Option.toList_some, Option.toList_none, List.cons_append, List.nil_append, Nat.add_eq_zero_iff, a_nl_i, a_nl_r, a_nl_n, true_or, or_true, eq_self, a_isRA_22, a_isRA_24, a_isRA_32, a_isA_20, ok_4, ok_5, ok_6, ok_7, ok_9, ok_20, ok_21, ok_30, ok_50, ok_180, ok_192, ok_200, ui_ap, cc_ne, cc_n0, cc_0n, Nat.reduceEqDiff, reduceIte, if_true, if_false, k_8 hS, l_8 hS, z_8, e5, k11, hc', g0]
  repeat' first
    | with_reducible apply And.intro
    | exact hfin
    | (right; rfl)
    | decide
end KC
end
section
/-! the class: plans -/
/-- the row in order has asks up to m, but at place q -/
def nnP (C : Nat) (R : Nat → Nat → Nat) (m q : Int32) : Prop := ∀ i : Int32, 0 ≤ i → i < m → ¬ i = q → ¬ R (C + 23) i.toNatClampNeg = 0
section KD
variable {d n t C c n0 n' n'' t' : Nat} {K L K0 L0 K' L' K'' L'' : Nat → Nat} {I I0 J J0 J1 J2 : Nat → Nat → Int32} {R R0 R' R'' : Nat → Nat → Nat} {P : Option Value → AH → Prop}
theorem nn_shift {m q : Int32} (h : nnP C R m q) (h0 : 0 < q) (h1 : q < m) (hm : m ≤ 31) : nnP C (a_ur R (C + 23) q.toNatClampNeg (R (C + 23) (q - 1).toNatClampNeg)) m (q - 1) := by
  intro i p1 p2 p3
  rw [ur_ap]
  by_cases e : i = q
  · rw [if_pos ⟨rfl, by rw [e]⟩]
    exact h (q - 1) (by clear h; grind) (by clear h; grind) (by clear h; grind)
  · rw [if_neg (fun r => e (cl_inj p1 (by clear h; grind) r.2))]
    exact h i p1 p2 e
theorem nn_put {m q : Int32} {v : Nat} (h : nnP C R m q) (hv : ¬ v = 0) : ∀ p, nnP C (a_ur R (C + 23) q.toNatClampNeg v) m p := by
  intro p i p1 p2 p3
  rw [ur_ap]
  by_cases e : i = q
  · rw [if_pos ⟨rfl, by rw [e]⟩]
    exact hv
  · split
    · exact hv
    · exact h i p1 p2 e
theorem nn_open {m : Int32} (h : ∀ p, nnP C R m p) (hm : 0 ≤ m) (h30 : m ≤ 30) : nnP C R (m + 1) m := by
  intro i p1 p2 p3
  exact h (-1) i p1 (by clear h; grind) (by clear h; grind)
theorem nn_0 : ∀ p, nnP C R 0 p := fun p i h0 h1 => by exfalso; grind
theorem ck_passedAt (hT : cT C K L I R) {q : Int32} (hP : ∀ v, P (some (.int v)) (n, t, K, L, I, R)) : a_does (d + 1) 126 [a_rf (C + 22), .int q] (n, t, K, L, I, R) P := by
  have hS := hT.s
  have g := hT.g_passed
  rw [a_enter1 (M := a_m126) rfl (a_cat_rf (a_cat_int a_cat_nil)) (show 2 ≤ 2 by decide)]
  show a_at _ (a_xm a_m126) 0 [some (a_rf (C + 22)), some (.int q)] [] _ _
  repeat' first
    | with_reducible apply And.intro
    | with_reducible assumption
    | with_reducible intro _
    | with_reducible apply hP
    | simp only [q126_0, q126_1, q126_4, q126_5, q126_6, q126_9, q126_12, q126_13, q126_16, q126_17, q126_18, q126_21, q126_23, k_22 hS, z_22, r_22_3 hS, k_24 hS, l_24 hS, z_24, as_nil, as_i, as_r, Nat.reduceAdd, Nat.reduceLeDiff, z_eq0, z_eq1, z_or, z_em, Classical.not_not, not_false_eq_true, not_true_eq_false, true_and, and_true, false_and, and_false, and_self, true_implies, false_implies, implies_true, Option.toList_some, Option.toList_none, List.cons_append, List.nil_append, Nat.add_eq_zero_iff, a_nl_i, a_nl_r, a_nl_n, true_or, or_true, eq_self, a_isRA_22, a_isRA_24, a_isRA_32, a_isA_20, ok_4, ok_5, ok_6, ok_7, ok_9, ok_20, ok_21, ok_30, ok_50, ok_180, ok_192, ok_200]
  all_goals grind [ui_ap]
theorem lk_isInShare_19 {a : Nat} (ha : K a = 1) (hT : cT C K L I R) {p q : Int32} (hP : ∀ v, P (some (.int v)) (n, t, K, L, I, R)) : ∀ i : Int32, i ≤ 30 → ∀ o u, 0 ≤ i → a_at (d + 1) (a_xm a_m123) 19 [some (a_rf (C + 22)), some (a_rf a), some (.int p), some (.int q), some (.int o), some (.int i), u] [] (n, t, K, L, I, R) P := by
  have hS := hT.s
  obtain ⟨a1, a2, a4, a3⟩ := hT.g_ask a ha
  have a0 : (a = 0) = False := eq_false (by omega)
  have gA := hT.g_asksR
  have gB := hT.g_benchesR
  have gX := hT.g_textsR
  have gc := hT.g_asks
  have n100 : ¬ (100 : Int32) = 0 := by decide
  refine up_ind 30 (fun i hk ih => ?_)
  intro o u q0
  have gi := gA i.toNatClampNeg
  rw [q123_19]
  repeat' first
    | with_reducible apply And.intro
    | with_reducible assumption
    | with_reducible intro _
    | with_reducible apply hP
    | with_reducible apply ih
    | simp only [q123_21, q123_22, q123_25, q123_28, q123_31, q123_32, q123_35, q123_37, q123_40, q123_42, q123_44, q123_47, q123_49, q123_50, q123_53, q123_55, q123_58, q123_59, q123_62, q123_64, q123_67, q123_68, q123_71, q123_74, q123_76, q123_79, q123_82, q123_84, q123_87, q123_88, q123_91, q123_93, q123_96, q123_97, q123_100, q123_102, q123_103, q123_105, q123_108, q123_111, q123_113, q123_116, q123_117, q123_118, q123_119, q123_120, q123_122, q123_125, q123_128, q123_130, q123_131, q123_134, q123_135, q123_138, q123_141, q123_142, q123_143, q123_144, q123_145, q123_146, q123_147, q123_148, q123_150, q123_151, q123_154, q123_155, q123_158, q123_159, k_22 hS, z_22, r_22_0 hS, k_14 hS, z_14, sp_askAt hS gA, sp_isPlaced, sp_last, sp_min, as_nil, as_i, as_r, Nat.reduceAdd, Nat.reduceLeDiff, z_eq0, z_eq1, z_or, z_em, Classical.not_not, not_false_eq_true, not_true_eq_false, true_and, and_true, false_and, and_false, and_self, true_implies, false_implies, implies_true, Option.toList_some, Option.toList_none, List.cons_append, List.nil_append, Nat.add_eq_zero_iff, a_nl_i, a_nl_r, a_nl_n, true_or, or_true, eq_self, a_isRA_22, a_isRA_24, a_isRA_32, a_isA_20, ok_4, ok_5, ok_6, ok_7, ok_9, ok_20, ok_21, ok_30, ok_50, ok_180, ok_192, ok_200, ha, a0, n100]
  all_goals ((try clear ih); (try clear hP); (try clear hl); (try clear hq); (try clear a3); grind [ui_ap])
theorem ck_isInShare {a : Nat} (ha : K a = 1) (hT : cT C K L I R) {p q : Int32} (hP : ∀ v, P (some (.int v)) (n, t, K, L, I, R)) : a_does (d + 2) 123 [a_rf (C + 22), a_rf a, .int p, .int q] (n, t, K, L, I, R) P := by
  have hS := hT.s
  obtain ⟨a1, a2, a4, a3⟩ := hT.g_ask a ha
  have a0 : (a = 0) = False := eq_false (by omega)
  have hl := fun o u => lk_isInShare_19 (d := d) ha hT (p := p) (q := q) hP 0 (by decide) o u (by decide)
  rw [a_enter1 (M := a_m123) rfl (a_cat_rf (a_cat_rf (a_cat_int (a_cat_int a_cat_nil)))) (show 4 ≤ 7 by decide)]
  show a_at _ (a_xm a_m123) 0 [some (a_rf (C + 22)), some (a_rf a), some (.int p), some (.int q), none, none, none] [] _ _
  repeat' first
    | with_reducible apply And.intro
    | with_reducible assumption
    | with_reducible intro _
    | with_reducible apply hP
    | with_reducible apply hl
    | simp only [q123_0, q123_1, q123_4, q123_5, q123_8, q123_9, q123_10, q123_11, q123_14, q123_16, q123_17, k_22 hS, z_22, as_nil, as_i, as_r, Nat.reduceAdd, Nat.reduceLeDiff, z_eq0, z_eq1, z_or, z_em, Classical.not_not, not_false_eq_true, not_true_eq_false, true_and, and_true, false_and, and_false, and_self, true_implies, false_implies, implies_true, Option.toList_some, Option.toList_none, List.cons_append, List.nil_append, Nat.add_eq_zero_iff, a_nl_i, a_nl_r, a_nl_n, true_or, or_true, eq_self, a_isRA_22, a_isRA_24, a_isRA_32, a_isA_20, ok_4, ok_5, ok_6, ok_7, ok_9, ok_20, ok_21, ok_30, ok_50, ok_180, ok_192, ok_200, ha, a0]
  all_goals ((try clear ih); (try clear hP); (try clear hl); (try clear hq); (try clear a3); grind [ui_ap])
theorem pf_next {s l b : Int32} (h0 : 0 ≤ s) (h1 : s ≤ 210) (hl : 1 ≤ l ∧ l ≤ 4) (hb : b ≤ 199) (h : ¬ b < s + l - 1) : s < 210 ∧ 0 ≤ s + 1 := by
  have c0 : (0 : Int32).toInt = 0 := rfl
  have c1 : (1 : Int32).toInt = 1 := rfl
  have c4 : (4 : Int32).toInt = 4 := rfl
  have c199 : (199 : Int32).toInt = 199 := rfl
  have c210 : (210 : Int32).toInt = 210 := rfl
  have e0 := Int32.le_iff_toInt_le.mp h0
  have e1 := Int32.le_iff_toInt_le.mp h1
  have e2 := Int32.le_iff_toInt_le.mp hl.1
  have e3 := Int32.le_iff_toInt_le.mp hl.2
  have e4 := Int32.le_iff_toInt_le.mp hb
  have e5 := Int32.le_iff_toInt_le.mp (Int32.not_lt.mp h)
  have es : (s + l).toInt = s.toInt + l.toInt := ti_add (by omega)
  have em : (s + l - 1).toInt = s.toInt + l.toInt - 1 := by
    rw [Int32.toInt_sub, es]
    simp only [Int.bmod_def]
    omega
  rw [em] at e5
  have e6 : (s + 1).toInt = s.toInt + 1 := by rw [ti_add (by omega)]; omega
  exact ⟨by rw [Int32.lt_iff_toInt_lt]; omega, by rw [Int32.le_iff_toInt_le]; omega⟩
theorem lk_placeFirst_19 {a : Nat} (ha : K a = 1) (hT : cT C K L I R) {p q s : Int32} (hn : ∀ J u, dL C K L R I J → a_at (d + 6) (a_xm a_m124) 66 [some (a_rf (C + 22)), some (a_rf a), some (.int p), some (.int q), some (.int s), u] [] (n, t, K, L, J, R) P) (hP : ∀ v J, (v = 0 ∨ v = 1) → dL C K L R I J → P (some (.int v)) (n, t, K, L, J, R)) : ∀ i : Int32, i ≤ 6 → ∀ J, 0 ≤ i → dL C K L R I J → a_at (d + 6) (a_xm a_m124) 19 [some (a_rf (C + 22)), some (a_rf a), some (.int p), some (.int q), some (.int s), some (.int i)] [] (n, t, K, L, J, R) P := by
  obtain ⟨a1, a2, a4, a3⟩ := hT.g_ask a ha
  have a0 : (a = 0) = False := eq_false (by omega)
  refine up_ind 6 (fun i hk ih => ?_)
  intro J q0 hL
  have e2 := dL_at hL hT ha 2 (by decide) (by decide)
  have hT := hL.1
  have hS := hT.s
  have gc := hT.g_benches
  have hc := dC_refl hT
  rw [q124_19]
  simp only [q124_21, q124_22, q124_25, q124_28, q124_31, q124_32, q124_35, q124_36, q124_38, q124_40, k_22 hS, z_22, r_22_0 hS, k_14 hS, z_14, as_nil, as_i, as_r, Nat.reduceAdd, Nat.reduceLeDiff, z_eq0, z_eq1, z_or, z_em, Classical.not_not, not_false_eq_true, not_true_eq_false, true_and, and_true, false_and, and_false, and_self, true_implies, false_implies, implies_true, Option.toList_some, Option.toList_none, List.cons_append, List.nil_append, Nat.add_eq_zero_iff, a_nl_i, a_nl_r, a_nl_n, true_or, or_true, eq_self, a_isRA_22, a_isRA_24, a_isRA_32, a_isA_20, ok_4, ok_5, ok_6, ok_7, ok_9, ok_20, ok_21, ok_30, ok_50, ok_180, ok_192, ok_200, ha, a0]
  refine ⟨fun h1 => hn J _ hL, fun h1 => ?_⟩
  refine ck_firstBar ha hT (fun v J1 j1 hv => ?_)
  have L1 := dL_C hL j1
  have e3 := dL_at L1 (by assumption) ha 2 (by decide) (by decide)
  simp only [q124_43, q124_46, q124_47, q124_50, q124_51, q124_53, q124_55, k_22 hS, z_22, r_22_0 hS, k_14 hS, z_14, as_nil, as_i, as_r, Nat.reduceAdd, Nat.reduceLeDiff, z_eq0, z_eq1, z_or, z_em, Classical.not_not, not_false_eq_true, not_true_eq_false, true_and, and_true, false_and, and_false, and_self, true_implies, false_implies, implies_true, Option.toList_some, Option.toList_none, List.cons_append, List.nil_append, Nat.add_eq_zero_iff, a_nl_i, a_nl_r, a_nl_n, true_or, or_true, eq_self, a_isRA_22, a_isRA_24, a_isRA_32, a_isA_20, ok_4, ok_5, ok_6, ok_7, ok_9, ok_20, ok_21, ok_30, ok_50, ok_180, ok_192, ok_200, ha, a0]
  refine ⟨fun h2 => ?_, fun h2 => ?_⟩
  · simp only [q124_60, q124_63, as_nil, as_i, as_r, Nat.reduceAdd, Nat.reduceLeDiff, z_eq0, z_eq1, z_or, z_em, Classical.not_not, not_false_eq_true, not_true_eq_false, true_and, and_true, false_and, and_false, and_self, true_implies, false_implies, implies_true, Option.toList_some, Option.toList_none, List.cons_append, List.nil_append, Nat.add_eq_zero_iff, a_nl_i, a_nl_r, a_nl_n, true_or, or_true, eq_self, a_isRA_22, a_isRA_24, a_isRA_32, a_isA_20, ok_4, ok_5, ok_6, ok_7, ok_9, ok_20, ok_21, ok_30, ok_50, ok_180, ok_192, ok_200, ha, a0]
    refine ih (by clear ih hn hP; grind) J1 (by clear ih hn hP; grind) L1
  · have hf : fitP s (J1 a 2) := by
      have := hv h2
      rw [dC_at j1 hT ha 2]
      exact this
    refine ck_place ha j1.1 hf (fun J2 j2 => ?_)
    simp only [q124_58, q124_59, as_nil, as_i, as_r, Nat.reduceAdd, Nat.reduceLeDiff, z_eq0, z_eq1, z_or, z_em, Classical.not_not, not_false_eq_true, not_true_eq_false, true_and, and_true, false_and, and_false, and_self, true_implies, false_implies, implies_true, Option.toList_some, Option.toList_none, List.cons_append, List.nil_append, Nat.add_eq_zero_iff, a_nl_i, a_nl_r, a_nl_n, true_or, or_true, eq_self, a_isRA_22, a_isRA_24, a_isRA_32, a_isA_20, ok_4, ok_5, ok_6, ok_7, ok_9, ok_20, ok_21, ok_30, ok_50, ok_180, ok_192, ok_200, ha, a0]
    first
      | exact hP _ _ (Or.inr rfl) (dL_L L1 j2)
      | exact ⟨by decide, hP _ _ (Or.inr rfl) (dL_L L1 j2)⟩
theorem lk_placeFirst_3 {a : Nat} (ha : K a = 1) (hT : cT C K L I R) {p q : Int32} (hq : q ≤ 199) (hP : ∀ v J, (v = 0 ∨ v = 1) → dL C K L R I J → P (some (.int v)) (n, t, K, L, J, R)) : ∀ s : Int32, s ≤ 210 → ∀ J u, 0 ≤ s → dL C K L R I J → a_at (d + 6) (a_xm a_m124) 3 [some (a_rf (C + 22)), some (a_rf a), some (.int p), some (.int q), some (.int s), u] [] (n, t, K, L, J, R) P := by
  obtain ⟨a1, a2, a4, a3⟩ := hT.g_ask a ha
  have a0 : (a = 0) = False := eq_false (by omega)
  refine up_ind 210 (fun s hk ih => ?_)
  intro J u q0 hL
  have e2 := dL_at hL hT ha 2 (by decide) (by decide)
  have hT := hL.1
  have hS := hT.s
  rw [q124_3]
  simp only [q124_5, q124_6, q124_9, q124_10, q124_11, q124_12, q124_13, q124_16, q124_17, k_22 hS, z_22, as_nil, as_i, as_r, Nat.reduceAdd, Nat.reduceLeDiff, z_eq0, z_eq1, z_or, z_em, Classical.not_not, not_false_eq_true, not_true_eq_false, true_and, and_true, false_and, and_false, and_self, true_implies, false_implies, implies_true, Option.toList_some, Option.toList_none, List.cons_append, List.nil_append, Nat.add_eq_zero_iff, a_nl_i, a_nl_r, a_nl_n, true_or, or_true, eq_self, a_isRA_22, a_isRA_24, a_isRA_32, a_isA_20, ok_4, ok_5, ok_6, ok_7, ok_9, ok_20, ok_21, ok_30, ok_50, ok_180, ok_192, ok_200, ha, a0, e2]
  refine ⟨fun h1 => ?_, fun h1 => ?_⟩
  · simp only [q124_72, q124_73, as_nil, as_i, as_r, Nat.reduceAdd, Nat.reduceLeDiff, z_eq0, z_eq1, z_or, z_em, Classical.not_not, not_false_eq_true, not_true_eq_false, true_and, and_true, false_and, and_false, and_self, true_implies, false_implies, implies_true, Option.toList_some, Option.toList_none, List.cons_append, List.nil_append, Nat.add_eq_zero_iff, a_nl_i, a_nl_r, a_nl_n, true_or, or_true, eq_self, a_isRA_22, a_isRA_24, a_isRA_32, a_isA_20, ok_4, ok_5, ok_6, ok_7, ok_9, ok_20, ok_21, ok_30, ok_50, ok_180, ok_192, ok_200, ha, a0]
    first
      | exact hP _ _ (Or.inl rfl) hL
      | exact ⟨by decide, hP _ _ (Or.inl rfl) hL⟩
  · obtain ⟨g1, g2⟩ := pf_next q0 hk a2 hq h1
    have ih := ih g1
    refine lk_placeFirst_19 (d := d) ha hT (fun J2 u2 h2 => ?_) (fun v J2 h h2 => hP v J2 h (dL_L hL h2)) 0 (by decide) J (by decide) (dL_refl hT)
    simp only [q124_66, q124_69, as_nil, as_i, as_r, Nat.reduceAdd, Nat.reduceLeDiff, z_eq0, z_eq1, z_or, z_em, Classical.not_not, not_false_eq_true, not_true_eq_false, true_and, and_true, false_and, and_false, and_self, true_implies, false_implies, implies_true, Option.toList_some, Option.toList_none, List.cons_append, List.nil_append, Nat.add_eq_zero_iff, a_nl_i, a_nl_r, a_nl_n, true_or, or_true, eq_self, a_isRA_22, a_isRA_24, a_isRA_32, a_isA_20, ok_4, ok_5, ok_6, ok_7, ok_9, ok_20, ok_21, ok_30, ok_50, ok_180, ok_192, ok_200, ha, a0]
    exact ih J2 _ g2 (dL_L hL h2)
theorem ck_placeFirst {a : Nat} (ha : K a = 1) (hT : cT C K L I R) {p q : Int32} (hp : 0 ≤ p ∧ p ≤ 210) (hq : q ≤ 199) (hP : ∀ v J, (v = 0 ∨ v = 1) → dL C K L R I J → P (some (.int v)) (n, t, K, L, J, R)) : a_does (d + 7) 124 [a_rf (C + 22), a_rf a, .int p, .int q] (n, t, K, L, I, R) P := by
  have hS := hT.s
  rw [a_enter1 (M := a_m124) rfl (a_cat_rf (a_cat_rf (a_cat_int (a_cat_int a_cat_nil)))) (show 4 ≤ 6 by decide)]
  show a_at _ (a_xm a_m124) 0 [some (a_rf (C + 22)), some (a_rf a), some (.int p), some (.int q), none, none] [] _ _
  simp only [q124_0, q124_1, as_nil, as_i, as_r, Nat.reduceAdd, Nat.reduceLeDiff, z_eq0, z_eq1, z_or, z_em, Classical.not_not, not_false_eq_true, not_true_eq_false, true_and, and_true, false_and, and_false, and_self, true_implies, false_implies, implies_true, Option.toList_some, Option.toList_none, List.cons_append, List.nil_append, Nat.add_eq_zero_iff, a_nl_i, a_nl_r, a_nl_n, true_or, or_true, eq_self, a_isRA_22, a_isRA_24, a_isRA_32, a_isA_20, ok_4, ok_5, ok_6, ok_7, ok_9, ok_20, ok_21, ok_30, ok_50, ok_180, ok_192, ok_200]
  exact lk_placeFirst_3 ha hT hq hP p hp.2 I _ hp.1 (dL_refl hT)
theorem lk_enter_15 {a : Nat} (ha : K a = 1) {m : Int32} (hm : 0 ≤ m ∧ m < 30) (h6 : I (C + 22) 6 = m) (hP : ∀ J R1, cZ C c n0 K0 L0 I0 R0 n t K L J R1 → J (C + 22) 6 = m + 1 → J (C + 22) 7 = I (C + 22) 7 → (∀ p, nnP C R1 (m + 1) p) → P none (n, t, K, L, J, R1)) : ∀ q : Int32, 0 ≤ q → ∀ R1, q ≤ m → cZ C c n0 K0 L0 I0 R0 n t K L I R1 → nnP C R1 (m + 1) q → a_at (d + 2) (a_xm a_m120) 15 [some (a_rf (C + 22)), some (a_rf a), some (.int q)] [] (n, t, K, L, I, R1) P := by
  refine dn_ind 0 (fun q hk ih => ?_)
  intro R1 q1 hZ hN
  have hT := hZ.2.1.1
  have hS := hT.s
  obtain ⟨a1, a2, a4, a3⟩ := hT.g_ask a ha
  have a0 : (a = 0) = False := eq_false (by omega)
  have go := hT.g_orderR (q - 1).toNatClampNeg
  have gn : 0 < q → ¬ R1 (C + 23) (q - 1).toNatClampNeg = 0 := fun h => hN (q - 1) (by clear hN ih hP; grind) (by clear hN ih hP; grind) (by clear hN ih hP; grind)
  have hs : 0 < q → nnP C (a_ur R1 (C + 23) q.toNatClampNeg (R1 (C + 23) (q - 1).toNatClampNeg)) (m + 1) (q + (-1)) := fun h => by
    have := nn_shift hN h (by clear hN ih hP; grind) (by clear hN ih hP; grind)
    have e : q + (-1) = q - 1 := by clear hN ih hP; grind
    rw [e]
    exact this
  have hzs : cZ C c n0 K0 L0 I0 R0 n t K L I (a_ur R1 (C + 23) q.toNatClampNeg (R1 (C + 23) (q - 1).toNatClampNeg)) := cZ_R23 hZ go
  have zf := cZ_R23 (j := q.toNatClampNeg) (v := a) hZ (Or.inr ha)
  have zg := cZ_G zf (dG_Planner_orderSize (dG_refl zf.2.1.1) (v := m + 1) (by clear zf hzs hs hN ih hP hZ hT hS go gn; grind))
  have hfin := hP _ _ zg (by rw [ui_ap, if_pos ⟨rfl, rfl⟩]) (by rw [ui_ap, if_neg (by omega)]) (nn_put hN (by omega))
  rw [q120_15]
  simp only [q120_16, q120_19, q120_20, q120_21, q120_24, q120_25, q120_26, q120_27, q120_28, k_22 hS, z_22, r_22_2 hS, k_23 hS, l_23 hS, z_23, as_nil, as_i, as_r, Nat.reduceAdd, Nat.reduceLeDiff, z_eq0, z_eq1, z_or, z_em, Classical.not_not, not_false_eq_true, not_true_eq_false, true_and, and_true, false_and, and_false, and_self, true_implies, false_implies, implies_true, Option.toList_some, Option.toList_none, List.cons_append, List.nil_append, Nat.add_eq_zero_iff, a_nl_i, a_nl_r, a_nl_n, true_or, or_true, eq_self, a_isRA_22, a_isRA_24, a_isRA_32, a_isA_20, ok_4, ok_5, ok_6, ok_7, ok_9, ok_20, ok_21, ok_30, ok_50, ok_180, ok_192, ok_200, ha, a0]
  have hend : a_at (d + 2) (a_xm a_m120) 54 [some (a_rf (C + 22)), some (a_rf a), some (.int q)] [] (n, t, K, L, I, R1) P := by
    simp only [q120_54, q120_55, q120_58, q120_59, q120_60, q120_61, q120_62, q120_63, q120_66, q120_67, q120_68, q120_71, k_22 hS, z_22, r_22_2 hS, k_23 hS, l_23 hS, z_23, as_nil, as_i, as_r, Nat.reduceAdd, Nat.reduceLeDiff, z_eq0, z_eq1, z_or, z_em, Classical.not_not, not_false_eq_true, not_true_eq_false, true_and, and_true, false_and, and_false, and_self, true_implies, false_implies, implies_true, Option.toList_some, Option.toList_none, List.cons_append, List.nil_append, Nat.add_eq_zero_iff, a_nl_i, a_nl_r, a_nl_n, true_or, or_true, eq_self, a_isRA_22, a_isRA_24, a_isRA_32, a_isA_20, ok_4, ok_5, ok_6, ok_7, ok_9, ok_20, ok_21, ok_30, ok_50, ok_180, ok_192, ok_200, ha, a0, ur_ap, cc_ne, Nat.reduceEqDiff, if_false, h6]
    repeat' first
      | with_reducible apply And.intro
      | exact hfin
      | exact hk
      | (right; rfl)
      | decide
    all_goals (clear hfin zg zf hzs hs hN ih hP hZ hT hS go gn; grind)
  refine ⟨fun h => hend, fun h => ?_⟩
  have hq : 0 < q := Int32.not_le.mp h
  have gn := gn hq
  have gk := go.resolve_left gn
  refine ⟨?_, ?_⟩
  · clear hfin zg zf hzs hs hN ih hP hZ hT hS go
    first
      | grind
      | (refine ⟨?_, ?_⟩ <;> grind)
  · refine ck_isAheadOf (by omega) ha gn gk (fun v => ?_)
    simp only [q120_31, q120_34, q120_35, q120_38, q120_39, q120_40, q120_43, q120_44, q120_45, q120_46, q120_47, q120_48, q120_51, k_22 hS, z_22, r_22_2 hS, k_23 hS, l_23 hS, z_23, as_nil, as_i, as_r, Nat.reduceAdd, Nat.reduceLeDiff, z_eq0, z_eq1, z_or, z_em, Classical.not_not, not_false_eq_true, not_true_eq_false, true_and, and_true, false_and, and_false, and_self, true_implies, false_implies, implies_true, Option.toList_some, Option.toList_none, List.cons_append, List.nil_append, Nat.add_eq_zero_iff, a_nl_i, a_nl_r, a_nl_n, true_or, or_true, eq_self, a_isRA_22, a_isRA_24, a_isRA_32, a_isA_20, ok_4, ok_5, ok_6, ok_7, ok_9, ok_20, ok_21, ok_30, ok_50, ok_180, ok_192, ok_200, ha, a0, gk, gn]
    refine ⟨fun _ => hend, fun _ => ?_⟩
    have hi := ih hq _ (by clear hfin zg zf hzs hs hN ih hP hZ hT hS go; grind) hzs (hs hq)
    repeat' first
      | with_reducible apply And.intro
      | exact hi
      | exact hk
      | (right; rfl)
      | decide
    all_goals (clear hi hfin zg zf hzs hs hN ih hP hZ hT hS go; grind)
theorem ck_enter {a : Nat} (ha : K a = 1) {m : Int32} (hZ : cZ C c n0 K0 L0 I0 R0 n t K L I R) (h6 : I (C + 22) 6 = m) (hm : m < 30) (hN : ∀ p, nnP C R m p) (hP : ∀ J R1, cZ C c n0 K0 L0 I0 R0 n t K L J R1 → J (C + 22) 6 = m + 1 → J (C + 22) 7 = I (C + 22) 7 → (∀ p, nnP C R1 (m + 1) p) → P none (n, t, K, L, J, R1)) : a_does (d + 3) 120 [a_rf (C + 22), a_rf a] (n, t, K, L, I, R) P := by
  have hT := hZ.2.1.1
  have hS := hT.s
  have g := hT.g_orderSize
  rw [h6] at g
  have hm' : ¬ 30 ≤ m := Int32.not_le.mpr hm
  have hl := lk_enter_15 (d := d) (m := m) ha ⟨g.1, hm⟩ h6 hP m g.1 R (Int32.le_refl _) hZ (nn_open hN g.1 g.2)
  rw [a_enter1 (M := a_m120) rfl (a_cat_rf (a_cat_rf a_cat_nil)) (show 2 ≤ 3 by decide)]
  show a_at _ (a_xm a_m120) 0 [some (a_rf (C + 22)), some (a_rf a), none] [] _ _
  simp only [q120_0, q120_1, q120_4, q120_6, q120_9, q120_10, q120_11, q120_14, k_22 hS, z_22, as_nil, as_i, as_r, Nat.reduceAdd, Nat.reduceLeDiff, z_eq0, z_eq1, z_or, z_em, Classical.not_not, not_false_eq_true, not_true_eq_false, true_and, and_true, false_and, and_false, and_self, true_implies, false_implies, implies_true, Option.toList_some, Option.toList_none, List.cons_append, List.nil_append, Nat.add_eq_zero_iff, a_nl_i, a_nl_r, a_nl_n, true_or, or_true, eq_self, a_isRA_22, a_isRA_24, a_isRA_32, a_isA_20, ok_4, ok_5, ok_6, ok_7, ok_9, ok_20, ok_21, ok_30, ok_50, ok_180, ok_192, ok_200, h6, hm, hm']
  first
    | exact hl
    | exact ⟨fun _ => hl, fun h => absurd hm h⟩
end KD
end
section
/-! the class: plans, whole -/
section KE
variable {d n t C c n0 n' n'' t' : Nat} {K L K0 L0 K' L' K'' L'' : Nat → Nat} {I I0 J J0 J1 J2 : Nat → Nat → Int32} {R R0 R' R'' : Nat → Nat → Nat} {P : Option Value → AH → Prop}
theorem lk_planAll_68 {p q m : Int32} (hp : 0 ≤ p ∧ p ≤ 210) (hq : q ≤ 199) (hm : m ≤ 30) (hN : ∀ p, nnP C R m p) (hP : ∀ v J R, cZ C c n0 K0 L0 I0 R0 n t K L J R → P (some (.int v)) (n, t, K, L, J, R)) : ∀ i : Int32, i ≤ 30 → ∀ J u, 0 ≤ i → cZ C c n0 K0 L0 I0 R0 n t K L J R → J (C + 22) 6 = m → 0 ≤ J (C + 22) 7 ∧ J (C + 22) 7 ≤ i → a_at (d + 7) (a_xm a_m119) 68 [some (a_rf (C + 22)), some (.int p), some (.int q), some (.int i), u] [] (n, t, K, L, J, R) P := by
  refine up_ind 30 (fun i hk ih => ?_)
  intro J u q0 hZ h6 h7
  have hT := hZ.2.1.1
  have hS := hT.s
  have gi := hT.g_orderR i.toNatClampNeg
  have gn : i < m → ¬ R (C + 23) i.toNatClampNeg = 0 := fun h => hN (-1) i q0 h (by clear hN ih hP; grind)
  rw [q119_68]
  simp only [q119_69, q119_70, q119_73, q119_76, q119_77, q119_78, q119_81, q119_82, q119_83, q119_84, q119_85, k_22 hS, z_22, r_22_2 hS, k_23 hS, l_23 hS, z_23, as_nil, as_i, as_r, Nat.reduceAdd, Nat.reduceLeDiff, z_eq0, z_eq1, z_or, z_em, Classical.not_not, not_false_eq_true, not_true_eq_false, true_and, and_true, false_and, and_false, and_self, true_implies, false_implies, implies_true, Option.toList_some, Option.toList_none, List.cons_append, List.nil_append, Nat.add_eq_zero_iff, a_nl_i, a_nl_r, a_nl_n, true_or, or_true, eq_self, a_isRA_22, a_isRA_24, a_isRA_32, a_isA_20, ok_4, ok_5, ok_6, ok_7, ok_9, ok_20, ok_21, ok_30, ok_50, ok_180, ok_192, ok_200, h6]
  refine ⟨fun h1 => ?_, fun h1 => ?_⟩
  · simp only [q119_140, q119_141, q119_144, q119_145, q119_148, q119_149, k_22 hS, z_22, as_nil, as_i, as_r, Nat.reduceAdd, Nat.reduceLeDiff, z_eq0, z_eq1, z_or, z_em, Classical.not_not, not_false_eq_true, not_true_eq_false, true_and, and_true, false_and, and_false, and_self, true_implies, false_implies, implies_true, Option.toList_some, Option.toList_none, List.cons_append, List.nil_append, Nat.add_eq_zero_iff, a_nl_i, a_nl_r, a_nl_n, true_or, or_true, eq_self, a_isRA_22, a_isRA_24, a_isRA_32, a_isA_20, ok_4, ok_5, ok_6, ok_7, ok_9, ok_20, ok_21, ok_30, ok_50, ok_180, ok_192, ok_200]
    exact hP _ _ _ hZ
  · have h1 : i < m := Int32.not_le.mp h1
    have gn := gn h1
    have ha := gi.resolve_left gn
    have hi30 : i < 30 := by clear hN ih hP; grind
    have ih := ih hi30
    have hfail : ∀ J2, dL C K L R J J2 → a_at (d + 7) (a_xm a_m119) 106 [some (a_rf (C + 22)), some (.int p), some (.int q), some (.int i), u] [] (n, t, K, L, J2, R) P := fun J2 j2 => by
      have z2 := cZ_L hZ j2
      have hT2 := j2.1
      have e6 : J2 (C + 22) 6 = m := by rw [j2.2 _ _ (by omega) (by omega) (by omega)]; exact h6
      have e7 : J2 (C + 22) 7 = J (C + 22) 7 := j2.2 _ _ (by omega) (by omega) (by omega)
      have zz : cZ C c n0 K0 L0 I0 R0 n t K L (a_ui (a_ui J2 (C + 24) (J (C + 22) 7).toNatClampNeg (J2 (R (C + 23) i.toNatClampNeg) 4)) (C + 22) 7 (J (C + 22) 7 + 1)) R := cZ_G z2 (dG_Planner_passedCount (dG_24 (dG_refl hT2)) (by clear hN ih hP hZ z2 hT hT2 j2; grind))
      have hi := ih _ u (by clear hN ih hP hZ z2 hT hT2 j2 zz; grind) zz (by rw [ui_ap, if_neg (by omega), ui_ap, if_neg (by omega)]; exact e6) (by rw [ui_ap, if_pos ⟨rfl, rfl⟩]; clear hN ih hP hZ z2 hT hT2 j2 zz; grind)
      simp only [q119_106, q119_107, q119_110, q119_111, q119_114, q119_115, q119_118, q119_119, q119_120, q119_123, q119_124, q119_125, q119_126, q119_129, q119_130, q119_131, q119_134, q119_137, k_22 hS, z_22, r_22_3 hS, k_24 hS, l_24 hS, z_24, r_22_2 hS, k_23 hS, l_23 hS, z_23, as_nil, as_i, as_r, Nat.reduceAdd, Nat.reduceLeDiff, z_eq0, z_eq1, z_or, z_em, Classical.not_not, not_false_eq_true, not_true_eq_false, true_and, and_true, false_and, and_false, and_self, true_implies, false_implies, implies_true, Option.toList_some, Option.toList_none, List.cons_append, List.nil_append, Nat.add_eq_zero_iff, a_nl_i, a_nl_r, a_nl_n, true_or, or_true, eq_self, a_isRA_22, a_isRA_24, a_isRA_32, a_isA_20, ok_4, ok_5, ok_6, ok_7, ok_9, ok_20, ok_21, ok_30, ok_50, ok_180, ok_192, ok_200, ui_ap, cc_ne, cc_n0, cc_0n, Nat.reduceEqDiff, reduceIte, if_true, if_false, e7, ha, gn]
      repeat' first
        | with_reducible apply And.intro
        | exact hi
        | exact q0
        | exact hi30
        | exact h7.1
        | decide
      all_goals (clear hi hN ih hP hZ z2 hT hT2 j2 zz; grind)
    have hok : ∀ J2, dL C K L R J J2 → a_at (d + 7) (a_xm a_m119) 134 [some (a_rf (C + 22)), some (.int p), some (.int q), some (.int i), u] [] (n, t, K, L, J2, R) P := fun J2 j2 => by
      have z2 := cZ_L hZ j2
      have e6 : J2 (C + 22) 6 = m := by rw [j2.2 _ _ (by omega) (by omega) (by omega)]; exact h6
      have e7 : J2 (C + 22) 7 = J (C + 22) 7 := j2.2 _ _ (by omega) (by omega) (by omega)
      simp only [q119_134, q119_137, as_nil, as_i, as_r, Nat.reduceAdd, Nat.reduceLeDiff, z_eq0, z_eq1, z_or, z_em, Classical.not_not, not_false_eq_true, not_true_eq_false, true_and, and_true, false_and, and_false, and_self, true_implies, false_implies, implies_true, Option.toList_some, Option.toList_none, List.cons_append, List.nil_append, Nat.add_eq_zero_iff, a_nl_i, a_nl_r, a_nl_n, true_or, or_true, eq_self, a_isRA_22, a_isRA_24, a_isRA_32, a_isA_20, ok_4, ok_5, ok_6, ok_7, ok_9, ok_20, ok_21, ok_30, ok_50, ok_180, ok_192, ok_200]
      exact ih _ u (by clear hN ih hP; grind) z2 e6 (by rw [e7]; clear hN ih hP hZ z2 hT; grind)
    refine ⟨⟨q0, hi30⟩, ?_⟩
    refine ck_isInShare ha hT (fun v => ?_)
    simp only [q119_88, q119_91, q119_92, q119_93, q119_96, q119_97, q119_98, q119_99, q119_100, k_22 hS, z_22, r_22_2 hS, k_23 hS, l_23 hS, z_23, as_nil, as_i, as_r, Nat.reduceAdd, Nat.reduceLeDiff, z_eq0, z_eq1, z_or, z_em, Classical.not_not, not_false_eq_true, not_true_eq_false, true_and, and_true, false_and, and_false, and_self, true_implies, false_implies, implies_true, Option.toList_some, Option.toList_none, List.cons_append, List.nil_append, Nat.add_eq_zero_iff, a_nl_i, a_nl_r, a_nl_n, true_or, or_true, eq_self, a_isRA_22, a_isRA_24, a_isRA_32, a_isA_20, ok_4, ok_5, ok_6, ok_7, ok_9, ok_20, ok_21, ok_30, ok_50, ok_180, ok_192, ok_200]
    refine ⟨fun _ => hfail J (dL_refl hT), fun _ => ⟨⟨q0, hi30⟩, ?_⟩⟩
    refine ck_placeFirst ha hT hp hq (fun v2 J2 _ j2 => ?_)
    simp only [q119_103, as_nil, as_i, as_r, Nat.reduceAdd, Nat.reduceLeDiff, z_eq0, z_eq1, z_or, z_em, Classical.not_not, not_false_eq_true, not_true_eq_false, true_and, and_true, false_and, and_false, and_self, true_implies, false_implies, implies_true, Option.toList_some, Option.toList_none, List.cons_append, List.nil_append, Nat.add_eq_zero_iff, a_nl_i, a_nl_r, a_nl_n, true_or, or_true, eq_self, a_isRA_22, a_isRA_24, a_isRA_32, a_isA_20, ok_4, ok_5, ok_6, ok_7, ok_9, ok_20, ok_21, ok_30, ok_50, ok_180, ok_192, ok_200]
    refine ⟨?_, ?_⟩
    all_goals (intro _; first | exact hok J2 j2 | exact hfail J2 j2)
theorem lk_planAll_12 {p q : Int32} (hp : 0 ≤ p ∧ p ≤ 210) (hq : q ≤ 199) (hP : ∀ v J R, cZ C c n0 K0 L0 I0 R0 n t K L J R → P (some (.int v)) (n, t, K, L, J, R)) : ∀ i : Int32, i ≤ 30 → ∀ J R u, 0 ≤ i → cZ C c n0 K0 L0 I0 R0 n t K L J R → J (C + 22) 6 ≤ i → J (C + 22) 7 = 0 → (∀ p, nnP C R (J (C + 22) 6) p) → a_at (d + 7) (a_xm a_m119) 12 [some (a_rf (C + 22)), some (.int p), some (.int q), some (.int i), u] [] (n, t, K, L, J, R) P := by
  refine up_ind 30 (fun i hk ih => ?_)
  intro J R u q0 hZ h6 h7 hN
  have hT := hZ.2.1.1
  have hS := hT.s
  have gA := hT.g_asksR
  have gB := hT.g_benchesR
  have gX := hT.g_textsR
  have gc := hT.g_asks
  have gi := gA i.toNatClampNeg
  have go := hT.g_orderSize
  have hend := lk_planAll_68 (d := d) (m := J (C + 22) 6) hp hq go.2 hN hP 0 (by decide) J u (by decide) hZ rfl (by rw [h7]; decide)
  have hnext : i < 30 → ∀ J R u, cZ C c n0 K0 L0 I0 R0 n t K L J R → J (C + 22) 6 ≤ i + 1 → J (C + 22) 7 = 0 → (∀ p, nnP C R (J (C + 22) 6) p) → a_at (d + 7) (a_xm a_m119) 60 [some (a_rf (C + 22)), some (.int p), some (.int q), some (.int i), u] [] (n, t, K, L, J, R) P := fun hi J R u z a6 a7 aN => by
    simp only [q119_60, q119_63, as_nil, as_i, as_r, Nat.reduceAdd, Nat.reduceLeDiff, z_eq0, z_eq1, z_or, z_em, Classical.not_not, not_false_eq_true, not_true_eq_false, true_and, and_true, false_and, and_false, and_self, true_implies, false_implies, implies_true, Option.toList_some, Option.toList_none, List.cons_append, List.nil_append, Nat.add_eq_zero_iff, a_nl_i, a_nl_r, a_nl_n, true_or, or_true, eq_self, a_isRA_22, a_isRA_24, a_isRA_32, a_isA_20, ok_4, ok_5, ok_6, ok_7, ok_9, ok_20, ok_21, ok_30, ok_50, ok_180, ok_192, ok_200]
    exact ih hi J R u (by clear hend ih hP; grind) z a6 a7 aN
  rw [q119_12]
  simp only [q119_13, q119_14, q119_17, q119_20, q119_23, q119_24, q119_27, q119_28, k_22 hS, z_22, r_22_0 hS, k_14 hS, z_14, sp_askAt hS gA, as_nil, as_i, as_r, Nat.reduceAdd, Nat.reduceLeDiff, z_eq0, z_eq1, z_or, z_em, Classical.not_not, not_false_eq_true, not_true_eq_false, true_and, and_true, false_and, and_false, and_self, true_implies, false_implies, implies_true, Option.toList_some, Option.toList_none, List.cons_append, List.nil_append, Nat.add_eq_zero_iff, a_nl_i, a_nl_r, a_nl_n, true_or, or_true, eq_self, a_isRA_22, a_isRA_24, a_isRA_32, a_isA_20, ok_4, ok_5, ok_6, ok_7, ok_9, ok_20, ok_21, ok_30, ok_50, ok_180, ok_192, ok_200]
  refine ⟨fun h1 => ?_, fun h1 => ?_⟩
  · simp only [q119_66, q119_67, as_nil, as_i, as_r, Nat.reduceAdd, Nat.reduceLeDiff, z_eq0, z_eq1, z_or, z_em, Classical.not_not, not_false_eq_true, not_true_eq_false, true_and, and_true, false_and, and_false, and_self, true_implies, false_implies, implies_true, Option.toList_some, Option.toList_none, List.cons_append, List.nil_append, Nat.add_eq_zero_iff, a_nl_i, a_nl_r, a_nl_n, true_or, or_true, eq_self, a_isRA_22, a_isRA_24, a_isRA_32, a_isA_20, ok_4, ok_5, ok_6, ok_7, ok_9, ok_20, ok_21, ok_30, ok_50, ok_180, ok_192, ok_200]
    exact hend
  · have hi : i < 30 := by clear hend ih hP hnext hN; grind
    have hsame := fun u => hnext hi J R u hZ (by clear hend ih hP hnext hN; grind) h7 hN
    refine ⟨fun h2 => ?_, fun h2 => ?_⟩
    · simp only [q119_31, q119_33, q119_35, q119_38, q119_40, k_22 hS, z_22, sp_isPlaced, as_nil, as_i, as_r, Nat.reduceAdd, Nat.reduceLeDiff, z_eq0, z_eq1, z_or, z_em, Classical.not_not, not_false_eq_true, not_true_eq_false, true_and, and_true, false_and, and_false, and_self, true_implies, false_implies, implies_true, Option.toList_some, Option.toList_none, List.cons_append, List.nil_append, Nat.add_eq_zero_iff, a_nl_i, a_nl_r, a_nl_n, true_or, or_true, eq_self, a_isRA_22, a_isRA_24, a_isRA_32, a_isA_20, ok_4, ok_5, ok_6, ok_7, ok_9, ok_20, ok_21, ok_30, ok_50, ok_180, ok_192, ok_200]
      refine ⟨fun h3 => hsame _, fun h3 => ?_⟩
      have ha := gi.resolve_left h3
      simp only [q119_43, q119_46, q119_48, q119_51, q119_54, q119_55, q119_57, k_22 hS, z_22, as_nil, as_i, as_r, Nat.reduceAdd, Nat.reduceLeDiff, z_eq0, z_eq1, z_or, z_em, Classical.not_not, not_false_eq_true, not_true_eq_false, true_and, and_true, false_and, and_false, and_self, true_implies, false_implies, implies_true, Option.toList_some, Option.toList_none, List.cons_append, List.nil_append, Nat.add_eq_zero_iff, a_nl_i, a_nl_r, a_nl_n, true_or, or_true, eq_self, a_isRA_22, a_isRA_24, a_isRA_32, a_isA_20, ok_4, ok_5, ok_6, ok_7, ok_9, ok_20, ok_21, ok_30, ok_50, ok_180, ok_192, ok_200, ha, h3]
      repeat' first
        | with_reducible apply And.intro
        | with_reducible intro _
        | with_reducible assumption
        | exact hsame _
        | (refine ck_enter (m := J (C + 22) 6) ha hZ rfl (by clear hend ih hP hnext hN; grind) hN (fun J2 R2 z2 a6 a7 aN => ?_)
           exact hnext hi J2 R2 _ z2 (by rw [a6]; clear hend ih hP hnext hN aN; grind) (by rw [a7]; exact h7) (by rw [a6]; exact aN))
    · simp only [q119_31, q119_33, q119_35, q119_38, q119_40, k_22 hS, z_22, sp_isPlaced, as_nil, as_i, as_r, Nat.reduceAdd, Nat.reduceLeDiff, z_eq0, z_eq1, z_or, z_em, Classical.not_not, not_false_eq_true, not_true_eq_false, true_and, and_true, false_and, and_false, and_self, true_implies, false_implies, implies_true, Option.toList_some, Option.toList_none, List.cons_append, List.nil_append, Nat.add_eq_zero_iff, a_nl_i, a_nl_r, a_nl_n, true_or, or_true, eq_self, a_isRA_22, a_isRA_24, a_isRA_32, a_isA_20, ok_4, ok_5, ok_6, ok_7, ok_9, ok_20, ok_21, ok_30, ok_50, ok_180, ok_192, ok_200]
      first
        | exact hsame _
        | exact ⟨fun _ => hsame _, fun h => absurd rfl h⟩
theorem ck_planAll {p q : Int32} (hp : 0 ≤ p ∧ p ≤ 210) (hq : q ≤ 199) (hZ : cZ C c n0 K0 L0 I0 R0 n t K L I R) (hP : ∀ v J R, cZ C c n0 K0 L0 I0 R0 n t K L J R → P (some (.int v)) (n, t, K, L, J, R)) : a_does (d + 8) 119 [a_rf (C + 22), .int p, .int q] (n, t, K, L, I, R) P := by
  have hT := hZ.2.1.1
  have hS := hT.s
  have z : cZ C c n0 K0 L0 I0 R0 n t K L (a_ui (a_ui I (C + 22) 6 0) (C + 22) 7 0) R := cZ_G hZ (dG_Planner_passedCount (dG_Planner_orderSize (dG_refl hT) (by decide)) (by decide))
  have e6 : a_ui (a_ui I (C + 22) 6 0) (C + 22) 7 0 (C + 22) 6 = 0 := by rw [ui_ap, if_neg (by omega), ui_ap, if_pos ⟨rfl, rfl⟩]
  have hl := fun u => lk_planAll_12 (d := d) hp hq hP 0 (by decide) _ R u (by decide) z (by rw [e6]; decide) (by rw [ui_ap, if_pos ⟨rfl, rfl⟩]) (by rw [e6]; exact nn_0)
  rw [a_enter1 (M := a_m119) rfl (a_cat_rf (a_cat_int (a_cat_int a_cat_nil))) (show 3 ≤ 5 by decide)]
  show a_at _ (a_xm a_m119) 0 [some (a_rf (C + 22)), some (.int p), some (.int q), none, none] [] _ _
  simp only [q119_0, q119_1, q119_2, q119_5, q119_6, q119_7, q119_10, q119_11, k_22 hS, z_22, as_nil, as_i, as_r, Nat.reduceAdd, Nat.reduceLeDiff, z_eq0, z_eq1, z_or, z_em, Classical.not_not, not_false_eq_true, not_true_eq_false, true_and, and_true, false_and, and_false, and_self, true_implies, false_implies, implies_true, Option.toList_some, Option.toList_none, List.cons_append, List.nil_append, Nat.add_eq_zero_iff, a_nl_i, a_nl_r, a_nl_n, true_or, or_true, eq_self, a_isRA_22, a_isRA_24, a_isRA_32, a_isA_20, ok_4, ok_5, ok_6, ok_7, ok_9, ok_20, ok_21, ok_30, ok_50, ok_180, ok_192, ok_200]
  exact hl _
theorem now8 {v : Int32} (h : 0 ≤ v ∧ v ≤ 1600) : 0 ≤ v / 8 + 1 ∧ v / 8 + 1 ≤ 210 := by
  have c0 : (0 : Int32).toInt = 0 := rfl
  have c1 : (1 : Int32).toInt = 1 := rfl
  have c8 : (8 : Int32).toInt = 8 := rfl
  have c2 : (1600 : Int32).toInt = 1600 := rfl
  have c3 : (210 : Int32).toInt = 210 := rfl
  have e0 := Int32.le_iff_toInt_le.mp h.1
  have e1 := Int32.le_iff_toInt_le.mp h.2
  have e := ti_div h.1 (show (0 : Int32) < 8 by decide)
  rw [c8] at e
  have e2 : (v / 8 + 1).toInt = (v / 8).toInt + 1 := by rw [ti_add (by omega)]; omega
  exact ⟨by rw [Int32.le_iff_toInt_le]; omega, by rw [Int32.le_iff_toInt_le]; omega⟩
theorem lk_planAgain_77 {m : Int32} (hm : m ≤ 30) (hN : ∀ p, nnP C R m p) (hP : ∀ v J, cZ C c n0 K0 L0 I0 R0 (n + 1) t K L J R → P (some (.int v)) (n + 1, t, K, L, J, R)) : ∀ i : Int32, i ≤ 30 → ∀ J o u, 0 ≤ i → cZ C c n0 K0 L0 I0 R0 (n + 1) t K L J R → J (C + 22) 6 = m → a_at (d + 7) (a_xm a_m144) 77 [some (a_rf (C + 22)), some (.int o), some (.int i), u] [] (n + 1, t, K, L, J, R) P := by
  refine up_ind 30 (fun i hk ih => ?_)
  intro J o u q0 hZ h6
  have hT := hZ.2.1.1
  have hS := hT.s
  have gi := hT.g_orderR i.toNatClampNeg
  have gn : i < m → ¬ R (C + 23) i.toNatClampNeg = 0 := fun h => hN (-1) i q0 h (by clear hN ih hP; grind)
  have hnow := hT.g_now
  have n8 : ¬ (8 : Int32) = 0 := by decide
  rw [q144_77]
  simp only [q144_78, q144_79, q144_82, q144_85, q144_86, q144_89, q144_90, q144_91, q144_92, q144_93, q144_94, q144_95, q144_98, q144_101, q144_103, q144_104, q144_105, q144_106, q144_109, k_22 hS, z_22, r_22_2 hS, k_23 hS, l_23 hS, z_23, r_22_1 hS, k_1 hS, z_1, as_nil, as_i, as_r, Nat.reduceAdd, Nat.reduceLeDiff, z_eq0, z_eq1, z_or, z_em, Classical.not_not, not_false_eq_true, not_true_eq_false, true_and, and_true, false_and, and_false, and_self, true_implies, false_implies, implies_true, Option.toList_some, Option.toList_none, List.cons_append, List.nil_append, Nat.add_eq_zero_iff, a_nl_i, a_nl_r, a_nl_n, true_or, or_true, eq_self, a_isRA_22, a_isRA_24, a_isRA_32, a_isA_20, ok_4, ok_5, ok_6, ok_7, ok_9, ok_20, ok_21, ok_30, ok_50, ok_180, ok_192, ok_200, h6, n8]
  refine ⟨fun h1 => ?_, fun h1 => ?_⟩
  · simp only [q144_154, q144_155, as_nil, as_i, as_r, Nat.reduceAdd, Nat.reduceLeDiff, z_eq0, z_eq1, z_or, z_em, Classical.not_not, not_false_eq_true, not_true_eq_false, true_and, and_true, false_and, and_false, and_self, true_implies, false_implies, implies_true, Option.toList_some, Option.toList_none, List.cons_append, List.nil_append, Nat.add_eq_zero_iff, a_nl_i, a_nl_r, a_nl_n, true_or, or_true, eq_self, a_isRA_22, a_isRA_24, a_isRA_32, a_isA_20, ok_4, ok_5, ok_6, ok_7, ok_9, ok_20, ok_21, ok_30, ok_50, ok_180, ok_192, ok_200]
    exact hP _ _ hZ
  · have h1 : i < m := Int32.not_le.mp h1
    have gn := gn h1
    have ha := gi.resolve_left gn
    have hi30 : i < 30 := by clear hN ih hP; grind
    have ih := ih hi30
    refine ⟨⟨q0, hi30⟩, ?_⟩
    have hp : 0 ≤ J (C + 1) 6 / 8 + 1 ∧ J (C + 1) 6 / 8 + 1 ≤ 210 := now8 hnow
    refine ck_placeFirst ha hT hp (by decide) (fun v2 J2 _ j2 => ?_)
    have z2 := cZ_L hZ j2
    have hT := j2.1
    have e6 : J2 (C + 22) 6 = m := by rw [j2.2 _ _ (by omega) (by omega) (by omega)]; exact h6
    have g4 := (hT.g_ask _ ha).2.2.1
    have hi := fun o u => ih J2 o u (by clear hN ih hP; grind) z2 e6
    have g29 : J2 (R (C + 23) i.toNatClampNeg) 4 < 30 := by clear hi hN ih hP hZ hT z2; grind
    simp only [q144_112, q144_113, q144_114, q144_117, q144_118, q144_121, q144_122, q144_125, q144_126, q144_129, q144_130, q144_133, q144_134, q144_137, q144_138, q144_141, q144_142, q144_145, q144_148, q144_151, k_22 hS, z_22, r_22_4 hS, k_25 hS, l_25 hS, z_25, r_22_5 hS, k_26 hS, l_26 hS, z_26, as_nil, as_i, as_r, Nat.reduceAdd, Nat.reduceLeDiff, z_eq0, z_eq1, z_or, z_em, Classical.not_not, not_false_eq_true, not_true_eq_false, true_and, and_true, false_and, and_false, and_self, true_implies, false_implies, implies_true, Option.toList_some, Option.toList_none, List.cons_append, List.nil_append, Nat.add_eq_zero_iff, a_nl_i, a_nl_r, a_nl_n, true_or, or_true, eq_self, a_isRA_22, a_isRA_24, a_isRA_32, a_isA_20, ok_4, ok_5, ok_6, ok_7, ok_9, ok_20, ok_21, ok_30, ok_50, ok_180, ok_192, ok_200, ha, gn]
    repeat' first
      | with_reducible apply And.intro
      | with_reducible intro _
      | exact hi _ _
      | exact g4.1
      | exact g29
theorem lk_planAgain_7 (hP : ∀ v n t K L J R, cZ C c n0 K0 L0 I0 R0 (n + 1) t K L J R → P (some (.int v)) (n + 1, t, K, L, J, R)) : ∀ i : Int32, i ≤ 30 → ∀ n t K L J R u w, 0 ≤ i → cZ C c n0 K0 L0 I0 R0 (n + 1) t K L J R → J (C + 22) 6 ≤ i → (∀ p, nnP C R (J (C + 22) 6) p) → a_at (d + 7) (a_xm a_m144) 7 [some (a_rf (C + 22)), some (.int i), u, w] [] (n + 1, t, K, L, J, R) P := by
  refine up_ind 30 (fun i hk ih => ?_)
  intro n t K L J R u w q0 hZ h6 hN
  have hT := hZ.2.1.1
  have hS := hT.s
  have gA := hT.g_asksR
  have gB := hT.g_benchesR
  have gX := hT.g_textsR
  have gc := hT.g_asks
  have gi := gA i.toNatClampNeg
  have go := hT.g_orderSize
  have hend := fun w => lk_planAgain_77 (d := d) (m := J (C + 22) 6) go.2 hN (fun v J h => hP v n t K L J R h) 0 (by decide) J 0 w (by decide) hZ rfl
  have hnext : i < 30 → ∀ n t K L J R u w, cZ C c n0 K0 L0 I0 R0 (n + 1) t K L J R → J (C + 22) 6 ≤ i + 1 → (∀ p, nnP C R (J (C + 22) 6) p) → a_at (d + 7) (a_xm a_m144) 67 [some (a_rf (C + 22)), some (.int i), u, w] [] (n + 1, t, K, L, J, R) P := fun hi n t K L J R u w z a6 aN => by
    simp only [q144_67, q144_70, as_nil, as_i, as_r, Nat.reduceAdd, Nat.reduceLeDiff, z_eq0, z_eq1, z_or, z_em, Classical.not_not, not_false_eq_true, not_true_eq_false, true_and, and_true, false_and, and_false, and_self, true_implies, false_implies, implies_true, Option.toList_some, Option.toList_none, List.cons_append, List.nil_append, Nat.add_eq_zero_iff, a_nl_i, a_nl_r, a_nl_n, true_or, or_true, eq_self, a_isRA_22, a_isRA_24, a_isRA_32, a_isA_20, ok_4, ok_5, ok_6, ok_7, ok_9, ok_20, ok_21, ok_30, ok_50, ok_180, ok_192, ok_200]
    exact ih hi n t K L J R u w (by clear hend ih hP; grind) z a6 aN
  rw [q144_7]
  simp only [q144_8, q144_9, q144_12, q144_15, q144_18, q144_19, q144_22, q144_23, k_22 hS, z_22, r_22_0 hS, k_14 hS, z_14, sp_askAt hS gA, as_nil, as_i, as_r, Nat.reduceAdd, Nat.reduceLeDiff, z_eq0, z_eq1, z_or, z_em, Classical.not_not, not_false_eq_true, not_true_eq_false, true_and, and_true, false_and, and_false, and_self, true_implies, false_implies, implies_true, Option.toList_some, Option.toList_none, List.cons_append, List.nil_append, Nat.add_eq_zero_iff, a_nl_i, a_nl_r, a_nl_n, true_or, or_true, eq_self, a_isRA_22, a_isRA_24, a_isRA_32, a_isA_20, ok_4, ok_5, ok_6, ok_7, ok_9, ok_20, ok_21, ok_30, ok_50, ok_180, ok_192, ok_200]
  refine ⟨fun h1 => ?_, fun h1 => ?_⟩
  · simp only [q144_73, q144_74, q144_75, q144_76, as_nil, as_i, as_r, Nat.reduceAdd, Nat.reduceLeDiff, z_eq0, z_eq1, z_or, z_em, Classical.not_not, not_false_eq_true, not_true_eq_false, true_and, and_true, false_and, and_false, and_self, true_implies, false_implies, implies_true, Option.toList_some, Option.toList_none, List.cons_append, List.nil_append, Nat.add_eq_zero_iff, a_nl_i, a_nl_r, a_nl_n, true_or, or_true, eq_self, a_isRA_22, a_isRA_24, a_isRA_32, a_isA_20, ok_4, ok_5, ok_6, ok_7, ok_9, ok_20, ok_21, ok_30, ok_50, ok_180, ok_192, ok_200]
    exact hend _
  · have hi : i < 30 := by clear hend ih hP hnext hN; grind
    have hsame := fun u w => hnext hi n t K L J R u w hZ (by clear hend ih hP hnext hN; grind) hN
    refine ⟨fun h2 => ?_, fun h2 => ?_⟩
    · simp only [q144_26, q144_27, q144_28, as_nil, as_i, as_r, Nat.reduceAdd, Nat.reduceLeDiff, z_eq0, z_eq1, z_or, z_em, Classical.not_not, not_false_eq_true, not_true_eq_false, true_and, and_true, false_and, and_false, and_self, true_implies, false_implies, implies_true, Option.toList_some, Option.toList_none, List.cons_append, List.nil_append, Nat.add_eq_zero_iff, a_nl_i, a_nl_r, a_nl_n, true_or, or_true, eq_self, a_isRA_22, a_isRA_24, a_isRA_32, a_isA_20, ok_4, ok_5, ok_6, ok_7, ok_9, ok_20, ok_21, ok_30, ok_50, ok_180, ok_192, ok_200]
      refine ⟨fun h3 => hsame _ _, fun h3 => ?_⟩
      have ha := gi.resolve_left h3
      have ga := hT.g_ask _ ha
      have na : ¬ R (C + 15) i.toNatClampNeg = C + 25 := by omega
      have nb : ¬ R (C + 15) i.toNatClampNeg = C + 26 := by omega
      simp only [q144_31, q144_32, q144_35, q144_36, q144_37, q144_40, q144_41, q144_42, q144_45, q144_46, q144_47, q144_50, q144_51, q144_52, q144_55, q144_56, k_22 hS, z_22, r_22_4 hS, k_25 hS, l_25 hS, z_25, r_22_5 hS, k_26 hS, l_26 hS, z_26, r_22_0 hS, k_14 hS, z_14, as_nil, as_i, as_r, Nat.reduceAdd, Nat.reduceLeDiff, z_eq0, z_eq1, z_or, z_em, Classical.not_not, not_false_eq_true, not_true_eq_false, true_and, and_true, false_and, and_false, and_self, true_implies, false_implies, implies_true, Option.toList_some, Option.toList_none, List.cons_append, List.nil_append, Nat.add_eq_zero_iff, a_nl_i, a_nl_r, a_nl_n, true_or, or_true, eq_self, a_isRA_22, a_isRA_24, a_isRA_32, a_isA_20, ok_4, ok_5, ok_6, ok_7, ok_9, ok_20, ok_21, ok_30, ok_50, ok_180, ok_192, ok_200, ui_ap, cc_ne, cc_n0, cc_0n, Nat.reduceEqDiff, reduceIte, if_true, if_false, ha, h3, na, nb]
      have z1 := cZ_G hZ (dG_26 (dG_25 (dG_refl hT) (k := i.toNatClampNeg) (v := J (R (C + 15) i.toNatClampNeg) 13)) (k := i.toNatClampNeg) (v := J (R (C + 15) i.toNatClampNeg) 14))
      refine ⟨⟨q0, hi⟩, ⟨q0, hi⟩, ?_⟩
      refine ck_clearUnfit ha z1.2.1 (fun v n' t' K' L' J' R' hH' hQ => ?_)
      have al := kn_lt hZ.2.1.2.1 ha (by decide)
      have hC := hZ.2.1.2.2.1
      have z2 := cZ_Q z1 hQ hH'
      have hS := hH'.1.s
      have ha' : K' (R (C + 15) i.toNatClampNeg) = 1 := by rw [hQ.2.1 _ al]; exact ha
      have k22 : K (C + 22) = 8 := k_22 hT.s
      have k23 : K (C + 23) = 22 := k_23 hT.s
      have e6 : J' (C + 22) 6 = J (C + 22) 6 := by
        rw [hQ.2.2.2.2 _ _ (by omega) (by omega) (by omega) (by omega), ui_ap, if_neg (by omega), ui_ap, if_neg (by omega)]
      have eN : ∀ p, nnP C R' (J' (C + 22) 6) p := fun p j h0 h1 h2 => by
        rw [e6] at h1
        rw [hQ.2.2.2.1 _ _ (by omega) (by rw [k23]; decide)]
        exact hN p j h0 h1 h2
      have h6' : J' (C + 22) 6 ≤ i + 1 := by rw [e6]; clear hend ih hP hnext hN hsame z1 z2 hZ hH' hQ hT; grind
      simp only [q144_59, q144_62, q144_63, q144_64, k_22 hS, z_22, as_nil, as_i, as_r, Nat.reduceAdd, Nat.reduceLeDiff, z_eq0, z_eq1, z_or, z_em, Classical.not_not, not_false_eq_true, not_true_eq_false, true_and, and_true, false_and, and_false, and_self, true_implies, false_implies, implies_true, Option.toList_some, Option.toList_none, List.cons_append, List.nil_append, Nat.add_eq_zero_iff, a_nl_i, a_nl_r, a_nl_n, true_or, or_true, eq_self, a_isRA_22, a_isRA_24, a_isRA_32, a_isA_20, ok_4, ok_5, ok_6, ok_7, ok_9, ok_20, ok_21, ok_30, ok_50, ok_180, ok_192, ok_200, ui_ap, cc_ne, cc_n0, cc_0n, Nat.reduceEqDiff, reduceIte, if_true, if_false, ha', h3]
      refine ⟨fun _ => hnext hi n' t' K' L' J' R' _ _ z2 h6' eN, fun _ => ?_⟩
      refine ck_enter (m := J' (C + 22) 6) ha' z2 rfl (by rw [e6]; clear hend ih hP hnext hN hsame z1 z2 hZ hH' hQ hT; grind) eN (fun J2 R2 z3 a6 a7 aN => ?_)
      exact hnext hi n' t' K' L' J2 R2 _ _ z3 (by rw [a6, e6]; clear hend ih hP hnext hN hsame z1 z2 hZ hH' hQ hT; grind) (by rw [a6]; exact aN)
    · simp only [q144_26, q144_27, q144_28, as_nil, as_i, as_r, Nat.reduceAdd, Nat.reduceLeDiff, z_eq0, z_eq1, z_or, z_em, Classical.not_not, not_false_eq_true, not_true_eq_false, true_and, and_true, false_and, and_false, and_self, true_implies, false_implies, implies_true, Option.toList_some, Option.toList_none, List.cons_append, List.nil_append, Nat.add_eq_zero_iff, a_nl_i, a_nl_r, a_nl_n, true_or, or_true, eq_self, a_isRA_22, a_isRA_24, a_isRA_32, a_isA_20, ok_4, ok_5, ok_6, ok_7, ok_9, ok_20, ok_21, ok_30, ok_50, ok_180, ok_192, ok_200]
      first
        | exact hsame _ _
        | exact ⟨fun _ => hsame _ _, fun h => absurd rfl h⟩
theorem ck_planAgain (hZ : cZ C c n0 K0 L0 I0 R0 (n + 1) t K L I R) (hP : ∀ v n t K L J R, cZ C c n0 K0 L0 I0 R0 (n + 1) t K L J R → P (some (.int v)) (n + 1, t, K, L, J, R)) : a_does (d + 8) 144 [a_rf (C + 22)] (n + 1, t, K, L, I, R) P := by
  have hT := hZ.2.1.1
  have hS := hT.s
  have z : cZ C c n0 K0 L0 I0 R0 (n + 1) t K L (a_ui I (C + 22) 6 0) R := cZ_G hZ (dG_Planner_orderSize (dG_refl hT) (by decide))
  have e6 : a_ui I (C + 22) 6 0 (C + 22) 6 = 0 := by rw [ui_ap, if_pos ⟨rfl, rfl⟩]
  have hl := fun u w => lk_planAgain_7 (d := d) hP 0 (by decide) n t K L _ R u w (by decide) z (by rw [e6]; decide) (by rw [e6]; exact nn_0)
  rw [a_enter1 (M := a_m144) rfl (a_cat_rf a_cat_nil) (show 1 ≤ 4 by decide)]
  show a_at _ (a_xm a_m144) 0 [some (a_rf (C + 22)), none, none, none] [] _ _
  simp only [q144_0, q144_1, q144_2, q144_5, q144_6, k_22 hS, z_22, as_nil, as_i, as_r, Nat.reduceAdd, Nat.reduceLeDiff, z_eq0, z_eq1, z_or, z_em, Classical.not_not, not_false_eq_true, not_true_eq_false, true_and, and_true, false_and, and_false, and_self, true_implies, false_implies, implies_true, Option.toList_some, Option.toList_none, List.cons_append, List.nil_append, Nat.add_eq_zero_iff, a_nl_i, a_nl_r, a_nl_n, true_or, or_true, eq_self, a_isRA_22, a_isRA_24, a_isRA_32, a_isA_20, ok_4, ok_5, ok_6, ok_7, ok_9, ok_20, ok_21, ok_30, ok_50, ok_180, ok_192, ok_200]
  exact hl _ _
end KE
end
section
/-! the class: the best -/
def dB (C : Nat) (K L : Nat → Nat) (R : Nat → Nat → Nat) (I J : Nat → Nat → Int32) : Prop := dG C K L R I J ∧ J (C + 27) 8 = I (C + 27) 8
def bnP (C : Nat) (R : Nat → Nat → Nat) (m : Int32) : Prop := ∀ i : Int32, 0 ≤ i → i < m → ¬ R (C + 28) i.toNatClampNeg = 0
section KF
variable {d n t C c n0 n' n'' t' : Nat} {K L K0 L0 K' L' K'' L'' : Nat → Nat} {I I0 J J0 J1 J2 : Nat → Nat → Int32} {R R0 R' R'' : Nat → Nat → Nat} {P : Option Value → AH → Prop}
theorem dB_refl (h : cT C K L I R) : dB C K L R I I := ⟨dG_refl h, rfl⟩
theorem dB_C (h : dB C K L R I0 I) (h2 : dC C K L R I J) : dB C K L R I0 J := ⟨dG_C h.1 h2, (h2.2 _ _ (by omega) (by omega)).trans h.2⟩
theorem dB_L (h : dB C K L R I0 I) (h2 : dL C K L R I J) : dB C K L R I0 J := ⟨dG_L h.1 h2, (h2.2 _ _ (by omega) (by omega) (by omega)).trans h.2⟩
theorem dB_29 (h : dB C K L R I J) {k : Nat} {v : Int32} : dB C K L R I (a_ui J (C + 29) k v) := ⟨dG_29 h.1, by rw [ui_ap, if_neg (by omega)]; exact h.2⟩
theorem dB_30 (h : dB C K L R I J) {k : Nat} {v : Int32} : dB C K L R I (a_ui J (C + 30) k v) := ⟨dG_30 h.1, by rw [ui_ap, if_neg (by omega)]; exact h.2⟩
theorem dB_31 (h : dB C K L R I J) {k : Nat} {v : Int32} (hv : 0 ≤ v ∧ v ≤ 48) : dB C K L R I (a_ui J (C + 31) k v) := ⟨dG_31 h.1 hv, by rw [ui_ap, if_neg (by omega)]; exact h.2⟩
theorem dB_32 (h : dB C K L R I J) {k : Nat} {v : Int32} : dB C K L R I (a_ui J (C + 32) k v) := ⟨dG_32 h.1, by rw [ui_ap, if_neg (by omega)]; exact h.2⟩
theorem dB_33 (h : dB C K L R I J) {k : Nat} {v : Int32} : dB C K L R I (a_ui J (C + 33) k v) := ⟨dG_33 h.1, by rw [ui_ap, if_neg (by omega)]; exact h.2⟩
theorem dB_sum (h : dB C K L R I J) {v : Int32} : dB C K L R I (a_ui J (C + 27) 9 v) := ⟨dG_Best_sum h.1, by rw [ui_ap, if_neg (by omega)]; exact h.2⟩
theorem sT_34 (h : cT C K L I R) (hJ : ∀ x j, ¬ x = C + 34 → J x j = I x j) : cT C K L J R := by
  exact cT_mk
    (s := h.s)
    (g_now := by rw [hJ _ _ (by omega)]; exact h.g_now)
    (g_trips := by rw [hJ _ _ (by omega)]; exact h.g_trips)
    (g_texts := by rw [hJ _ _ (by omega)]; exact h.g_texts)
    (g_size := by rw [hJ _ _ (by omega)]; exact h.g_size)
    (g_code := by rw [hJ _ _ (by omega)]; exact h.g_code)
    (g_at := by rw [hJ _ _ (by omega)]; exact h.g_at)
    (g_asks := by rw [hJ _ _ (by omega)]; exact h.g_asks)
    (g_benches := by rw [hJ _ _ (by omega)]; exact h.g_benches)
    (g_orderSize := by rw [hJ _ _ (by omega)]; exact h.g_orderSize)
    (g_passed := by rw [hJ _ _ (by omega)]; exact h.g_passed)
    (g_best := by rw [hJ _ _ (by omega)]; exact h.g_best)
    (g_circle := by rw [hJ _ _ (by omega)]; exact h.g_circle)
    (g_row := by rw [hJ _ _ (by omega)]; exact h.g_row)
    (g_rest := by rw [hJ _ _ (by omega)]; exact h.g_rest)
    (g_lost := fun j => by rw [hJ _ _ (by omega)]; exact h.g_lost j)
    (g_spots := fun j => by rw [hJ _ _ (by omega)]; exact h.g_spots j)
    (g_ask := fun a ha => by
      have q := h.g_ask a ha
      rw [hJ _ _ (by omega), hJ _ _ (by omega), hJ _ _ (by omega), hJ _ _ (by omega)]
      exact q)
    (g_bnc := fun b hb => by
      have q := h.g_bnc b hb
      rw [hJ _ _ (by omega)]
      exact q)
    (g_txt := h.g_txt) (g_asksR := h.g_asksR)
    (g_asksN := fun i h0 h1 => by rw [hJ _ _ (by omega)] at h1; exact h.g_asksN i h0 h1)
    (g_benchesR := h.g_benchesR) (g_textsR := h.g_textsR) (g_orderR := h.g_orderR) (g_bestR := h.g_bestR) (g_ringR := h.g_ringR) (g_draft := h.g_draft)
    (g_benN := fun j h1 => by rw [hJ _ _ (by omega)] at h1; exact h.g_benN j h1)
    (g_benY := fun j h1 => by rw [hJ _ _ (by omega)] at h1; exact h.g_benY j h1)
theorem dB_34 (h : dB C K L R I J) {a sp dp m : Nat} : dB C K L R I (a_ci J a (C + 34) sp dp m) := ⟨⟨sT_34 h.1.1 (fun x j e => ci_ne e), fun x j p => by rw [ci_ne (by unfold eD at p; omega)]; exact h.1.2 x j p⟩, by rw [ci_ne (by omega)]; exact h.2⟩
theorem ix48 {i c : Int32} (h : 0 ≤ i ∧ i < 4) (hc : 0 ≤ c ∧ c < 48) : 0 ≤ i * 48 + c ∧ i * 48 + c < 192 := by
  have c0 : (0 : Int32).toInt = 0 := rfl
  have c4 : (4 : Int32).toInt = 4 := rfl
  have c48 : (48 : Int32).toInt = 48 := rfl
  have c192 : (192 : Int32).toInt = 192 := rfl
  have e0 := Int32.le_iff_toInt_le.mp h.1
  have e1 := Int32.lt_iff_toInt_lt.mp h.2
  have e2 := Int32.le_iff_toInt_le.mp hc.1
  have e3 := Int32.lt_iff_toInt_lt.mp hc.2
  have em : (i * 48).toInt = i.toInt * 48 := by
    rw [Int32.toInt_mul, c48]
    simp only [Int.bmod_def]
    omega
  have e : (i * 48 + c).toInt = i.toInt * 48 + c.toInt := by rw [ti_add (by omega), em]
  exact ⟨by rw [Int32.le_iff_toInt_le]; omega, by rw [Int32.lt_iff_toInt_lt]; omega⟩
theorem ck_worth {i : Int32} (hi : 0 ≤ i ∧ i < 4) (hn : ¬ R (C + 28) i.toNatClampNeg = 0) (hT : cT C K L I R) (hP : ∀ v, P (some (.int v)) (n, t, K, L, I, R)) : a_does (d + 2) 137 [a_rf (C + 27), .int i] (n, t, K, L, I, R) P := by
  have hS := hT.s
  have ha := (hT.g_bestR i.toNatClampNeg).resolve_left hn
  rw [a_enter1 (M := a_m137) rfl (a_cat_rf (a_cat_int a_cat_nil)) (show 2 ≤ 2 by decide)]
  show a_at _ (a_xm a_m137) 0 [some (a_rf (C + 27)), some (.int i)] [] _ _
  repeat' first
    | with_reducible apply And.intro
    | with_reducible assumption
    | with_reducible intro _
    | with_reducible apply hP
    | simp only [q137_0, q137_1, q137_2, q137_5, q137_6, q137_7, q137_10, q137_13, k_27 hS, z_27, r_27_1 hS, k_28 hS, l_28 hS, z_28, sp_max, as_nil, as_i, as_r, Nat.reduceAdd, Nat.reduceLeDiff, z_eq0, z_eq1, z_or, z_em, Classical.not_not, not_false_eq_true, not_true_eq_false, true_and, and_true, false_and, and_false, and_self, true_implies, false_implies, implies_true, Option.toList_some, Option.toList_none, List.cons_append, List.nil_append, Nat.add_eq_zero_iff, a_nl_i, a_nl_r, a_nl_n, true_or, or_true, eq_self, a_isRA_22, a_isRA_24, a_isRA_32, a_isA_20, ok_4, ok_5, ok_6, ok_7, ok_9, ok_20, ok_21, ok_30, ok_50, ok_180, ok_192, ok_200, ha, hn]
  all_goals grind [ui_ap]
theorem lk_collectIn_10 {i : Int32} (hi : 0 ≤ i ∧ i < 4) (hn : ¬ R (C + 28) i.toNatClampNeg = 0) {s : Int32} (hP : ∀ J, dB C K L R I0 J → P none (n, t, K, L, J, R)) : ∀ b : Int32, b ≤ 6 → ∀ J u w, 0 ≤ b → dB C K L R I0 J → a_at (d + 6) (a_xm a_m134) 10 [some (a_rf (C + 27)), some (.int i), some (.int s), some (a_rf (R (C + 28) i.toNatClampNeg)), some (.int b), u, w] [] (n, t, K, L, J, R) P := by
  refine up_ind 6 (fun b hk ih => ?_)
  intro J u w q0 hB
  have hT := hB.1.1
  have hS := hT.s
  have ha := (hT.g_bestR i.toNatClampNeg).resolve_left hn
  have gc := hT.g_benches
  have hnext : b < 6 → ∀ J u w, dB C K L R I0 J → a_at (d + 6) (a_xm a_m134) 125 [some (a_rf (C + 27)), some (.int i), some (.int s), some (a_rf (R (C + 28) i.toNatClampNeg)), some (.int b), u, w] [] (n, t, K, L, J, R) P := fun h J u w hJ => by
    simp only [q134_125, q134_128, as_nil, as_i, as_r, Nat.reduceAdd, Nat.reduceLeDiff, z_eq0, z_eq1, z_or, z_em, Classical.not_not, not_false_eq_true, not_true_eq_false, true_and, and_true, false_and, and_false, and_self, true_implies, false_implies, implies_true, Option.toList_some, Option.toList_none, List.cons_append, List.nil_append, Nat.add_eq_zero_iff, a_nl_i, a_nl_r, a_nl_n, true_or, or_true, eq_self, a_isRA_22, a_isRA_24, a_isRA_32, a_isA_20, ok_4, ok_5, ok_6, ok_7, ok_9, ok_20, ok_21, ok_30, ok_50, ok_180, ok_192, ok_200]
    exact ih h J u w (by clear ih hP; grind) hJ
  rw [q134_10]
  simp only [q134_12, q134_13, q134_16, q134_19, q134_22, q134_23, q134_26, q134_27, q134_29, q134_30, k_27 hS, z_27, r_27_0 hS, k_14 hS, z_14, as_nil, as_i, as_r, Nat.reduceAdd, Nat.reduceLeDiff, z_eq0, z_eq1, z_or, z_em, Classical.not_not, not_false_eq_true, not_true_eq_false, true_and, and_true, false_and, and_false, and_self, true_implies, false_implies, implies_true, Option.toList_some, Option.toList_none, List.cons_append, List.nil_append, Nat.add_eq_zero_iff, a_nl_i, a_nl_r, a_nl_n, true_or, or_true, eq_self, a_isRA_22, a_isRA_24, a_isRA_32, a_isA_20, ok_4, ok_5, ok_6, ok_7, ok_9, ok_20, ok_21, ok_30, ok_50, ok_180, ok_192, ok_200, ha, hn]
  refine ⟨fun h1 => ?_, fun h1 => ?_⟩
  · simp only [q134_131, as_nil, as_i, as_r, Nat.reduceAdd, Nat.reduceLeDiff, z_eq0, z_eq1, z_or, z_em, Classical.not_not, not_false_eq_true, not_true_eq_false, true_and, and_true, false_and, and_false, and_self, true_implies, false_implies, implies_true, Option.toList_some, Option.toList_none, List.cons_append, List.nil_append, Nat.add_eq_zero_iff, a_nl_i, a_nl_r, a_nl_n, true_or, or_true, eq_self, a_isRA_22, a_isRA_24, a_isRA_32, a_isA_20, ok_4, ok_5, ok_6, ok_7, ok_9, ok_20, ok_21, ok_30, ok_50, ok_180, ok_192, ok_200]
    exact hP J hB
  · have hb : b < 6 := by clear ih hP hnext; grind
    have hnext := hnext hb
    refine ck_suits ha hT (fun v J1 j1 => ?_)
    have b1 := dB_C hB j1
    have hT1 := j1.1
    have g31 := hT1.g_spots i.toNatClampNeg
    simp only [q134_33, q134_36, q134_37, q134_40, q134_41, q134_42, q134_44, q134_47, q134_50, q134_51, q134_54, q134_55, q134_57, q134_58, k_27 hS, z_27, r_27_4 hS, k_31 hS, l_31 hS, z_31, r_27_0 hS, k_14 hS, z_14, as_nil, as_i, as_r, Nat.reduceAdd, Nat.reduceLeDiff, z_eq0, z_eq1, z_or, z_em, Classical.not_not, not_false_eq_true, not_true_eq_false, true_and, and_true, false_and, and_false, and_self, true_implies, false_implies, implies_true, Option.toList_some, Option.toList_none, List.cons_append, List.nil_append, Nat.add_eq_zero_iff, a_nl_i, a_nl_r, a_nl_n, true_or, or_true, eq_self, a_isRA_22, a_isRA_24, a_isRA_32, a_isA_20, ok_4, ok_5, ok_6, ok_7, ok_9, ok_20, ok_21, ok_30, ok_50, ok_180, ok_192, ok_200, ha, hn]
    refine ⟨fun _ => hnext J1 u w b1, fun _ => ⟨hi, fun h3 => ?_, fun h3 => ?_⟩⟩
    · refine ck_watchOf ha hT1 (fun v2 J2 j2 => ?_)
      have b2 := dB_C b1 j2
      have hT2 := j2.1
      have e31 : J2 (C + 31) i.toNatClampNeg = J1 (C + 31) i.toNatClampNeg := j2.2 _ _ (by omega) (by omega)
      have hx := ix48 hi (c := J1 (C + 31) i.toNatClampNeg) ⟨g31.1, h3⟩
      simp only [q134_61, q134_63, q134_64, q134_67, q134_68, q134_70, q134_71, q134_73, k_27 hS, z_27, r_27_0 hS, k_14 hS, z_14, as_nil, as_i, as_r, Nat.reduceAdd, Nat.reduceLeDiff, z_eq0, z_eq1, z_or, z_em, Classical.not_not, not_false_eq_true, not_true_eq_false, true_and, and_true, false_and, and_false, and_self, true_implies, false_implies, implies_true, Option.toList_some, Option.toList_none, List.cons_append, List.nil_append, Nat.add_eq_zero_iff, a_nl_i, a_nl_r, a_nl_n, true_or, or_true, eq_self, a_isRA_22, a_isRA_24, a_isRA_32, a_isA_20, ok_4, ok_5, ok_6, ok_7, ok_9, ok_20, ok_21, ok_30, ok_50, ok_180, ok_192, ok_200, ha, hn]
      refine ck_isOpen ha hT2 (fun v3 _ => ?_)
      have bf := dB_31 (dB_30 (dB_29 b2 (k := (i * 48 + J1 (C + 31) i.toNatClampNeg).toNatClampNeg) (v := 8 * s + b)) (k := (i * 48 + J1 (C + 31) i.toNatClampNeg).toNatClampNeg) (v := v2)) (k := i.toNatClampNeg) (v := J1 (C + 31) i.toNatClampNeg + 1) (by clear ih hP hnext hT hT1 hT2 hB b1 b2; grind)
      simp only [q134_76, q134_79, q134_80, q134_82, q134_83, q134_84, q134_87, q134_88, q134_89, q134_90, q134_92, q134_93, q134_96, q134_98, q134_100, q134_101, q134_102, q134_104, q134_105, q134_106, q134_107, q134_110, q134_112, q134_114, q134_115, q134_116, q134_119, q134_120, q134_121, q134_122, q134_123, q134_124, k_27 hS, z_27, r_27_4 hS, k_31 hS, l_31 hS, z_31, r_27_2 hS, k_29 hS, l_29 hS, z_29, r_27_3 hS, k_30 hS, l_30 hS, z_30, as_nil, as_i, as_r, Nat.reduceAdd, Nat.reduceLeDiff, z_eq0, z_eq1, z_or, z_em, Classical.not_not, not_false_eq_true, not_true_eq_false, true_and, and_true, false_and, and_false, and_self, true_implies, false_implies, implies_true, Option.toList_some, Option.toList_none, List.cons_append, List.nil_append, Nat.add_eq_zero_iff, a_nl_i, a_nl_r, a_nl_n, true_or, or_true, eq_self, a_isRA_22, a_isRA_24, a_isRA_32, a_isA_20, ok_4, ok_5, ok_6, ok_7, ok_9, ok_20, ok_21, ok_30, ok_50, ok_180, ok_192, ok_200, ui_ap, cc_ne, cc_n0, cc_0n, Nat.reduceEqDiff, reduceIte, if_true, if_false, e31]
      repeat' first
        | with_reducible apply And.intro
        | with_reducible intro _
        | exact hi.1
        | exact hi.2
        | exact hx.1
        | exact hx.2
        | exact hnext _ _ _ bf
        | exact hnext _ _ _ b2
    · exact hnext J1 u w b1
theorem ck_collectIn {i : Int32} (hi : 0 ≤ i ∧ i < 4) (hn : ¬ R (C + 28) i.toNatClampNeg = 0) (hB : dB C K L R I0 I) {s : Int32} (hP : ∀ J, dB C K L R I0 J → P none (n, t, K, L, J, R)) : a_does (d + 7) 134 [a_rf (C + 27), .int i, .int s] (n, t, K, L, I, R) P := by
  have hT := hB.1.1
  have hS := hT.s
  have ha := (hT.g_bestR i.toNatClampNeg).resolve_left hn
  have hl := fun u w => lk_collectIn_10 (d := d) hi hn (s := s) hP 0 (by decide) I u w (by decide) hB
  rw [a_enter1 (M := a_m134) rfl (a_cat_rf (a_cat_int (a_cat_int a_cat_nil))) (show 3 ≤ 7 by decide)]
  show a_at _ (a_xm a_m134) 0 [some (a_rf (C + 27)), some (.int i), some (.int s), none, none, none, none] [] _ _
  simp only [q134_0, q134_1, q134_4, q134_5, q134_6, q134_7, q134_8, k_27 hS, z_27, r_27_1 hS, k_28 hS, l_28 hS, z_28, as_nil, as_i, as_r, Nat.reduceAdd, Nat.reduceLeDiff, z_eq0, z_eq1, z_or, z_em, Classical.not_not, not_false_eq_true, not_true_eq_false, true_and, and_true, false_and, and_false, and_self, true_implies, false_implies, implies_true, Option.toList_some, Option.toList_none, List.cons_append, List.nil_append, Nat.add_eq_zero_iff, a_nl_i, a_nl_r, a_nl_n, true_or, or_true, eq_self, a_isRA_22, a_isRA_24, a_isRA_32, a_isA_20, ok_4, ok_5, ok_6, ok_7, ok_9, ok_20, ok_21, ok_30, ok_50, ok_180, ok_192, ok_200]
  exact ⟨hi, hl _ _⟩
theorem lk_collect_47 {i : Int32} (hi : 0 ≤ i ∧ i < 4) (hn : ¬ R (C + 28) i.toNatClampNeg = 0) {p q r w : Int32} (hq : q ≤ 199) (hP : ∀ J, dB C K L R I0 J → P none (n, t, K, L, J, R)) : ∀ s : Int32, s ≤ 210 → ∀ J, 0 ≤ s → dB C K L R I0 J → a_at (d + 7) (a_xm a_m133) 47 [some (a_rf (C + 27)), some (.int i), some (.int p), some (.int q), some (.int r), some (a_rf (R (C + 28) i.toNatClampNeg)), some (.int w), some (.int s)] [] (n, t, K, L, J, R) P := by
  refine up_ind 210 (fun s hk ih => ?_)
  intro J q0 hB
  have hT := hB.1.1
  have hS := hT.s
  have ha := (hT.g_bestR i.toNatClampNeg).resolve_left hn
  have a2 := (hT.g_ask _ ha).2.1
  rw [q133_47]
  simp only [q133_49, q133_51, q133_54, q133_55, q133_56, q133_57, q133_58, k_27 hS, z_27, as_nil, as_i, as_r, Nat.reduceAdd, Nat.reduceLeDiff, z_eq0, z_eq1, z_or, z_em, Classical.not_not, not_false_eq_true, not_true_eq_false, true_and, and_true, false_and, and_false, and_self, true_implies, false_implies, implies_true, Option.toList_some, Option.toList_none, List.cons_append, List.nil_append, Nat.add_eq_zero_iff, a_nl_i, a_nl_r, a_nl_n, true_or, or_true, eq_self, a_isRA_22, a_isRA_24, a_isRA_32, a_isA_20, ok_4, ok_5, ok_6, ok_7, ok_9, ok_20, ok_21, ok_30, ok_50, ok_180, ok_192, ok_200, ha, hn]
  refine ⟨fun h1 => ?_, fun h1 => ?_⟩
  · simp only [q133_93, as_nil, as_i, as_r, Nat.reduceAdd, Nat.reduceLeDiff, z_eq0, z_eq1, z_or, z_em, Classical.not_not, not_false_eq_true, not_true_eq_false, true_and, and_true, false_and, and_false, and_self, true_implies, false_implies, implies_true, Option.toList_some, Option.toList_none, List.cons_append, List.nil_append, Nat.add_eq_zero_iff, a_nl_i, a_nl_r, a_nl_n, true_or, or_true, eq_self, a_isRA_22, a_isRA_24, a_isRA_32, a_isA_20, ok_4, ok_5, ok_6, ok_7, ok_9, ok_20, ok_21, ok_30, ok_50, ok_180, ok_192, ok_200]
    exact hP J hB
  · obtain ⟨g1, g2⟩ := pf_next q0 hk a2 hq h1
    have ih := ih g1
    have hnext : ∀ J, dB C K L R I0 J → a_at (d + 7) (a_xm a_m133) 87 [some (a_rf (C + 27)), some (.int i), some (.int p), some (.int q), some (.int r), some (a_rf (R (C + 28) i.toNatClampNeg)), some (.int w), some (.int s)] [] (n, t, K, L, J, R) P := fun J hJ => by
      simp only [q133_87, q133_90, as_nil, as_i, as_r, Nat.reduceAdd, Nat.reduceLeDiff, z_eq0, z_eq1, z_or, z_em, Classical.not_not, not_false_eq_true, not_true_eq_false, true_and, and_true, false_and, and_false, and_self, true_implies, false_implies, implies_true, Option.toList_some, Option.toList_none, List.cons_append, List.nil_append, Nat.add_eq_zero_iff, a_nl_i, a_nl_r, a_nl_n, true_or, or_true, eq_self, a_isRA_22, a_isRA_24, a_isRA_32, a_isA_20, ok_4, ok_5, ok_6, ok_7, ok_9, ok_20, ok_21, ok_30, ok_50, ok_180, ok_192, ok_200]
      exact ih J g2 hJ
    have hc : a_at (d + 7) (a_xm a_m133) 80 [some (a_rf (C + 27)), some (.int i), some (.int p), some (.int q), some (.int r), some (a_rf (R (C + 28) i.toNatClampNeg)), some (.int w), some (.int s)] [] (n, t, K, L, J, R) P := by
      simp only [q133_80, q133_81, q133_82, q133_84, k_27 hS, z_27, as_nil, as_i, as_r, Nat.reduceAdd, Nat.reduceLeDiff, z_eq0, z_eq1, z_or, z_em, Classical.not_not, not_false_eq_true, not_true_eq_false, true_and, and_true, false_and, and_false, and_self, true_implies, false_implies, implies_true, Option.toList_some, Option.toList_none, List.cons_append, List.nil_append, Nat.add_eq_zero_iff, a_nl_i, a_nl_r, a_nl_n, true_or, or_true, eq_self, a_isRA_22, a_isRA_24, a_isRA_32, a_isA_20, ok_4, ok_5, ok_6, ok_7, ok_9, ok_20, ok_21, ok_30, ok_50, ok_180, ok_192, ok_200]
      exact ck_collectIn hi hn hB hnext
    simp only [q133_61, q133_63, q133_66, q133_67, q133_70, q133_72, q133_74, k_27 hS, z_27, r_27_0 hS, k_14 hS, z_14, as_nil, as_i, as_r, Nat.reduceAdd, Nat.reduceLeDiff, z_eq0, z_eq1, z_or, z_em, Classical.not_not, not_false_eq_true, not_true_eq_false, true_and, and_true, false_and, and_false, and_self, true_implies, false_implies, implies_true, Option.toList_some, Option.toList_none, List.cons_append, List.nil_append, Nat.add_eq_zero_iff, a_nl_i, a_nl_r, a_nl_n, true_or, or_true, eq_self, a_isRA_22, a_isRA_24, a_isRA_32, a_isA_20, ok_4, ok_5, ok_6, ok_7, ok_9, ok_20, ok_21, ok_30, ok_50, ok_180, ok_192, ok_200, ha, hn]
    refine ⟨fun _ => hc, fun _ => ck_isTooNear ha hT (fun v => ?_)⟩
    simp only [q133_77, as_nil, as_i, as_r, Nat.reduceAdd, Nat.reduceLeDiff, z_eq0, z_eq1, z_or, z_em, Classical.not_not, not_false_eq_true, not_true_eq_false, true_and, and_true, false_and, and_false, and_self, true_implies, false_implies, implies_true, Option.toList_some, Option.toList_none, List.cons_append, List.nil_append, Nat.add_eq_zero_iff, a_nl_i, a_nl_r, a_nl_n, true_or, or_true, eq_self, a_isRA_22, a_isRA_24, a_isRA_32, a_isA_20, ok_4, ok_5, ok_6, ok_7, ok_9, ok_20, ok_21, ok_30, ok_50, ok_180, ok_192, ok_200]
    exact ⟨fun _ => hnext J hB, fun _ => hc⟩
theorem ck_collect {i : Int32} (hi : 0 ≤ i ∧ i < 4) (hn : ¬ R (C + 28) i.toNatClampNeg = 0) (hB : dB C K L R I0 I) {p q r : Int32} (hp : 0 ≤ p ∧ p ≤ 210) (hq : q ≤ 199) (hP : ∀ J, dB C K L R I0 J → P none (n, t, K, L, J, R)) : a_does (d + 8) 133 [a_rf (C + 27), .int i, .int p, .int q, .int r] (n, t, K, L, I, R) P := by
  have hT := hB.1.1
  have hS := hT.s
  have ha := (hT.g_bestR i.toNatClampNeg).resolve_left hn
  have hB1 := dB_31 (k := i.toNatClampNeg) (v := 0) hB (by decide)
  have hl := fun w => lk_collect_47 (d := d) hi hn (p := p) (r := r) (w := w) hq hP p hp.2 _ hp.1 hB1
  have g := (hT.g_ask _ ha).1
  have na : ¬ R (C + 28) i.toNatClampNeg = C + 31 := by omega
  rw [a_enter1 (M := a_m133) rfl (a_cat_rf (a_cat_int (a_cat_int (a_cat_int (a_cat_int a_cat_nil))))) (show 5 ≤ 8 by decide)]
  show a_at _ (a_xm a_m133) 0 [some (a_rf (C + 27)), some (.int i), some (.int p), some (.int q), some (.int r), none, none, none] [] _ _
  repeat' first
    | with_reducible apply And.intro
    | with_reducible assumption
    | with_reducible intro _
    | with_reducible apply hl
    | with_reducible apply ck_isIn
    | simp only [q133_0, q133_1, q133_4, q133_5, q133_6, q133_8, q133_9, q133_12, q133_13, q133_14, q133_15, q133_17, q133_20, q133_21, q133_24, q133_26, q133_28, q133_31, q133_34, q133_37, q133_38, q133_41, q133_42, q133_44, q133_45, k_27 hS, z_27, r_27_1 hS, k_28 hS, l_28 hS, z_28, r_27_4 hS, k_31 hS, l_31 hS, z_31, as_nil, as_i, as_r, Nat.reduceAdd, Nat.reduceLeDiff, z_eq0, z_eq1, z_or, z_em, Classical.not_not, not_false_eq_true, not_true_eq_false, true_and, and_true, false_and, and_false, and_self, true_implies, false_implies, implies_true, Option.toList_some, Option.toList_none, List.cons_append, List.nil_append, Nat.add_eq_zero_iff, a_nl_i, a_nl_r, a_nl_n, true_or, or_true, eq_self, a_isRA_22, a_isRA_24, a_isRA_32, a_isA_20, ok_4, ok_5, ok_6, ok_7, ok_9, ok_20, ok_21, ok_30, ok_50, ok_180, ok_192, ok_200, ha, hn, na, ui_ap, cc_ne, cc_n0, cc_0n, Nat.reduceEqDiff, reduceIte, if_true, if_false]
  all_goals ((try clear ih); (try clear hP); (try clear hl); (try clear hq); (try clear a3); grind [ui_ap])
def kEX (C n t : Nat) (K L : Nat → Nat) (R : Nat → Nat → Nat) (I0 : Nat → Nat → Int32) (z : Nat) : Prop := ∀ (at_ : Int32) (sf : Int32) (I : Nat → Nat → Int32) (D : Nat) (P : Option Value → AH → Prop), 0 ≤ at_ → at_.toInt + z = (I0 (C + 27) 8).toInt → z + 20 ≤ D → dB C K L R I0 I → (∀ J, dB C K L R I0 J → P none (n, t, K, L, J, R)) → a_does D 138 [a_rf (C + 27), .int at_, .int sf] (n, t, K, L, I, R) P
theorem lk_extend_71 {E : Nat} {i sf w : Int32} (hi : 0 ≤ i ∧ i < 4) (hn : ¬ R (C + 28) i.toNatClampNeg = 0) (hr : ∀ (sf : Int32) (J : Nat → Nat → Int32) (P : Option Value → AH → Prop), dB C K L R I0 J → (∀ J, dB C K L R I0 J → P none (n, t, K, L, J, R)) → a_does (E + 19) 138 [a_rf (C + 27), .int (i + 1), .int sf] (n, t, K, L, J, R) P) (hP : ∀ J, dB C K L R I0 J → P none (n, t, K, L, J, R)) : ∀ k : Int32, k ≤ 48 → ∀ J u1 u2, 0 ≤ k → dB C K L R I0 J → a_at (E + 19) (a_xm a_m138) 71 [some (a_rf (C + 27)), some (.int i), some (.int sf), some (a_rf (R (C + 28) i.toNatClampNeg)), some (.int w), some (.int k), u1, u2] [] (n, t, K, L, J, R) P := by
  refine up_ind 48 (fun k hk ih => ?_)
  intro J u1 u2 q0 hB
  have hT := hB.1.1
  have hS := hT.s
  have ha := (hT.g_bestR i.toNatClampNeg).resolve_left hn
  have g31 := hT.g_spots i.toNatClampNeg
  have n8 : ¬ (8 : Int32) = 0 := by decide
  have hi5 : 0 ≤ i + 1 ∧ i + 1 < 5 := by clear hr hP ih; grind
  have hend : ∀ u1 u2, a_at (E + 19) (a_xm a_m138) 218 [some (a_rf (C + 27)), some (.int i), some (.int sf), some (a_rf (R (C + 28) i.toNatClampNeg)), some (.int w), some (.int k), u1, u2] [] (n, t, K, L, J, R) P := fun u1 u2 => by
    simp only [q138_218, q138_219, q138_222, q138_223, q138_225, q138_226, q138_227, q138_228, q138_229, q138_230, q138_231, k_27 hS, z_27, r_27_6 hS, k_33 hS, l_33 hS, z_33, as_nil, as_i, as_r, Nat.reduceAdd, Nat.reduceLeDiff, z_eq0, z_eq1, z_or, z_em, Classical.not_not, not_false_eq_true, not_true_eq_false, true_and, and_true, false_and, and_false, and_self, true_implies, false_implies, implies_true, Option.toList_some, Option.toList_none, List.cons_append, List.nil_append, Nat.add_eq_zero_iff, a_nl_i, a_nl_r, a_nl_n, true_or, or_true, eq_self, a_isRA_22, a_isRA_24, a_isRA_32, a_isA_20, ok_4, ok_5, ok_6, ok_7, ok_9, ok_20, ok_21, ok_30, ok_50, ok_180, ok_192, ok_200, ui_ap, cc_ne, cc_n0, cc_0n, Nat.reduceEqDiff, reduceIte, if_true, if_false]
    refine ⟨hi, hr _ _ _ (dB_33 hB) (fun J2 b2 => ?_)⟩
    simp only [q138_234, as_nil, as_i, as_r, Nat.reduceAdd, Nat.reduceLeDiff, z_eq0, z_eq1, z_or, z_em, Classical.not_not, not_false_eq_true, not_true_eq_false, true_and, and_true, false_and, and_false, and_self, true_implies, false_implies, implies_true, Option.toList_some, Option.toList_none, List.cons_append, List.nil_append, Nat.add_eq_zero_iff, a_nl_i, a_nl_r, a_nl_n, true_or, or_true, eq_self, a_isRA_22, a_isRA_24, a_isRA_32, a_isA_20, ok_4, ok_5, ok_6, ok_7, ok_9, ok_20, ok_21, ok_30, ok_50, ok_180, ok_192, ok_200, ui_ap, cc_ne, cc_n0, cc_0n, Nat.reduceEqDiff, reduceIte, if_true, if_false]
    exact hP J2 b2
  have hnext : k < 48 → ∀ J u1 u2, dB C K L R I0 J → a_at (E + 19) (a_xm a_m138) 212 [some (a_rf (C + 27)), some (.int i), some (.int sf), some (a_rf (R (C + 28) i.toNatClampNeg)), some (.int w), some (.int k), u1, u2] [] (n, t, K, L, J, R) P := fun h J u1 u2 hJ => by
    simp only [q138_212, q138_215, as_nil, as_i, as_r, Nat.reduceAdd, Nat.reduceLeDiff, z_eq0, z_eq1, z_or, z_em, Classical.not_not, not_false_eq_true, not_true_eq_false, true_and, and_true, false_and, and_false, and_self, true_implies, false_implies, implies_true, Option.toList_some, Option.toList_none, List.cons_append, List.nil_append, Nat.add_eq_zero_iff, a_nl_i, a_nl_r, a_nl_n, true_or, or_true, eq_self, a_isRA_22, a_isRA_24, a_isRA_32, a_isA_20, ok_4, ok_5, ok_6, ok_7, ok_9, ok_20, ok_21, ok_30, ok_50, ok_180, ok_192, ok_200]
    exact ih h J u1 u2 (by clear hr ih hP; grind) hJ
  rw [q138_71]
  simp only [q138_73, q138_74, q138_77, q138_78, q138_79, q138_82, q138_84, q138_85, q138_88, q138_89, q138_90, q138_91, q138_92, q138_93, q138_94, q138_97, k_27 hS, z_27, r_27_4 hS, k_31 hS, l_31 hS, z_31, r_27_5 hS, k_32 hS, l_32 hS, z_32, as_nil, as_i, as_r, Nat.reduceAdd, Nat.reduceLeDiff, z_eq0, z_eq1, z_or, z_em, Classical.not_not, not_false_eq_true, not_true_eq_false, true_and, and_true, false_and, and_false, and_self, true_implies, false_implies, implies_true, Option.toList_some, Option.toList_none, List.cons_append, List.nil_append, Nat.add_eq_zero_iff, a_nl_i, a_nl_r, a_nl_n, true_or, or_true, eq_self, a_isRA_22, a_isRA_24, a_isRA_32, a_isA_20, ok_4, ok_5, ok_6, ok_7, ok_9, ok_20, ok_21, ok_30, ok_50, ok_180, ok_192, ok_200]
  refine ⟨hi, fun h1 => hend _ _, fun h1 => ⟨hi5, fun h2 => hend _ _, fun h2 => ?_⟩⟩
  have hk8 : k < 48 := by clear hr ih hP hend hnext; grind
  have hx := ix48 hi (c := k) ⟨q0, hk8⟩
  have hnext := hnext hk8
  simp only [q138_100, q138_101, q138_104, q138_105, q138_107, q138_108, q138_110, q138_111, q138_112, q138_114, q138_115, q138_118, q138_119, q138_121, q138_122, q138_124, q138_125, q138_126, q138_128, q138_129, q138_132, q138_133, q138_135, q138_137, q138_138, k_27 hS, z_27, r_27_2 hS, k_29 hS, l_29 hS, z_29, r_27_3 hS, k_30 hS, l_30 hS, z_30, r_27_0 hS, k_14 hS, z_14, as_nil, as_i, as_r, Nat.reduceAdd, Nat.reduceLeDiff, z_eq0, z_eq1, z_or, z_em, Classical.not_not, not_false_eq_true, not_true_eq_false, true_and, and_true, false_and, and_false, and_self, true_implies, false_implies, implies_true, Option.toList_some, Option.toList_none, List.cons_append, List.nil_append, Nat.add_eq_zero_iff, a_nl_i, a_nl_r, a_nl_n, true_or, or_true, eq_self, a_isRA_22, a_isRA_24, a_isRA_32, a_isA_20, ok_4, ok_5, ok_6, ok_7, ok_9, ok_20, ok_21, ok_30, ok_50, ok_180, ok_192, ok_200, ha, hn, n8]
  refine ⟨hx, hx, ?_⟩
  refine ck_isTooNear ha hT (fun v => ?_)
  simp only [q138_141, q138_144, q138_145, q138_148, q138_149, q138_151, q138_153, q138_154, q138_156, q138_158, q138_159, q138_161, k_27 hS, z_27, r_27_0 hS, k_14 hS, z_14, as_nil, as_i, as_r, Nat.reduceAdd, Nat.reduceLeDiff, z_eq0, z_eq1, z_or, z_em, Classical.not_not, not_false_eq_true, not_true_eq_false, true_and, and_true, false_and, and_false, and_self, true_implies, false_implies, implies_true, Option.toList_some, Option.toList_none, List.cons_append, List.nil_append, Nat.add_eq_zero_iff, a_nl_i, a_nl_r, a_nl_n, true_or, or_true, eq_self, a_isRA_22, a_isRA_24, a_isRA_32, a_isA_20, ok_4, ok_5, ok_6, ok_7, ok_9, ok_20, ok_21, ok_30, ok_50, ok_180, ok_192, ok_200, ha, hn, n8]
  refine ⟨fun _ => hnext _ _ _ hB, fun _ => ?_⟩
  refine ck_isOpen ha hT (fun v2 hf => ?_)
  simp only [q138_164, q138_167, q138_168, q138_171, q138_172, q138_174, q138_176, q138_177, q138_179, q138_181, q138_182, q138_184, k_27 hS, z_27, r_27_0 hS, k_14 hS, z_14, as_nil, as_i, as_r, Nat.reduceAdd, Nat.reduceLeDiff, z_eq0, z_eq1, z_or, z_em, Classical.not_not, not_false_eq_true, not_true_eq_false, true_and, and_true, false_and, and_false, and_self, true_implies, false_implies, implies_true, Option.toList_some, Option.toList_none, List.cons_append, List.nil_append, Nat.add_eq_zero_iff, a_nl_i, a_nl_r, a_nl_n, true_or, or_true, eq_self, a_isRA_22, a_isRA_24, a_isRA_32, a_isA_20, ok_4, ok_5, ok_6, ok_7, ok_9, ok_20, ok_21, ok_30, ok_50, ok_180, ok_192, ok_200, ha, hn, n8]
  refine ⟨fun _ => hnext _ _ _ hB, fun h3 => ?_⟩
  refine ck_lay ha hT (hf h3) (fun J2 j2 => ?_)
  have b2 := dB_L hB j2
  simp only [q138_187, q138_188, q138_191, q138_192, q138_194, q138_195, q138_196, q138_197, q138_198, q138_199, q138_201, k_27 hS, z_27, r_27_6 hS, k_33 hS, l_33 hS, z_33, as_nil, as_i, as_r, Nat.reduceAdd, Nat.reduceLeDiff, z_eq0, z_eq1, z_or, z_em, Classical.not_not, not_false_eq_true, not_true_eq_false, true_and, and_true, false_and, and_false, and_self, true_implies, false_implies, implies_true, Option.toList_some, Option.toList_none, List.cons_append, List.nil_append, Nat.add_eq_zero_iff, a_nl_i, a_nl_r, a_nl_n, true_or, or_true, eq_self, a_isRA_22, a_isRA_24, a_isRA_32, a_isA_20, ok_4, ok_5, ok_6, ok_7, ok_9, ok_20, ok_21, ok_30, ok_50, ok_180, ok_192, ok_200]
  refine ⟨hi, hr _ _ _ (dB_33 b2) (fun J3 b3 => ?_)⟩
  have hT3 := b3.1.1
  simp only [q138_204, q138_205, q138_208, q138_209, k_27 hS, z_27, r_27_0 hS, k_14 hS, z_14, as_nil, as_i, as_r, Nat.reduceAdd, Nat.reduceLeDiff, z_eq0, z_eq1, z_or, z_em, Classical.not_not, not_false_eq_true, not_true_eq_false, true_and, and_true, false_and, and_false, and_self, true_implies, false_implies, implies_true, Option.toList_some, Option.toList_none, List.cons_append, List.nil_append, Nat.add_eq_zero_iff, a_nl_i, a_nl_r, a_nl_n, true_or, or_true, eq_self, a_isRA_22, a_isRA_24, a_isRA_32, a_isA_20, ok_4, ok_5, ok_6, ok_7, ok_9, ok_20, ok_21, ok_30, ok_50, ok_180, ok_192, ok_200]
  refine ck_lift ha hT3 (fun J4 j4 => ?_)
  exact hnext _ _ _ (dB_L b3 j4)
theorem kEX_all (hN : bnP C R (I0 (C + 27) 8)) (hT0 : cT C K L I0 R) : ∀ z, kEX C n t K L R I0 z := by
  intro z
  have gs := hT0.g_best
  have s0 := Int32.le_iff_toInt_le.mp gs.1
  have s1 := Int32.le_iff_toInt_le.mp gs.2
  have c0 : (0 : Int32).toInt = 0 := rfl
  have c1 : (1 : Int32).toInt = 1 := rfl
  have c4 : (4 : Int32).toInt = 4 := rfl
  induction z with
  | zero =>
    intro i sf I D P h0 h1 h2 hB hP
    obtain ⟨E, rfl⟩ : ∃ E, D = E + 20 := ⟨D - 20, by omega⟩
    have hT := hB.1.1
    have hS := hT.s
    have ei : i = I (C + 27) 8 := by rw [hB.2]; exact Int32.toInt_inj.mp (by omega)
    have gi := hT.g_best
    rw [← ei] at gi
    have hi4 : ¬ 4 < i := Int32.not_lt.mpr gi.2
    have hi5 : 0 ≤ i ∧ i < 5 := ⟨gi.1, by clear hB hT hS hP hN; grind⟩
    have m4 : (0 : Nat) + i.toNatClampNeg ≤ 4 := by
      have e0 := Int32.le_iff_toInt_le.mp gi.1
      have e1 := Int32.le_iff_toInt_le.mp gi.2
      show 0 + i.toInt.toNat ≤ 4
      omega
    have n0 : ¬ i < 0 := Int32.not_lt.mpr gi.1
    have f1 : dB C K L R I0 (a_ci (a_ui I (C + 27) 9 sf) (C + 33) (C + 34) 0 0 i.toNatClampNeg) := dB_34 (dB_sum hB)
    have m5 : i.toNatClampNeg ≤ 4 := by omega
    rw [a_enter1 (M := a_m138) rfl (a_cat_rf (a_cat_int (a_cat_int a_cat_nil))) (show 3 ≤ 8 by decide)]
    show a_at _ (a_xm a_m138) 0 [some (a_rf (C + 27)), some (.int i), some (.int sf), none, none, none, none, none] [] _ _
    simp only [q138_0, q138_1, q138_2, q138_5, q138_6, q138_7, q138_10, q138_11, q138_12, q138_13, q138_14, q138_17, q138_20, q138_21, q138_22, q138_23, q138_26, q138_29, q138_30, q138_31, q138_34, q138_35, q138_38, q138_39, q138_40, q138_43, q138_44, q138_45, q138_48, q138_51, k_27 hS, z_27, r_27_5 hS, k_32 hS, l_32 hS, z_32, r_27_6 hS, k_33 hS, l_33 hS, z_33, r_27_7 hS, k_34 hS, l_34 hS, z_34, as_nil, as_i, as_r, Nat.reduceAdd, Nat.reduceLeDiff, z_eq0, z_eq1, z_or, z_em, Classical.not_not, not_false_eq_true, not_true_eq_false, true_and, and_true, false_and, and_false, and_self, true_implies, false_implies, implies_true, Option.toList_some, Option.toList_none, List.cons_append, List.nil_append, Nat.add_eq_zero_iff, a_nl_i, a_nl_r, a_nl_n, true_or, or_true, eq_self, a_isRA_22, a_isRA_24, a_isRA_32, a_isA_20, ok_4, ok_5, ok_6, ok_7, ok_9, ok_20, ok_21, ok_30, ok_50, ok_180, ok_192, ok_200, ui_ap, cc_ne, cc_n0, cc_0n, Nat.reduceEqDiff, reduceIte, if_true, if_false, ← ei, hi4, a_copy_eq, a_kd_eq, a_ln_eq, cn00, lt00, Nat.zero_add, n0, m5]
    refine ⟨hi5, fun _ => hP _ f1, fun _ => hP _ hB⟩
  | succ z ih =>
    intro i sf I D P h0 h1 h2 hB hP
    obtain ⟨E, rfl⟩ : ∃ E, D = E + 20 := ⟨D - 20, by omega⟩
    have hT := hB.1.1
    have hS := hT.s
    have e0 := Int32.le_iff_toInt_le.mp h0
    have hi : 0 ≤ i ∧ i < 4 := ⟨h0, by rw [Int32.lt_iff_toInt_lt]; omega⟩
    have ei : ¬ i = I (C + 27) 8 := by
      rw [hB.2]
      intro e
      rw [e] at h1
      omega
    have hi4 : ¬ 4 < i := by clear hB hT hS hP hN ih; grind
    have hi5 : 0 ≤ i ∧ i < 5 := ⟨h0, by clear hB hT hS hP hN ih; grind⟩
    have hn := hN i h0 (by rw [Int32.lt_iff_toInt_lt]; omega)
    have ei1 : (i + 1).toInt = i.toInt + 1 := by rw [ti_add (by omega)]; omega
    have hr : ∀ (sf : Int32) (J : Nat → Nat → Int32) (P : Option Value → AH → Prop), dB C K L R I0 J → (∀ J, dB C K L R I0 J → P none (n, t, K, L, J, R)) → a_does (E + 19) 138 [a_rf (C + 27), .int (i + 1), .int sf] (n, t, K, L, J, R) P := fun sf J P b hP => ih (i + 1) sf J (E + 19) P (by rw [Int32.le_iff_toInt_le]; omega) (by omega) (by omega) b hP
    have hl := fun w u1 u2 => lk_extend_71 (E := E) (sf := sf) (w := w) hi hn hr hP 0 (by decide) I u1 u2 (by decide) hB
    rw [a_enter1 (M := a_m138) rfl (a_cat_rf (a_cat_int (a_cat_int a_cat_nil))) (show 3 ≤ 8 by decide)]
    show a_at _ (a_xm a_m138) 0 [some (a_rf (C + 27)), some (.int i), some (.int sf), none, none, none, none, none] [] _ _
    simp only [q138_0, q138_1, q138_2, q138_5, q138_6, q138_7, q138_10, q138_11, q138_12, q138_13, q138_14, q138_17, q138_20, q138_21, q138_22, q138_23, q138_26, q138_29, q138_30, q138_31, q138_34, q138_35, q138_38, q138_39, q138_40, q138_43, q138_44, q138_45, q138_48, q138_51, q138_52, q138_53, q138_56, q138_57, q138_58, q138_59, q138_60, q138_61, q138_62, k_27 hS, z_27, r_27_5 hS, k_32 hS, l_32 hS, z_32, r_27_6 hS, k_33 hS, l_33 hS, z_33, r_27_7 hS, k_34 hS, l_34 hS, z_34, r_27_1 hS, k_28 hS, l_28 hS, z_28, as_nil, as_i, as_r, Nat.reduceAdd, Nat.reduceLeDiff, z_eq0, z_eq1, z_or, z_em, Classical.not_not, not_false_eq_true, not_true_eq_false, true_and, and_true, false_and, and_false, and_self, true_implies, false_implies, implies_true, Option.toList_some, Option.toList_none, List.cons_append, List.nil_append, Nat.add_eq_zero_iff, a_nl_i, a_nl_r, a_nl_n, true_or, or_true, eq_self, a_isRA_22, a_isRA_24, a_isRA_32, a_isA_20, ok_4, ok_5, ok_6, ok_7, ok_9, ok_20, ok_21, ok_30, ok_50, ok_180, ok_192, ok_200, ui_ap, cc_ne, cc_n0, cc_0n, Nat.reduceEqDiff, reduceIte, if_true, if_false, ei, hi4]
    refine ⟨hi5, fun _ => ⟨hi, ?_⟩, fun _ => hP _ hB⟩
    refine ck_worth hi hn hT (fun v => ?_)
    simp only [q138_65, q138_66, q138_68, q138_69, as_nil, as_i, as_r, Nat.reduceAdd, Nat.reduceLeDiff, z_eq0, z_eq1, z_or, z_em, Classical.not_not, not_false_eq_true, not_true_eq_false, true_and, and_true, false_and, and_false, and_self, true_implies, false_implies, implies_true, Option.toList_some, Option.toList_none, List.cons_append, List.nil_append, Nat.add_eq_zero_iff, a_nl_i, a_nl_r, a_nl_n, true_or, or_true, eq_self, a_isRA_22, a_isRA_24, a_isRA_32, a_isA_20, ok_4, ok_5, ok_6, ok_7, ok_9, ok_20, ok_21, ok_30, ok_50, ok_180, ok_192, ok_200, ui_ap, cc_ne, cc_n0, cc_0n, Nat.reduceEqDiff, reduceIte, if_true, if_false]
    exact hl _ _ _
theorem lk_spotOf_2 {q : Int32} (hT : cT C K L I R) (hN : bnP C R (I (C + 27) 8)) (hP : ∀ v, P (some (.int v)) (n, t, K, L, I, R)) : ∀ i : Int32, i ≤ 4 → 0 ≤ i → a_at d (a_xm a_m139) 2 [some (a_rf (C + 27)), some (.int q), some (.int i)] [] (n, t, K, L, I, R) P := by
  have hS := hT.s
  have gs := hT.g_best
  refine up_ind 4 (fun i hk ih => ?_)
  intro q0
  have gb := hT.g_bestR i.toNatClampNeg
  have hn := hN i q0
  rw [q139_2]
  repeat' first
    | with_reducible apply And.intro
    | with_reducible assumption
    | with_reducible intro _
    | with_reducible apply hP
    | with_reducible apply ih
    | simp only [q139_3, q139_4, q139_7, q139_10, q139_11, q139_14, q139_15, q139_16, q139_19, q139_20, q139_23, q139_24, q139_27, q139_28, q139_29, q139_30, q139_33, q139_36, q139_38, k_27 hS, z_27, r_27_1 hS, k_28 hS, l_28 hS, z_28, r_27_7 hS, k_34 hS, l_34 hS, z_34, as_nil, as_i, as_r, Nat.reduceAdd, Nat.reduceLeDiff, z_eq0, z_eq1, z_or, z_em, Classical.not_not, not_false_eq_true, not_true_eq_false, true_and, and_true, false_and, and_false, and_self, true_implies, false_implies, implies_true, Option.toList_some, Option.toList_none, List.cons_append, List.nil_append, Nat.add_eq_zero_iff, a_nl_i, a_nl_r, a_nl_n, true_or, or_true, eq_self, a_isRA_22, a_isRA_24, a_isRA_32, a_isA_20, ok_4, ok_5, ok_6, ok_7, ok_9, ok_20, ok_21, ok_30, ok_50, ok_180, ok_192, ok_200]
  all_goals ((try clear ih); (try clear hP); (try clear hl); (try clear hq); (try clear a3); grind [ui_ap])
theorem ck_spotOf {q : Int32} (hT : cT C K L I R) (hN : bnP C R (I (C + 27) 8)) (hP : ∀ v, P (some (.int v)) (n, t, K, L, I, R)) : a_does (d + 1) 139 [a_rf (C + 27), .int q] (n, t, K, L, I, R) P := by
  have hS := hT.s
  have hl := lk_spotOf_2 (d := d) (q := q) hT hN hP 0 (by decide) (by decide)
  rw [a_enter1 (M := a_m139) rfl (a_cat_rf (a_cat_int a_cat_nil)) (show 2 ≤ 3 by decide)]
  show a_at _ (a_xm a_m139) 0 [some (a_rf (C + 27)), some (.int q), none] [] _ _
  repeat' first
    | with_reducible apply And.intro
    | with_reducible assumption
    | with_reducible intro _
    | with_reducible apply hl
    | simp only [q139_0, q139_1, as_nil, as_i, as_r, Nat.reduceAdd, Nat.reduceLeDiff, z_eq0, z_eq1, z_or, z_em, Classical.not_not, not_false_eq_true, not_true_eq_false, true_and, and_true, false_and, and_false, and_self, true_implies, false_implies, implies_true, Option.toList_some, Option.toList_none, List.cons_append, List.nil_append, Nat.add_eq_zero_iff, a_nl_i, a_nl_r, a_nl_n, true_or, or_true, eq_self, a_isRA_22, a_isRA_24, a_isRA_32, a_isA_20, ok_4, ok_5, ok_6, ok_7, ok_9, ok_20, ok_21, ok_30, ok_50, ok_180, ok_192, ok_200]
  all_goals ((try clear ih); (try clear hP); (try clear hl); (try clear hq); (try clear a3); grind [ui_ap])
theorem lk_search_125 (hN : bnP C R (I0 (C + 27) 8)) (hT0 : cT C K L I0 R) {p q r : Int32} (hP : ∀ J, dB C K L R I0 J → P none (n, t, K, L, J, R)) : ∀ i : Int32, -1 ≤ i → ∀ J u, i < I0 (C + 27) 8 → dB C K L R I0 J → a_at (d + 30) (a_xm a_m132) 125 [some (a_rf (C + 27)), some (.int p), some (.int q), some (.int r), some (.int i), u] [] (n, t, K, L, J, R) P := by
  refine dn_ind (-1) (fun i hk ih => ?_)
  intro J u q0 hB
  have hT := hB.1.1
  have hS := hT.s
  have gs := hT0.g_best
  have hi5 : ¬ i < 0 → (0 ≤ i + 1 ∧ i + 1 < 5) ∧ (0 ≤ i ∧ i < 5) ∧ (0 ≤ i ∧ i < 4) := fun h => by clear hP ih hN; grind
  have hex : a_at (d + 30) (a_xm a_m132) 173 [some (a_rf (C + 27)), some (.int p), some (.int q), some (.int r), some (.int i), u] [] (n, t, K, L, J, R) P := by
    simp only [q132_173, q132_174, q132_175, q132_178, q132_179, q132_180, q132_181, k_27 hS, z_27, as_nil, as_i, as_r, Nat.reduceAdd, Nat.reduceLeDiff, z_eq0, z_eq1, z_or, z_em, Classical.not_not, not_false_eq_true, not_true_eq_false, true_and, and_true, false_and, and_false, and_self, true_implies, false_implies, implies_true, Option.toList_some, Option.toList_none, List.cons_append, List.nil_append, Nat.add_eq_zero_iff, a_nl_i, a_nl_r, a_nl_n, true_or, or_true, eq_self, a_isRA_22, a_isRA_24, a_isRA_32, a_isA_20, ok_4, ok_5, ok_6, ok_7, ok_9, ok_20, ok_21, ok_30, ok_50, ok_180, ok_192, ok_200, ui_ap, cc_ne, cc_n0, cc_0n, Nat.reduceEqDiff, reduceIte, if_true, if_false]
    have b2 := dB_sum (v := -1) hB
    have g := kEX_all (n := n) (t := t) hN hT0 (I0 (C + 27) 8).toInt.toNat
    have s0 := Int32.le_iff_toInt_le.mp gs.1
    have s1 := Int32.le_iff_toInt_le.mp gs.2
    have c0 : (0 : Int32).toInt = 0 := rfl
    have c4 : (4 : Int32).toInt = 4 := rfl
    refine g 0 0 _ _ _ (by decide) (by omega) (by omega) b2 (fun J3 b3 => ?_)
    simp only [q132_184, as_nil, as_i, as_r, Nat.reduceAdd, Nat.reduceLeDiff, z_eq0, z_eq1, z_or, z_em, Classical.not_not, not_false_eq_true, not_true_eq_false, true_and, and_true, false_and, and_false, and_self, true_implies, false_implies, implies_true, Option.toList_some, Option.toList_none, List.cons_append, List.nil_append, Nat.add_eq_zero_iff, a_nl_i, a_nl_r, a_nl_n, true_or, or_true, eq_self, a_isRA_22, a_isRA_24, a_isRA_32, a_isA_20, ok_4, ok_5, ok_6, ok_7, ok_9, ok_20, ok_21, ok_30, ok_50, ok_180, ok_192, ok_200, ui_ap, cc_ne, cc_n0, cc_0n, Nat.reduceEqDiff, reduceIte, if_true, if_false]
    exact hP J3 b3
  rw [q132_125]
  simp only [q132_127, q132_130, q132_131, q132_134, q132_136, q132_137, q132_140, q132_142, q132_143, q132_144, q132_145, q132_146, q132_149, q132_151, q132_152, q132_155, q132_156, q132_158, k_27 hS, z_27, r_27_5 hS, k_32 hS, l_32 hS, z_32, r_27_4 hS, k_31 hS, l_31 hS, z_31, as_nil, as_i, as_r, Nat.reduceAdd, Nat.reduceLeDiff, z_eq0, z_eq1, z_or, z_em, Classical.not_not, not_false_eq_true, not_true_eq_false, true_and, and_true, false_and, and_false, and_self, true_implies, false_implies, implies_true, Option.toList_some, Option.toList_none, List.cons_append, List.nil_append, Nat.add_eq_zero_iff, a_nl_i, a_nl_r, a_nl_n, true_or, or_true, eq_self, a_isRA_22, a_isRA_24, a_isRA_32, a_isA_20, ok_4, ok_5, ok_6, ok_7, ok_9, ok_20, ok_21, ok_30, ok_50, ok_180, ok_192, ok_200]
  refine ⟨fun _ => hex, fun h1 => ?_⟩
  obtain ⟨x1, x2, x3⟩ := hi5 h1
  have hn := hN i x3.1 q0
  have ih := ih (by clear hP ih hN; grind)
  have hs : ∀ v, a_at (d + 30) (a_xm a_m132) 165 [some (a_rf (C + 27)), some (.int p), some (.int q), some (.int r), some (.int i), u] [.int v, .int (J (C + 32) (i + 1).toNatClampNeg), .int i, a_rf (C + 32)] (n, t, K, L, J, R) P := fun v => by
    have hi := ih _ u (by clear hP ih hN; grind) (dB_32 hB (k := i.toNatClampNeg) (v := J (C + 32) (i + 1).toNatClampNeg + v))
    simp only [q132_165, q132_166, q132_167, q132_170, as_nil, as_i, as_r, Nat.reduceAdd, Nat.reduceLeDiff, z_eq0, z_eq1, z_or, z_em, Classical.not_not, not_false_eq_true, not_true_eq_false, true_and, and_true, false_and, and_false, and_self, true_implies, false_implies, implies_true, Option.toList_some, Option.toList_none, List.cons_append, List.nil_append, Nat.add_eq_zero_iff, a_nl_i, a_nl_r, a_nl_n, true_or, or_true, eq_self, a_isRA_22, a_isRA_24, a_isRA_32, a_isA_20, ok_4, ok_5, ok_6, ok_7, ok_9, ok_20, ok_21, ok_30, ok_50, ok_180, ok_192, ok_200, ui_ap, cc_ne, cc_n0, cc_0n, Nat.reduceEqDiff, reduceIte, if_true, if_false, k_32 hS, l_32 hS, z_32]
    exact ⟨x2, hi⟩
  refine ⟨x1, x3, fun _ => ?_, fun _ => ?_⟩
  · simp only [q132_164, as_nil, as_i, as_r, Nat.reduceAdd, Nat.reduceLeDiff, z_eq0, z_eq1, z_or, z_em, Classical.not_not, not_false_eq_true, not_true_eq_false, true_and, and_true, false_and, and_false, and_self, true_implies, false_implies, implies_true, Option.toList_some, Option.toList_none, List.cons_append, List.nil_append, Nat.add_eq_zero_iff, a_nl_i, a_nl_r, a_nl_n, true_or, or_true, eq_self, a_isRA_22, a_isRA_24, a_isRA_32, a_isA_20, ok_4, ok_5, ok_6, ok_7, ok_9, ok_20, ok_21, ok_30, ok_50, ok_180, ok_192, ok_200, ui_ap, cc_ne, cc_n0, cc_0n, Nat.reduceEqDiff, reduceIte, if_true, if_false]
    exact hs _
  · refine ck_worth x3 hn hT (fun v => ?_)
    simp only [q132_161, as_nil, as_i, as_r, Nat.reduceAdd, Nat.reduceLeDiff, z_eq0, z_eq1, z_or, z_em, Classical.not_not, not_false_eq_true, not_true_eq_false, true_and, and_true, false_and, and_false, and_self, true_implies, false_implies, implies_true, Option.toList_some, Option.toList_none, List.cons_append, List.nil_append, Nat.add_eq_zero_iff, a_nl_i, a_nl_r, a_nl_n, true_or, or_true, eq_self, a_isRA_22, a_isRA_24, a_isRA_32, a_isA_20, ok_4, ok_5, ok_6, ok_7, ok_9, ok_20, ok_21, ok_30, ok_50, ok_180, ok_192, ok_200, ui_ap, cc_ne, cc_n0, cc_0n, Nat.reduceEqDiff, reduceIte, if_true, if_false]
    exact hs _
theorem lk_search_83 (hN : bnP C R (I0 (C + 27) 8)) (hT0 : cT C K L I0 R) {p q r : Int32} (hp : 0 ≤ p ∧ p ≤ 210) (hq : q ≤ 199) (hP : ∀ J, dB C K L R I0 J → P none (n, t, K, L, J, R)) : ∀ i : Int32, i ≤ 4 → ∀ J u, 0 ≤ i → dB C K L R I0 J → a_at (d + 30) (a_xm a_m132) 83 [some (a_rf (C + 27)), some (.int p), some (.int q), some (.int r), some (.int i), u] [] (n, t, K, L, J, R) P := by
  refine up_ind 4 (fun i hk ih => ?_)
  intro J u q0 hB
  have hT := hB.1.1
  have hS := hT.s
  have gs := hT.g_best
  have es := hB.2
  rw [q132_83]
  simp only [q132_85, q132_86, q132_89, q132_92, q132_93, q132_95, q132_96, q132_97, q132_98, k_27 hS, z_27, as_nil, as_i, as_r, Nat.reduceAdd, Nat.reduceLeDiff, z_eq0, z_eq1, z_or, z_em, Classical.not_not, not_false_eq_true, not_true_eq_false, true_and, and_true, false_and, and_false, and_self, true_implies, false_implies, implies_true, Option.toList_some, Option.toList_none, List.cons_append, List.nil_append, Nat.add_eq_zero_iff, a_nl_i, a_nl_r, a_nl_n, true_or, or_true, eq_self, a_isRA_22, a_isRA_24, a_isRA_32, a_isA_20, ok_4, ok_5, ok_6, ok_7, ok_9, ok_20, ok_21, ok_30, ok_50, ok_180, ok_192, ok_200]
  refine ⟨fun h1 => ?_, fun h1 => ?_⟩
  · have hs5 : 0 ≤ J (C + 27) 8 ∧ J (C + 27) 8 < 5 := by clear hP ih hN hB hT; grind
    have hl := lk_search_125 (d := d) hN hT0 (p := p) (q := q) (r := r) hP (J (C + 27) 8 - 1) (by clear hP ih hN hB hT; grind) _ u (by rw [← es]; clear hP ih hN hB hT; grind) (dB_32 hB (k := (J (C + 27) 8).toNatClampNeg) (v := 0))
    simp only [q132_107, q132_108, q132_111, q132_112, q132_115, q132_116, q132_117, q132_118, q132_121, q132_122, q132_123, k_27 hS, z_27, r_27_5 hS, k_32 hS, l_32 hS, z_32, as_nil, as_i, as_r, Nat.reduceAdd, Nat.reduceLeDiff, z_eq0, z_eq1, z_or, z_em, Classical.not_not, not_false_eq_true, not_true_eq_false, true_and, and_true, false_and, and_false, and_self, true_implies, false_implies, implies_true, Option.toList_some, Option.toList_none, List.cons_append, List.nil_append, Nat.add_eq_zero_iff, a_nl_i, a_nl_r, a_nl_n, true_or, or_true, eq_self, a_isRA_22, a_isRA_24, a_isRA_32, a_isA_20, ok_4, ok_5, ok_6, ok_7, ok_9, ok_20, ok_21, ok_30, ok_50, ok_180, ok_192, ok_200, ui_ap, cc_ne, cc_n0, cc_0n, Nat.reduceEqDiff, reduceIte, if_true, if_false]
    exact ⟨hs5, hl⟩
  · have hi : 0 ≤ i ∧ i < 4 := by clear hP ih hN hB hT; grind
    have hn := hN i q0 (by rw [← es]; exact Int32.not_le.mp h1)
    refine ck_collect hi hn hB hp hq (fun J2 b2 => ?_)
    simp only [q132_101, q132_104, as_nil, as_i, as_r, Nat.reduceAdd, Nat.reduceLeDiff, z_eq0, z_eq1, z_or, z_em, Classical.not_not, not_false_eq_true, not_true_eq_false, true_and, and_true, false_and, and_false, and_self, true_implies, false_implies, implies_true, Option.toList_some, Option.toList_none, List.cons_append, List.nil_append, Nat.add_eq_zero_iff, a_nl_i, a_nl_r, a_nl_n, true_or, or_true, eq_self, a_isRA_22, a_isRA_24, a_isRA_32, a_isA_20, ok_4, ok_5, ok_6, ok_7, ok_9, ok_20, ok_21, ok_30, ok_50, ok_180, ok_192, ok_200, ui_ap, cc_ne, cc_n0, cc_0n, Nat.reduceEqDiff, reduceIte, if_true, if_false]
    exact ih hi.2 J2 u (by clear hP ih hN hB hT b2; grind) b2
theorem lk_search_8 {p q r : Int32} (hp : 0 ≤ p ∧ p ≤ 210) (hq : q ≤ 199) (hP : ∀ J R, cZ C c n0 K0 L0 I0 R0 n t K L J R → bnP C R (J (C + 27) 8) → P none (n, t, K, L, J, R)) : ∀ i : Int32, i ≤ 30 → ∀ J R u, 0 ≤ i → cZ C c n0 K0 L0 I0 R0 n t K L J R → bnP C R (J (C + 27) 8) → a_at (d + 30) (a_xm a_m132) 8 [some (a_rf (C + 27)), some (.int p), some (.int q), some (.int r), some (.int i), u] [] (n, t, K, L, J, R) P := by
  refine up_ind 30 (fun i hk ih => ?_)
  intro J R u q0 hZ hN
  have hT := hZ.2.1.1
  have hS := hT.s
  have gA := hT.g_asksR
  have gB := hT.g_benchesR
  have gX := hT.g_textsR
  have gc := hT.g_asks
  have gs := hT.g_best
  have gi := gA i.toNatClampNeg
  have hend := fun u => lk_search_83 (d := d) (n := n) (t := t) (r := r) hN hT hp hq (fun J2 b2 => hP J2 R (cZ_G hZ b2.1) (by rw [b2.2]; exact hN)) 0 (by decide) J u (by decide) (dB_refl hT)
  have hnext : i < 30 → ∀ J R u, cZ C c n0 K0 L0 I0 R0 n t K L J R → bnP C R (J (C + 27) 8) → a_at (d + 30) (a_xm a_m132) 74 [some (a_rf (C + 27)), some (.int p), some (.int q), some (.int r), some (.int i), u] [] (n, t, K, L, J, R) P := fun h J R u z b => by
    simp only [q132_74, q132_77, as_nil, as_i, as_r, Nat.reduceAdd, Nat.reduceLeDiff, z_eq0, z_eq1, z_or, z_em, Classical.not_not, not_false_eq_true, not_true_eq_false, true_and, and_true, false_and, and_false, and_self, true_implies, false_implies, implies_true, Option.toList_some, Option.toList_none, List.cons_append, List.nil_append, Nat.add_eq_zero_iff, a_nl_i, a_nl_r, a_nl_n, true_or, or_true, eq_self, a_isRA_22, a_isRA_24, a_isRA_32, a_isA_20, ok_4, ok_5, ok_6, ok_7, ok_9, ok_20, ok_21, ok_30, ok_50, ok_180, ok_192, ok_200, ui_ap, cc_ne, cc_n0, cc_0n, Nat.reduceEqDiff, reduceIte, if_true, if_false]
    exact ih h J R u (by clear hend ih hP; grind) z b
  rw [q132_8]
  simp only [q132_10, q132_11, q132_14, q132_17, q132_20, q132_21, q132_24, q132_26, k_27 hS, z_27, r_27_0 hS, k_14 hS, z_14, sp_askAt hS gA, as_nil, as_i, as_r, Nat.reduceAdd, Nat.reduceLeDiff, z_eq0, z_eq1, z_or, z_em, Classical.not_not, not_false_eq_true, not_true_eq_false, true_and, and_true, false_and, and_false, and_self, true_implies, false_implies, implies_true, Option.toList_some, Option.toList_none, List.cons_append, List.nil_append, Nat.add_eq_zero_iff, a_nl_i, a_nl_r, a_nl_n, true_or, or_true, eq_self, a_isRA_22, a_isRA_24, a_isRA_32, a_isA_20, ok_4, ok_5, ok_6, ok_7, ok_9, ok_20, ok_21, ok_30, ok_50, ok_180, ok_192, ok_200]
  refine ⟨fun h1 => ?_, fun h1 => ?_⟩
  · simp only [q132_80, q132_81, as_nil, as_i, as_r, Nat.reduceAdd, Nat.reduceLeDiff, z_eq0, z_eq1, z_or, z_em, Classical.not_not, not_false_eq_true, not_true_eq_false, true_and, and_true, false_and, and_false, and_self, true_implies, false_implies, implies_true, Option.toList_some, Option.toList_none, List.cons_append, List.nil_append, Nat.add_eq_zero_iff, a_nl_i, a_nl_r, a_nl_n, true_or, or_true, eq_self, a_isRA_22, a_isRA_24, a_isRA_32, a_isA_20, ok_4, ok_5, ok_6, ok_7, ok_9, ok_20, ok_21, ok_30, ok_50, ok_180, ok_192, ok_200]
    exact hend _
  · have hi : i < 30 := by clear hend ih hP hN hnext; grind
    have hsame := fun u => hnext hi J R u hZ hN
    refine ⟨fun h2 => ?_, fun h2 => ?_⟩
    · simp only [q132_29, q132_31, q132_33, as_nil, as_i, as_r, Nat.reduceAdd, Nat.reduceLeDiff, z_eq0, z_eq1, z_or, z_em, Classical.not_not, not_false_eq_true, not_true_eq_false, true_and, and_true, false_and, and_false, and_self, true_implies, false_implies, implies_true, Option.toList_some, Option.toList_none, List.cons_append, List.nil_append, Nat.add_eq_zero_iff, a_nl_i, a_nl_r, a_nl_n, true_or, or_true, eq_self, a_isRA_22, a_isRA_24, a_isRA_32, a_isA_20, ok_4, ok_5, ok_6, ok_7, ok_9, ok_20, ok_21, ok_30, ok_50, ok_180, ok_192, ok_200]
      refine ⟨fun h3 => hsame _, fun h3 => ?_⟩
      have ha := gi.resolve_left h3
      simp only [q132_36, q132_37, q132_39, as_nil, as_i, as_r, Nat.reduceAdd, Nat.reduceLeDiff, z_eq0, z_eq1, z_or, z_em, Classical.not_not, not_false_eq_true, not_true_eq_false, true_and, and_true, false_and, and_false, and_self, true_implies, false_implies, implies_true, Option.toList_some, Option.toList_none, List.cons_append, List.nil_append, Nat.add_eq_zero_iff, a_nl_i, a_nl_r, a_nl_n, true_or, or_true, eq_self, a_isRA_22, a_isRA_24, a_isRA_32, a_isA_20, ok_4, ok_5, ok_6, ok_7, ok_9, ok_20, ok_21, ok_30, ok_50, ok_180, ok_192, ok_200]
      refine ck_isIn (fun v => ?_)
      simp only [q132_42, q132_45, q132_46, q132_49, q132_50, q132_53, q132_54, q132_57, q132_58, q132_61, q132_63, q132_64, q132_65, q132_66, q132_69, q132_70, q132_71, k_27 hS, z_27, r_27_1 hS, k_28 hS, l_28 hS, z_28, as_nil, as_i, as_r, Nat.reduceAdd, Nat.reduceLeDiff, z_eq0, z_eq1, z_or, z_em, Classical.not_not, not_false_eq_true, not_true_eq_false, true_and, and_true, false_and, and_false, and_self, true_implies, false_implies, implies_true, Option.toList_some, Option.toList_none, List.cons_append, List.nil_append, Nat.add_eq_zero_iff, a_nl_i, a_nl_r, a_nl_n, true_or, or_true, eq_self, a_isRA_22, a_isRA_24, a_isRA_32, a_isA_20, ok_4, ok_5, ok_6, ok_7, ok_9, ok_20, ok_21, ok_30, ok_50, ok_180, ok_192, ok_200, ui_ap, cc_ne, cc_n0, cc_0n, Nat.reduceEqDiff, reduceIte, if_true, if_false, ha]
      have h4 : ¬ 4 ≤ J (C + 27) 8 → (0 ≤ J (C + 27) 8 ∧ J (C + 27) 8 < 4) ∧ (0 ≤ J (C + 27) 8 + 1 ∧ J (C + 27) 8 + 1 ≤ 4) := fun h => by clear hend ih hP hN hnext hsame; grind
      have hput : ¬ 4 ≤ J (C + 27) 8 → ∀ u, a_at (d + 30) (a_xm a_m132) 74 [some (a_rf (C + 27)), some (.int p), some (.int q), some (.int r), some (.int i), u] [] (n, t, K, L, (a_ui J (C + 27) 8 (J (C + 27) 8 + 1)), (a_ur R (C + 28) (J (C + 27) 8).toNatClampNeg (R (C + 15) i.toNatClampNeg))) P := fun h u => by
        have z1 := cZ_R28 (j := (J (C + 27) 8).toNatClampNeg) hZ (Or.inr ha)
        have z2 := cZ_G z1 (dG_Best_size (dG_refl z1.2.1.1) (h4 h).2)
        refine hnext hi _ _ u z2 (fun j j0 j1 => ?_)
        rw [ui_ap, if_pos ⟨rfl, rfl⟩] at j1
        rw [ur_ap]
        split
        · exact h3
        · rename_i h5
          refine hN j j0 ?_
          have : ¬ j = J (C + 27) 8 := fun e => h5 ⟨rfl, by rw [e]⟩
          clear hend ih hP hN hnext hsame z1 z2
          grind
      repeat' first
        | with_reducible apply And.intro
        | with_reducible intro _
        | exact hsame _
        | (refine hput ?_ _; assumption)
        | exact (h4 (by assumption)).1.1
        | exact (h4 (by assumption)).1.2
        | (right; rfl)
        | decide
    · simp only [q132_29, q132_31, q132_33, as_nil, as_i, as_r, Nat.reduceAdd, Nat.reduceLeDiff, z_eq0, z_eq1, z_or, z_em, Classical.not_not, not_false_eq_true, not_true_eq_false, true_and, and_true, false_and, and_false, and_self, true_implies, false_implies, implies_true, Option.toList_some, Option.toList_none, List.cons_append, List.nil_append, Nat.add_eq_zero_iff, a_nl_i, a_nl_r, a_nl_n, true_or, or_true, eq_self, a_isRA_22, a_isRA_24, a_isRA_32, a_isA_20, ok_4, ok_5, ok_6, ok_7, ok_9, ok_20, ok_21, ok_30, ok_50, ok_180, ok_192, ok_200]
      first
        | exact hsame _
        | exact ⟨fun _ => hsame _, fun h => absurd rfl h⟩
theorem ck_search {p q r : Int32} (hp : 0 ≤ p ∧ p ≤ 210) (hq : q ≤ 199) (hZ : cZ C c n0 K0 L0 I0 R0 n t K L I R) (hP : ∀ J R, cZ C c n0 K0 L0 I0 R0 n t K L J R → bnP C R (J (C + 27) 8) → P none (n, t, K, L, J, R)) : a_does (d + 31) 132 [a_rf (C + 27), .int p, .int q, .int r] (n, t, K, L, I, R) P := by
  have hT := hZ.2.1.1
  have hS := hT.s
  have z := cZ_G hZ (dG_Best_size (v := 0) (dG_refl hT) (by decide))
  have hl := fun u => lk_search_8 (d := d) (r := r) hp hq hP 0 (by decide) _ R u (by decide) z (fun j j0 j1 => by
    rw [ui_ap, if_pos ⟨rfl, rfl⟩] at j1
    exact absurd j1 (Int32.not_lt.mpr j0))
  rw [a_enter1 (M := a_m132) rfl (a_cat_rf (a_cat_int (a_cat_int (a_cat_int a_cat_nil)))) (show 4 ≤ 6 by decide)]
  show a_at _ (a_xm a_m132) 0 [some (a_rf (C + 27)), some (.int p), some (.int q), some (.int r), none, none] [] _ _
  simp only [q132_0, q132_1, q132_2, q132_5, q132_6, k_27 hS, z_27, as_nil, as_i, as_r, Nat.reduceAdd, Nat.reduceLeDiff, z_eq0, z_eq1, z_or, z_em, Classical.not_not, not_false_eq_true, not_true_eq_false, true_and, and_true, false_and, and_false, and_self, true_implies, false_implies, implies_true, Option.toList_some, Option.toList_none, List.cons_append, List.nil_append, Nat.add_eq_zero_iff, a_nl_i, a_nl_r, a_nl_n, true_or, or_true, eq_self, a_isRA_22, a_isRA_24, a_isRA_32, a_isA_20, ok_4, ok_5, ok_6, ok_7, ok_9, ok_20, ok_21, ok_30, ok_50, ok_180, ok_192, ok_200, ui_ap, cc_ne, cc_n0, cc_0n, Nat.reduceEqDiff, reduceIte, if_true, if_false]
  exact hl _
end KF
end

/-! the class: panels -/
section K9
variable {d n t C : Nat} {K L : Nat → Nat} {I I0 J J0 J1 J2 : Nat → Nat → Int32} {R : Nat → Nat → Nat} {P : Option Value → AH → Prop}
theorem of_180 : Int32.ofNat 180 = 180 := rfl
theorem ck_markBy (hS : cS C K L R) {r k : Int32} (hP : ∀ v, P (some (.int v)) (n, t, K, L, I, R)) : a_does (d + 1) 30 [a_rf (C + 17), .int r, .int k] (n, t, K, L, I, R) P := by
  rw [a_enter1 (M := a_m30) rfl (a_cat_rf (a_cat_int (a_cat_int a_cat_nil))) (show 3 ≤ 4 by decide)]
  show a_at _ (a_xm a_m30) 0 [some (a_rf (C + 17)), some (.int r), some (.int k), none] [] _ _
  repeat' first
    | with_reducible apply And.intro
    | with_reducible assumption
    | with_reducible intro _
    | with_reducible apply hP
    | simp only [q30_0, q30_1, q30_3, q30_4, q30_5, q30_6, q30_7, q30_8, q30_11, q30_12, q30_13, q30_16, q30_17, q30_20, q30_21, q30_24, q30_25, q30_26, q30_29, q30_31, k_17 hS, z_17, r_17_3 hS, k_20 hS, l_20 hS, z_20, as_nil, as_i, as_r, Nat.reduceAdd, Nat.reduceLeDiff, z_eq0, z_eq1, z_or, z_em, Classical.not_not, not_false_eq_true, not_true_eq_false, true_and, and_true, false_and, and_false, and_self, true_implies, false_implies, implies_true, Option.toList_some, Option.toList_none, List.cons_append, List.nil_append, Nat.add_eq_zero_iff, a_nl_i, a_nl_r, a_nl_n, true_or, or_true, eq_self, a_isRA_22, a_isRA_24, a_isRA_32, a_isA_20, ok_4, ok_5, ok_6, ok_7, ok_9, ok_20, ok_21, ok_30, ok_50, ok_180, ok_192, ok_200, of_180]
  all_goals grind [ui_ap]
theorem ck_areTwoMarks (hS : cS C K L R) {r o k : Int32} (hP : ∀ v, P (some (.int v)) (n, t, K, L, I, R)) : a_does (d + 2) 29 [a_rf (C + 17), .int r, .int o, .int k] (n, t, K, L, I, R) P := by
  rw [a_enter1 (M := a_m29) rfl (a_cat_rf (a_cat_int (a_cat_int (a_cat_int a_cat_nil)))) (show 4 ≤ 4 by decide)]
  show a_at _ (a_xm a_m29) 0 [some (a_rf (C + 17)), some (.int r), some (.int o), some (.int k)] [] _ _
  repeat' first
    | with_reducible apply And.intro
    | with_reducible assumption
    | with_reducible intro _
    | with_reducible apply hP
    | with_reducible apply ck_markBy hS
    | simp only [q29_0, q29_1, q29_2, q29_5, q29_6, q29_7, q29_8, q29_11, q29_13, q29_16, q29_17, q29_18, q29_19, q29_22, q29_24, q29_27, q29_28, q29_31, q29_32, k_17 hS, z_17, as_nil, as_i, as_r, Nat.reduceAdd, Nat.reduceLeDiff, z_eq0, z_eq1, z_or, z_em, Classical.not_not, not_false_eq_true, not_true_eq_false, true_and, and_true, false_and, and_false, and_self, true_implies, false_implies, implies_true, Option.toList_some, Option.toList_none, List.cons_append, List.nil_append, Nat.add_eq_zero_iff, a_nl_i, a_nl_r, a_nl_n, true_or, or_true, eq_self, a_isRA_22, a_isRA_24, a_isRA_32, a_isA_20, ok_4, ok_5, ok_6, ok_7, ok_9, ok_20, ok_21, ok_30, ok_50, ok_180, ok_192, ok_200]
  all_goals grind [ui_ap]
theorem lk_habitOf_22 (hS : cS C K L R) {q i : Int32} (hn : ∀ o m u, a_at (d + 2) (a_xm a_m28) 69 [some (a_rf (C + 17)), some (.int q), some (.int o), some (.int m), some (.int i), u] [] (n, t, K, L, I, R) P) : ∀ r : Int32, r ≤ 6 → ∀ (o m : Int32), 0 ≤ r → a_at (d + 2) (a_xm a_m28) 22 [some (a_rf (C + 17)), some (.int q), some (.int o), some (.int m), some (.int i), some (.int r)] [] (n, t, K, L, I, R) P := by
  refine up_ind 6 (fun r hk ih => ?_)
  intro o m q0
  rw [q28_22]
  repeat' first
    | with_reducible apply And.intro
    | with_reducible assumption
    | with_reducible intro _
    | with_reducible apply hn
    | with_reducible apply ih
    | with_reducible apply ck_areTwoMarks hS
    | with_reducible apply ck_markBy hS
    | simp only [q28_24, q28_26, q28_29, q28_30, q28_31, q28_33, q28_35, q28_38, q28_41, q28_42, q28_43, q28_44, q28_46, q28_49, q28_50, q28_52, q28_54, q28_57, q28_58, q28_59, q28_60, q28_63, q28_66, k_17 hS, z_17, as_nil, as_i, as_r, Nat.reduceAdd, Nat.reduceLeDiff, z_eq0, z_eq1, z_or, z_em, Classical.not_not, not_false_eq_true, not_true_eq_false, true_and, and_true, false_and, and_false, and_self, true_implies, false_implies, implies_true, Option.toList_some, Option.toList_none, List.cons_append, List.nil_append, Nat.add_eq_zero_iff, a_nl_i, a_nl_r, a_nl_n, true_or, or_true, eq_self, a_isRA_22, a_isRA_24, a_isRA_32, a_isA_20, ok_4, ok_5, ok_6, ok_7, ok_9, ok_20, ok_21, ok_30, ok_50, ok_180, ok_192, ok_200]
  all_goals grind [ui_ap]
theorem lk_habitOf_7 (hT : cT C K L I R) {q : Int32} (hP : ∀ v, P (some (.int v)) (n, t, K, L, I, R)) : ∀ i : Int32, i ≤ 30 → ∀ (o m : Int32) u, 0 ≤ i → a_at (d + 2) (a_xm a_m28) 7 [some (a_rf (C + 17)), some (.int q), some (.int o), some (.int m), some (.int i), u] [] (n, t, K, L, I, R) P := by
  have hS := hT.s
  have gc := hT.g_asks
  refine up_ind 30 (fun i hk ih => ?_)
  intro o m u q0
  have hn : i < 30 → ∀ o m u, a_at (d + 2) (a_xm a_m28) 69 [some (a_rf (C + 17)), some (.int q), some (.int o), some (.int m), some (.int i), u] [] (n, t, K, L, I, R) P := fun hi o m u => by
    have ih := ih hi
    simp only [q28_69, q28_72, as_nil, as_i, as_r, Nat.reduceAdd, Nat.reduceLeDiff, z_eq0, z_eq1, z_or, z_em, Classical.not_not, not_false_eq_true, not_true_eq_false, true_and, and_true, false_and, and_false, and_self, true_implies, false_implies, implies_true, Option.toList_some, Option.toList_none, List.cons_append, List.nil_append, Nat.add_eq_zero_iff, a_nl_i, a_nl_r, a_nl_n, true_or, or_true, eq_self, a_isRA_22, a_isRA_24, a_isRA_32, a_isA_20, ok_4, ok_5, ok_6, ok_7, ok_9, ok_20, ok_21, ok_30, ok_50, ok_180, ok_192, ok_200]
    exact ih o m u (by grind)
  have hl : i < 30 → ∀ o m, a_at (d + 2) (a_xm a_m28) 22 [some (a_rf (C + 17)), some (.int q), some (.int o), some (.int m), some (.int i), some (.int 0)] [] (n, t, K, L, I, R) P := fun hi o m => lk_habitOf_22 hS (hn hi) 0 (by decide) o m (by decide)
  rw [q28_7]
  repeat' first
    | with_reducible apply And.intro
    | with_reducible assumption
    | with_reducible intro _
    | with_reducible apply hP
    | with_reducible apply hl
    | with_reducible apply ck_floorDiv
    | simp only [q28_9, q28_10, q28_13, q28_16, q28_19, q28_20, k_17 hS, z_17, r_17_0 hS, k_14 hS, z_14, q28_75, q28_76, q28_79, q28_80, q28_83, q28_84, q28_85, q28_88, as_nil, as_i, as_r, Nat.reduceAdd, Nat.reduceLeDiff, z_eq0, z_eq1, z_or, z_em, Classical.not_not, not_false_eq_true, not_true_eq_false, true_and, and_true, false_and, and_false, and_self, true_implies, false_implies, implies_true, Option.toList_some, Option.toList_none, List.cons_append, List.nil_append, Nat.add_eq_zero_iff, a_nl_i, a_nl_r, a_nl_n, true_or, or_true, eq_self, a_isRA_22, a_isRA_24, a_isRA_32, a_isA_20, ok_4, ok_5, ok_6, ok_7, ok_9, ok_20, ok_21, ok_30, ok_50, ok_180, ok_192, ok_200]
  all_goals grind [ui_ap]
theorem ck_habitOf (hT : cT C K L I R) {q : Int32} (hP : ∀ v, P (some (.int v)) (n, t, K, L, I, R)) : a_does (d + 3) 28 [a_rf (C + 17), .int q] (n, t, K, L, I, R) P := by
  have hS := hT.s
  have hl := fun o m u => lk_habitOf_7 (d := d) hT (q := q) hP 0 (by decide) o m u (by decide)
  rw [a_enter1 (M := a_m28) rfl (a_cat_rf (a_cat_int a_cat_nil)) (show 2 ≤ 6 by decide)]
  show a_at _ (a_xm a_m28) 0 [some (a_rf (C + 17)), some (.int q), none, none, none, none] [] _ _
  repeat' first
    | with_reducible apply And.intro
    | with_reducible assumption
    | with_reducible intro _
    | with_reducible apply hl
    | simp only [q28_0, q28_1, q28_2, q28_3, q28_4, q28_5, as_nil, as_i, as_r, Nat.reduceAdd, Nat.reduceLeDiff, z_eq0, z_eq1, z_or, z_em, Classical.not_not, not_false_eq_true, not_true_eq_false, true_and, and_true, false_and, and_false, and_self, true_implies, false_implies, implies_true, Option.toList_some, Option.toList_none, List.cons_append, List.nil_append, Nat.add_eq_zero_iff, a_nl_i, a_nl_r, a_nl_n, true_or, or_true, eq_self, a_isRA_22, a_isRA_24, a_isRA_32, a_isA_20, ok_4, ok_5, ok_6, ok_7, ok_9, ok_20, ok_21, ok_30, ok_50, ok_180, ok_192, ok_200]
  all_goals grind [ui_ap]
theorem lk_doubtOf_24 (hS : cS C K L R) {q i : Int32} (hn : ∀ o m u w, a_at (d + 2) (a_xm a_m98) 81 [some (a_rf (C + 17)), some (.int q), some (.int o), some (.int m), some (.int i), u, w] [] (n, t, K, L, I, R) P) : ∀ r : Int32, r ≤ 6 → ∀ (o m : Int32) u, 0 ≤ r → a_at (d + 2) (a_xm a_m98) 24 [some (a_rf (C + 17)), some (.int q), some (.int o), some (.int m), some (.int i), some (.int r), u] [] (n, t, K, L, I, R) P := by
  refine up_ind 6 (fun r hk ih => ?_)
  intro o m u q0
  rw [q98_24]
  repeat' first
    | with_reducible apply And.intro
    | with_reducible assumption
    | with_reducible intro _
    | with_reducible apply hn
    | with_reducible apply ih
    | with_reducible apply ck_areTwoMarks hS
    | with_reducible apply ck_markBy hS
    | simp only [q98_26, q98_28, q98_31, q98_32, q98_33, q98_35, q98_37, q98_40, q98_43, q98_44, q98_45, q98_47, q98_50, q98_51, q98_53, q98_55, q98_58, q98_59, q98_61, q98_62, q98_64, q98_67, q98_68, q98_69, q98_71, q98_74, q98_75, q98_78, k_17 hS, z_17, sp_min, sp_max, as_nil, as_i, as_r, Nat.reduceAdd, Nat.reduceLeDiff, z_eq0, z_eq1, z_or, z_em, Classical.not_not, not_false_eq_true, not_true_eq_false, true_and, and_true, false_and, and_false, and_self, true_implies, false_implies, implies_true, Option.toList_some, Option.toList_none, List.cons_append, List.nil_append, Nat.add_eq_zero_iff, a_nl_i, a_nl_r, a_nl_n, true_or, or_true, eq_self, a_isRA_22, a_isRA_24, a_isRA_32, a_isA_20, ok_4, ok_5, ok_6, ok_7, ok_9, ok_20, ok_21, ok_30, ok_50, ok_180, ok_192, ok_200]
  all_goals grind [ui_ap]
theorem lk_doubtOf_9 (hT : cT C K L I R) {q : Int32} (hP : ∀ v, P (some (.int v)) (n, t, K, L, I, R)) : ∀ i : Int32, i ≤ 30 → ∀ (o m : Int32) u w, 0 ≤ i → a_at (d + 2) (a_xm a_m98) 9 [some (a_rf (C + 17)), some (.int q), some (.int o), some (.int m), some (.int i), u, w] [] (n, t, K, L, I, R) P := by
  have hS := hT.s
  have gc := hT.g_asks
  refine up_ind 30 (fun i hk ih => ?_)
  intro o m u w q0
  have hn : i < 30 → ∀ o m u w, a_at (d + 2) (a_xm a_m98) 81 [some (a_rf (C + 17)), some (.int q), some (.int o), some (.int m), some (.int i), u, w] [] (n, t, K, L, I, R) P := fun hi o m u w => by
    have ih := ih hi
    simp only [q98_81, q98_84, as_nil, as_i, as_r, Nat.reduceAdd, Nat.reduceLeDiff, z_eq0, z_eq1, z_or, z_em, Classical.not_not, not_false_eq_true, not_true_eq_false, true_and, and_true, false_and, and_false, and_self, true_implies, false_implies, implies_true, Option.toList_some, Option.toList_none, List.cons_append, List.nil_append, Nat.add_eq_zero_iff, a_nl_i, a_nl_r, a_nl_n, true_or, or_true, eq_self, a_isRA_22, a_isRA_24, a_isRA_32, a_isA_20, ok_4, ok_5, ok_6, ok_7, ok_9, ok_20, ok_21, ok_30, ok_50, ok_180, ok_192, ok_200]
    exact ih o m u w (by grind)
  have hl : i < 30 → ∀ o m u, a_at (d + 2) (a_xm a_m98) 24 [some (a_rf (C + 17)), some (.int q), some (.int o), some (.int m), some (.int i), some (.int 0), u] [] (n, t, K, L, I, R) P := fun hi o m u => lk_doubtOf_24 hS (hn hi) 0 (by decide) o m u (by decide)
  rw [q98_9]
  repeat' first
    | with_reducible apply And.intro
    | with_reducible assumption
    | with_reducible intro _
    | with_reducible apply hP
    | with_reducible apply hl
    | with_reducible apply ck_floorDiv
    | simp only [q98_11, q98_12, q98_15, q98_18, q98_21, q98_22, k_17 hS, z_17, r_17_0 hS, k_14 hS, z_14, q98_87, q98_88, q98_89, q98_90, q98_91, q98_94, sp_max, as_nil, as_i, as_r, Nat.reduceAdd, Nat.reduceLeDiff, z_eq0, z_eq1, z_or, z_em, Classical.not_not, not_false_eq_true, not_true_eq_false, true_and, and_true, false_and, and_false, and_self, true_implies, false_implies, implies_true, Option.toList_some, Option.toList_none, List.cons_append, List.nil_append, Nat.add_eq_zero_iff, a_nl_i, a_nl_r, a_nl_n, true_or, or_true, eq_self, a_isRA_22, a_isRA_24, a_isRA_32, a_isA_20, ok_4, ok_5, ok_6, ok_7, ok_9, ok_20, ok_21, ok_30, ok_50, ok_180, ok_192, ok_200]
  all_goals grind [ui_ap]
theorem ck_doubtOf (hT : cT C K L I R) {q : Int32} (hP : ∀ v, P (some (.int v)) (n, t, K, L, I, R)) : a_does (d + 3) 98 [a_rf (C + 17), .int q] (n, t, K, L, I, R) P := by
  have hS := hT.s
  have hl := fun o m u w => lk_doubtOf_9 (d := d) hT (q := q) hP 0 (by decide) o m u w (by decide)
  rw [a_enter1 (M := a_m98) rfl (a_cat_rf (a_cat_int a_cat_nil)) (show 2 ≤ 7 by decide)]
  show a_at _ (a_xm a_m98) 0 [some (a_rf (C + 17)), some (.int q), none, none, none, none, none] [] _ _
  repeat' first
    | with_reducible apply And.intro
    | with_reducible assumption
    | with_reducible intro _
    | with_reducible apply hl
    | simp only [q98_0, q98_2, q98_3, q98_5, q98_6, q98_7, as_nil, as_i, as_r, Nat.reduceAdd, Nat.reduceLeDiff, z_eq0, z_eq1, z_or, z_em, Classical.not_not, not_false_eq_true, not_true_eq_false, true_and, and_true, false_and, and_false, and_self, true_implies, false_implies, implies_true, Option.toList_some, Option.toList_none, List.cons_append, List.nil_append, Nat.add_eq_zero_iff, a_nl_i, a_nl_r, a_nl_n, true_or, or_true, eq_self, a_isRA_22, a_isRA_24, a_isRA_32, a_isA_20, ok_4, ok_5, ok_6, ok_7, ok_9, ok_20, ok_21, ok_30, ok_50, ok_180, ok_192, ok_200]
  all_goals grind [ui_ap]
theorem lk_joinedMark_7 (hS : cS C K L R) {q : Int32} (hP : ∀ v, P (some (.int v)) (n, t, K, L, I, R)) : ∀ i : Int32, i ≤ 6 → ∀ (o m : Int32), 0 ≤ i → a_at (d + 1) (a_xm a_m33) 7 [some (a_rf (C + 17)), some (.int q), some (.int o), some (.int m), some (.int i)] [] (n, t, K, L, I, R) P := by
  refine up_ind 6 (fun i hk ih => ?_)
  intro o m q0
  rw [q33_7]
  repeat' first
    | with_reducible apply And.intro
    | with_reducible assumption
    | with_reducible intro _
    | with_reducible apply hP
    | with_reducible apply ih
    | with_reducible apply ck_markBy hS
    | simp only [q33_9, q33_11, q33_14, q33_15, q33_17, q33_18, q33_21, q33_23, q33_26, q33_27, q33_28, q33_30, q33_31, q33_34, q33_35, q33_38, q33_40, q33_41, q33_42, q33_43, q33_44, q33_47, q33_50, q33_53, q33_54, q33_57, q33_59, q33_62, q33_63, q33_65, q33_66, q33_67, q33_68, q33_71, q33_74, k_17 hS, z_17, r_17_4 hS, k_21 hS, l_21 hS, z_21, sp_min, sp_max, as_nil, as_i, as_r, Nat.reduceAdd, Nat.reduceLeDiff, z_eq0, z_eq1, z_or, z_em, Classical.not_not, not_false_eq_true, not_true_eq_false, true_and, and_true, false_and, and_false, and_self, true_implies, false_implies, implies_true, Option.toList_some, Option.toList_none, List.cons_append, List.nil_append, Nat.add_eq_zero_iff, a_nl_i, a_nl_r, a_nl_n, true_or, or_true, eq_self, a_isRA_22, a_isRA_24, a_isRA_32, a_isA_20, ok_4, ok_5, ok_6, ok_7, ok_9, ok_20, ok_21, ok_30, ok_50, ok_180, ok_192, ok_200]
  all_goals grind [ui_ap]
theorem ck_joinedMark (hS : cS C K L R) {q : Int32} (hP : ∀ v, P (some (.int v)) (n, t, K, L, I, R)) : a_does (d + 2) 33 [a_rf (C + 17), .int q] (n, t, K, L, I, R) P := by
  have hl := fun o m => lk_joinedMark_7 (d := d) hS (q := q) hP 0 (by decide) o m (by decide)
  rw [a_enter1 (M := a_m33) rfl (a_cat_rf (a_cat_int a_cat_nil)) (show 2 ≤ 5 by decide)]
  show a_at _ (a_xm a_m33) 0 [some (a_rf (C + 17)), some (.int q), none, none, none] [] _ _
  repeat' first
    | with_reducible apply And.intro
    | with_reducible assumption
    | with_reducible intro _
    | with_reducible apply hl
    | simp only [q33_0, q33_1, q33_2, q33_3, q33_4, q33_5, as_nil, as_i, as_r, Nat.reduceAdd, Nat.reduceLeDiff, z_eq0, z_eq1, z_or, z_em, Classical.not_not, not_false_eq_true, not_true_eq_false, true_and, and_true, false_and, and_false, and_self, true_implies, false_implies, implies_true, Option.toList_some, Option.toList_none, List.cons_append, List.nil_append, Nat.add_eq_zero_iff, a_nl_i, a_nl_r, a_nl_n, true_or, or_true, eq_self, a_isRA_22, a_isRA_24, a_isRA_32, a_isA_20, ok_4, ok_5, ok_6, ok_7, ok_9, ok_20, ok_21, ok_30, ok_50, ok_180, ok_192, ok_200]
  all_goals grind [ui_ap]
theorem lk_toldOf_4 (hS : cS C K L R) {q : Int32} (hP : ∀ v, P (some (.int v)) (n, t, K, L, I, R)) : ∀ i : Int32, i ≤ 6 → ∀ (o : Int32), 0 ≤ i → a_at d (a_xm a_m94) 4 [some (a_rf (C + 17)), some (.int q), some (.int o), some (.int i)] [] (n, t, K, L, I, R) P := by
  refine up_ind 6 (fun i hk ih => ?_)
  intro o q0
  rw [q94_4]
  repeat' first
    | with_reducible apply And.intro
    | with_reducible assumption
    | with_reducible intro _
    | with_reducible apply hP
    | with_reducible apply ih
    | simp only [q94_5, q94_7, q94_10, q94_11, q94_12, q94_15, q94_16, q94_17, q94_18, q94_19, q94_20, q94_21, q94_22, q94_23, q94_26, q94_29, q94_30, k_17 hS, z_17, r_17_2 hS, k_19 hS, l_19 hS, z_19, as_nil, as_i, as_r, Nat.reduceAdd, Nat.reduceLeDiff, z_eq0, z_eq1, z_or, z_em, Classical.not_not, not_false_eq_true, not_true_eq_false, true_and, and_true, false_and, and_false, and_self, true_implies, false_implies, implies_true, Option.toList_some, Option.toList_none, List.cons_append, List.nil_append, Nat.add_eq_zero_iff, a_nl_i, a_nl_r, a_nl_n, true_or, or_true, eq_self, a_isRA_22, a_isRA_24, a_isRA_32, a_isA_20, ok_4, ok_5, ok_6, ok_7, ok_9, ok_20, ok_21, ok_30, ok_50, ok_180, ok_192, ok_200]
  all_goals grind [ui_ap]
theorem ck_toldOf (hS : cS C K L R) {q : Int32} (hP : ∀ v, P (some (.int v)) (n, t, K, L, I, R)) : a_does (d + 1) 94 [a_rf (C + 17), .int q] (n, t, K, L, I, R) P := by
  have hl := fun o => lk_toldOf_4 (d := d) hS (q := q) hP 0 (by decide) o (by decide)
  rw [a_enter1 (M := a_m94) rfl (a_cat_rf (a_cat_int a_cat_nil)) (show 2 ≤ 4 by decide)]
  show a_at _ (a_xm a_m94) 0 [some (a_rf (C + 17)), some (.int q), none, none] [] _ _
  repeat' first
    | with_reducible apply And.intro
    | with_reducible assumption
    | with_reducible intro _
    | with_reducible apply hl
    | simp only [q94_0, q94_1, q94_2, q94_3, as_nil, as_i, as_r, Nat.reduceAdd, Nat.reduceLeDiff, z_eq0, z_eq1, z_or, z_em, Classical.not_not, not_false_eq_true, not_true_eq_false, true_and, and_true, false_and, and_false, and_self, true_implies, false_implies, implies_true, Option.toList_some, Option.toList_none, List.cons_append, List.nil_append, Nat.add_eq_zero_iff, a_nl_i, a_nl_r, a_nl_n, true_or, or_true, eq_self, a_isRA_22, a_isRA_24, a_isRA_32, a_isA_20, ok_4, ok_5, ok_6, ok_7, ok_9, ok_20, ok_21, ok_30, ok_50, ok_180, ok_192, ok_200]
  all_goals grind [ui_ap]
theorem ck_isTold (hS : cS C K L R) {r k : Int32} (hr : 0 ≤ r ∧ r < 6) (hP : ∀ v, P (some (.int v)) (n, t, K, L, I, R)) : a_does (d + 1) 93 [a_rf (C + 17), .int r, .int k] (n, t, K, L, I, R) P := by
  rw [a_enter1 (M := a_m93) rfl (a_cat_rf (a_cat_int (a_cat_int a_cat_nil))) (show 3 ≤ 3 by decide)]
  show a_at _ (a_xm a_m93) 0 [some (a_rf (C + 17)), some (.int r), some (.int k)] [] _ _
  repeat' first
    | with_reducible apply And.intro
    | with_reducible assumption
    | with_reducible intro _
    | with_reducible apply hP
    | simp only [q93_0, q93_1, q93_4, q93_5, q93_6, q93_7, q93_8, q93_9, q93_10, q93_13, q93_14, q93_17, q93_18, k_17 hS, z_17, r_17_2 hS, k_19 hS, l_19 hS, z_19, as_nil, as_i, as_r, Nat.reduceAdd, Nat.reduceLeDiff, z_eq0, z_eq1, z_or, z_em, Classical.not_not, not_false_eq_true, not_true_eq_false, true_and, and_true, false_and, and_false, and_self, true_implies, false_implies, implies_true, Option.toList_some, Option.toList_none, List.cons_append, List.nil_append, Nat.add_eq_zero_iff, a_nl_i, a_nl_r, a_nl_n, true_or, or_true, eq_self, a_isRA_22, a_isRA_24, a_isRA_32, a_isA_20, ok_4, ok_5, ok_6, ok_7, ok_9, ok_20, ok_21, ok_30, ok_50, ok_180, ok_192, ok_200]
  all_goals grind [ui_ap]
theorem ck_tellKin (hS : cS C K L R) {r g : Int32} (hr : 0 ≤ r ∧ r < 6) (hP : P (some (.int (if (I (C + 18) r.toNatClampNeg >>> (g &&& 31)) &&& 1 = 0 then 1 else 0))) (n, t, K, L, (a_ui I (C + 18) r.toNatClampNeg (I (C + 18) r.toNatClampNeg ||| (1 <<< (g &&& 31)))), R)) : a_does (d + 1) 91 [a_rf (C + 17), .int r, .int g] (n, t, K, L, I, R) P := by
  rw [a_enter1 (M := a_m91) rfl (a_cat_rf (a_cat_int (a_cat_int a_cat_nil))) (show 3 ≤ 4 by decide)]
  show a_at _ (a_xm a_m91) 0 [some (a_rf (C + 17)), some (.int r), some (.int g), none] [] _ _
  simp only [q91_0, q91_1, q91_4, q91_5, q91_6, q91_7, q91_8, q91_9, q91_10, q91_13, q91_14, q91_17, q91_18, q91_19, q91_20, q91_23, q91_24, q91_25, q91_26, q91_27, q91_28, q91_29, q91_30, q91_31, q91_32, k_17 hS, z_17, r_17_1 hS, k_18 hS, l_18 hS, z_18, as_nil, as_i, as_r, Nat.reduceAdd, Nat.reduceLeDiff, z_eq0, z_eq1, z_or, z_em, Classical.not_not, not_false_eq_true, not_true_eq_false, true_and, and_true, false_and, and_false, and_self, true_implies, false_implies, implies_true, Option.toList_some, Option.toList_none, List.cons_append, List.nil_append, Nat.add_eq_zero_iff, a_nl_i, a_nl_r, a_nl_n, true_or, or_true, eq_self, a_isRA_22, a_isRA_24, a_isRA_32, a_isA_20, ok_4, ok_5, ok_6, ok_7, ok_9, ok_20, ok_21, ok_30, ok_50, ok_180, ok_192, ok_200]
  by_cases c : (I (C + 18) r.toNatClampNeg >>> (g &&& 31)) &&& 1 = 0
  · simp only [c, if_true] at hP
    simp only [c, hP, hr, not_true_eq_false, false_implies, true_implies, and_true, true_and]
    try decide
  · simp only [c, if_false] at hP
    simp only [c, hP, hr, not_false_eq_true, false_implies, true_implies, and_true, true_and]
    try decide
theorem lk_reckonMarks_39 (hP : ∀ J, dG C K L R I0 J → P none (n, t, K, L, J, R)) : ∀ i : Int32, i ≤ 30 → ∀ J u, 0 ≤ i → dG C K L R I0 J → a_at (d + 3) (a_xm a_m27) 39 [some (a_rf (C + 17)), some (.int i), u] [] (n, t, K, L, J, R) P := by
  refine up_ind 30 (fun i hk ih => ?_)
  intro J u q0 hJ
  have hT := hJ.1
  have hS := hT.s
  have gA := hT.g_asksR
  have gB := hT.g_benchesR
  have gX := hT.g_textsR
  have gc := hT.g_asks
  have gi := gA i.toNatClampNeg
  have hw : ∀ x v, K x = 1 → dG C K L R I0 (a_ui J x 12 v) := fun x v hx => dG_askf hJ (hT.g_ask x hx).1 hx (by decide)
  rw [q27_39]
  repeat' first
    | with_reducible apply And.intro
    | with_reducible assumption
    | with_reducible intro _
    | with_reducible apply hP
    | with_reducible apply ih
    | with_reducible apply ck_joinedMark hS
    | with_reducible apply hw
    | simp only [q27_40, q27_41, q27_44, q27_47, q27_50, q27_51, q27_54, q27_55, q27_58, q27_59, q27_60, q27_63, q27_64, q27_65, q27_66, q27_69, q27_72, q27_75, q27_78, k_17 hS, z_17, r_17_0 hS, k_14 hS, z_14, sp_askAt hS gA, as_nil, as_i, as_r, Nat.reduceAdd, Nat.reduceLeDiff, z_eq0, z_eq1, z_or, z_em, Classical.not_not, not_false_eq_true, not_true_eq_false, true_and, and_true, false_and, and_false, and_self, true_implies, false_implies, implies_true, Option.toList_some, Option.toList_none, List.cons_append, List.nil_append, Nat.add_eq_zero_iff, a_nl_i, a_nl_r, a_nl_n, true_or, or_true, eq_self, a_isRA_22, a_isRA_24, a_isRA_32, a_isA_20, ok_4, ok_5, ok_6, ok_7, ok_9, ok_20, ok_21, ok_30, ok_50, ok_180, ok_192, ok_200]
  all_goals grind [ui_ap]
theorem lk_reckonMarks_2 (hP : ∀ J, dG C K L R I0 J → P none (n, t, K, L, J, R)) : ∀ i : Int32, i ≤ 6 → ∀ J u, 0 ≤ i → dG C K L R I0 J → a_at (d + 3) (a_xm a_m27) 2 [some (a_rf (C + 17)), some (.int i), u] [] (n, t, K, L, J, R) P := by
  refine up_ind 6 (fun i hk ih => ?_)
  intro J u q0 hJ
  have hT := hJ.1
  have hS := hT.s
  have hw : ∀ k v, dG C K L R I0 (a_ui J (C + 21) k v) := fun k v => dG_21 hJ
  have hl := fun u => lk_reckonMarks_39 (d := d) hP 0 (by decide) J u (by decide) hJ
  rw [q27_2]
  repeat' first
    | with_reducible apply And.intro
    | with_reducible assumption
    | with_reducible intro _
    | with_reducible apply hl
    | with_reducible apply ih
    | with_reducible apply ck_habitOf
    | with_reducible apply hw
    | simp only [q27_3, q27_5, q27_8, q27_9, q27_12, q27_13, q27_14, q27_17, q27_18, q27_21, q27_22, q27_23, q27_26, q27_29, q27_30, q27_31, q27_34, q27_37, q27_38, k_17 hS, z_17, r_17_4 hS, k_21 hS, l_21 hS, z_21, as_nil, as_i, as_r, Nat.reduceAdd, Nat.reduceLeDiff, z_eq0, z_eq1, z_or, z_em, Classical.not_not, not_false_eq_true, not_true_eq_false, true_and, and_true, false_and, and_false, and_self, true_implies, false_implies, implies_true, Option.toList_some, Option.toList_none, List.cons_append, List.nil_append, Nat.add_eq_zero_iff, a_nl_i, a_nl_r, a_nl_n, true_or, or_true, eq_self, a_isRA_22, a_isRA_24, a_isRA_32, a_isA_20, ok_4, ok_5, ok_6, ok_7, ok_9, ok_20, ok_21, ok_30, ok_50, ok_180, ok_192, ok_200]
  all_goals grind [ui_ap]
theorem ck_reckonMarks (hG : dG C K L R I0 I) (hP : ∀ J, dG C K L R I0 J → P none (n, t, K, L, J, R)) : a_does (d + 4) 27 [a_rf (C + 17)] (n, t, K, L, I, R) P := by
  have hS := hG.1.s
  have hl := fun u => lk_reckonMarks_2 (d := d) hP 0 (by decide) I u (by decide) hG
  rw [a_enter1 (M := a_m27) rfl (a_cat_rf a_cat_nil) (show 1 ≤ 3 by decide)]
  show a_at _ (a_xm a_m27) 0 [some (a_rf (C + 17)), none, none] [] _ _
  repeat' first
    | with_reducible apply And.intro
    | with_reducible assumption
    | with_reducible intro _
    | with_reducible apply hl
    | simp only [q27_0, q27_1, as_nil, as_i, as_r, Nat.reduceAdd, Nat.reduceLeDiff, z_eq0, z_eq1, z_or, z_em, Classical.not_not, not_false_eq_true, not_true_eq_false, true_and, and_true, false_and, and_false, and_self, true_implies, false_implies, implies_true, Option.toList_some, Option.toList_none, List.cons_append, List.nil_append, Nat.add_eq_zero_iff, a_nl_i, a_nl_r, a_nl_n, true_or, or_true, eq_self, a_isRA_22, a_isRA_24, a_isRA_32, a_isA_20, ok_4, ok_5, ok_6, ok_7, ok_9, ok_20, ok_21, ok_30, ok_50, ok_180, ok_192, ok_200]
  all_goals grind [ui_ap]
theorem ck_changeScaled (hT : cT C K L I R) {v : Int32} (hP : ∀ J, dG C K L R (a_ui I (C + 17) 5 v) J → P (some (.int (I (C + 17) 5))) (n, t, K, L, J, R)) : a_does (d + 5) 26 [a_rf (C + 17), .int v] (n, t, K, L, I, R) P := by
  have hS := hT.s
  have hr := dG_refl (sT_Panel_scaled hT (v := v))
  rw [a_enter1 (M := a_m26) rfl (a_cat_rf (a_cat_int a_cat_nil)) (show 2 ≤ 3 by decide)]
  show a_at _ (a_xm a_m26) 0 [some (a_rf (C + 17)), some (.int v), none] [] _ _
  repeat' first
    | with_reducible apply And.intro
    | with_reducible assumption
    | with_reducible intro _
    | with_reducible apply hP
    | with_reducible apply ck_reckonMarks hr
    | simp only [q26_0, q26_1, q26_4, q26_5, q26_6, q26_7, q26_10, q26_11, q26_14, q26_15, k_17 hS, z_17, as_nil, as_i, as_r, Nat.reduceAdd, Nat.reduceLeDiff, z_eq0, z_eq1, z_or, z_em, Classical.not_not, not_false_eq_true, not_true_eq_false, true_and, and_true, false_and, and_false, and_self, true_implies, false_implies, implies_true, Option.toList_some, Option.toList_none, List.cons_append, List.nil_append, Nat.add_eq_zero_iff, a_nl_i, a_nl_r, a_nl_n, true_or, or_true, eq_self, a_isRA_22, a_isRA_24, a_isRA_32, a_isA_20, ok_4, ok_5, ok_6, ok_7, ok_9, ok_20, ok_21, ok_30, ok_50, ok_180, ok_192, ok_200]
  all_goals grind [ui_ap]
theorem ck_tell {a : Nat} (ha : K a = 1) (hG : dG C K L R I0 I) {r v : Int32} (hr : 0 ≤ r ∧ r < 6) (hP : ∀ v J, dG C K L R I0 J → P (some (.int v)) (n, t, K, L, J, R)) : a_does (d + 5) 95 [a_rf (C + 17), .int r, a_rf a, .int v] (n, t, K, L, I, R) P := by
  have hT := hG.1
  have hS := hT.s
  obtain ⟨a1, a2, a4, a3⟩ := hT.g_ask a ha
  have a0 : (a = 0) = False := eq_false (by omega)
  have a19 : (a = C + 19) = False := eq_false (by omega)
  have a20 : (a = C + 20) = False := eq_false (by omega)
  rw [a_enter1 (M := a_m95) rfl (a_cat_rf (a_cat_int (a_cat_rf (a_cat_int a_cat_nil)))) (show 4 ≤ 5 by decide)]
  show a_at _ (a_xm a_m95) 0 [some (a_rf (C + 17)), some (.int r), some (a_rf a), some (.int v), none] [] _ _
  repeat' first
    | with_reducible apply And.intro
    | with_reducible assumption
    | with_reducible intro _
    | with_reducible apply hP
    | with_reducible apply ck_reckonMarks (I0 := I0)
    | with_reducible apply dG_20
    | with_reducible apply dG_19
    | simp only [q95_0, q95_1, q95_4, q95_5, q95_6, q95_7, q95_8, q95_9, q95_12, q95_13, q95_14, q95_15, q95_16, q95_19, q95_20, q95_21, q95_22, q95_25, q95_26, q95_27, q95_28, q95_31, q95_32, q95_33, q95_34, q95_36, q95_37, q95_38, q95_41, q95_42, q95_44, q95_46, q95_49, q95_51, q95_52, q95_55, q95_56, q95_59, q95_60, q95_63, q95_65, q95_66, q95_67, q95_68, q95_71, q95_72, k_17 hS, z_17, r_17_2 hS, k_19 hS, l_19 hS, z_19, r_17_1 hS, k_18 hS, l_18 hS, z_18, r_17_3 hS, k_20 hS, l_20 hS, z_20, as_nil, as_i, as_r, Nat.reduceAdd, Nat.reduceLeDiff, z_eq0, z_eq1, z_or, z_em, Classical.not_not, not_false_eq_true, not_true_eq_false, true_and, and_true, false_and, and_false, and_self, true_implies, false_implies, implies_true, Option.toList_some, Option.toList_none, List.cons_append, List.nil_append, Nat.add_eq_zero_iff, a_nl_i, a_nl_r, a_nl_n, true_or, or_true, eq_self, a_isRA_22, a_isRA_24, a_isRA_32, a_isA_20, ok_4, ok_5, ok_6, ok_7, ok_9, ok_20, ok_21, ok_30, ok_50, ok_180, ok_192, ok_200, ha, a0, of_180, a19, ui_ap, cc_ne, cc_n0, cc_0n, Nat.reduceEqDiff, reduceIte, if_true, if_false]
  all_goals grind [ui_ap]
end K9
/-! the class: public methods -/
section KI
variable {d n t C c n0 n' n'' t' : Nat} {K L K0 L0 K' L' K'' L'' : Nat → Nat} {I I0 J J0 J1 J2 : Nat → Nat → Int32} {R R0 R' R'' : Nat → Nat → Nat} {P : Option Value → AH → Prop}
theorem ck_refuse (hZ : cZ C c n0 K0 L0 I0 R0 n t K L I R) {v : Int32} (hP : ∀ J, cZ C c n0 K0 L0 I0 R0 n t K L J R → P (some (.int v)) (n, t, K, L, J, R)) : a_does (d + 1) 10 [a_rf C, .int v] (n, t, K, L, I, R) P := by
  have hT := hZ.2.1.1
  have hS := hT.s
  have hw : ∀ k w, cZ C c n0 K0 L0 I0 R0 n t K L (a_ui I (C + 42) k w) R := fun k w => cZ_G hZ (dG_42 (dG_refl hT))
  rw [a_enter1 (M := a_m10) rfl (a_cat_rf (a_cat_int a_cat_nil)) (show 2 ≤ 2 by decide)]
  show a_at _ (a_xm a_m10) 0 [some (a_rf C), some (.int v)] [] _ _
  repeat' first
    | with_reducible apply And.intro
    | with_reducible assumption
    | with_reducible intro _
    | with_reducible apply hP
    | with_reducible apply hw
    | simp only [q10_0, q10_1, q10_4, q10_5, q10_7, q10_10, q10_11, q10_14, q10_15, q10_16, q10_17, q10_18, q10_19, q10_20, q10_21, q10_22, k_0 hS, z_C hS, r_0_8 hS, k_42 hS, l_42 hS, z_42, as_nil, as_i, as_r, Nat.reduceAdd, Nat.reduceLeDiff, z_eq0, z_eq1, z_or, z_em, Classical.not_not, not_false_eq_true, not_true_eq_false, true_and, and_true, false_and, and_false, and_self, true_implies, false_implies, implies_true, Option.toList_some, Option.toList_none, List.cons_append, List.nil_append, Nat.add_eq_zero_iff, a_nl_i, a_nl_r, a_nl_n, true_or, or_true, eq_self, a_isRA_22, a_isRA_24, a_isRA_32, a_isA_20, ok_4, ok_5, ok_6, ok_7, ok_9, ok_20, ok_21, ok_30, ok_50, ok_180, ok_192, ok_200]
  all_goals ((try clear ih); (try clear hP); (try clear hl); (try clear hq); (try clear a3); grind [ui_ap])
theorem lk_isLost_2 (hT : cT C K L I R) {h k : Int32} (hP : ∀ v, P (some (.int v)) (n, t, K, L, I, R)) : ∀ i : Int32, i ≤ 20 → 0 ≤ i → a_at d (a_xm a_m19) 2 [some (a_rf (C + 1)), some (.int h), some (.int k), some (.int i)] [] (n, t, K, L, I, R) P := by
  have hS := hT.s
  have g := hT.g_trips
  refine up_ind 20 (fun i hk ih => ?_)
  intro q0
  rw [q19_2]
  repeat' first
    | with_reducible apply And.intro
    | with_reducible assumption
    | with_reducible intro _
    | with_reducible apply hP
    | with_reducible apply ih
    | simp only [q19_3, q19_4, q19_7, q19_10, q19_11, q19_14, q19_15, q19_16, q19_17, q19_20, q19_21, q19_22, q19_25, q19_26, q19_27, q19_30, q19_31, q19_32, q19_35, q19_36, q19_37, q19_40, q19_41, q19_42, q19_45, q19_48, q19_49, k_1 hS, z_1, r_1_4 hS, k_6 hS, l_6 hS, z_6, r_1_2 hS, k_4 hS, l_4 hS, z_4, r_1_3 hS, k_5 hS, l_5 hS, z_5, as_nil, as_i, as_r, Nat.reduceAdd, Nat.reduceLeDiff, z_eq0, z_eq1, z_or, z_em, Classical.not_not, not_false_eq_true, not_true_eq_false, true_and, and_true, false_and, and_false, and_self, true_implies, false_implies, implies_true, Option.toList_some, Option.toList_none, List.cons_append, List.nil_append, Nat.add_eq_zero_iff, a_nl_i, a_nl_r, a_nl_n, true_or, or_true, eq_self, a_isRA_22, a_isRA_24, a_isRA_32, a_isA_20, ok_4, ok_5, ok_6, ok_7, ok_9, ok_20, ok_21, ok_30, ok_50, ok_180, ok_192, ok_200]
  all_goals ((try clear ih); (try clear hP); (try clear hl); (try clear hq); (try clear a3); grind [ui_ap])
theorem ck_isLost (hT : cT C K L I R) {h k : Int32} (hP : ∀ v, P (some (.int v)) (n, t, K, L, I, R)) : a_does (d + 1) 19 [a_rf (C + 1), .int h, .int k] (n, t, K, L, I, R) P := by
  have hl := lk_isLost_2 (d := d) hT (h := h) (k := k) hP 0 (by decide) (by decide)
  rw [a_enter1 (M := a_m19) rfl (a_cat_rf (a_cat_int (a_cat_int a_cat_nil))) (show 3 ≤ 4 by decide)]
  show a_at _ (a_xm a_m19) 0 [some (a_rf (C + 1)), some (.int h), some (.int k), none] [] _ _
  repeat' first
    | with_reducible apply And.intro
    | with_reducible assumption
    | with_reducible intro _
    | with_reducible apply hl
    | simp only [q19_0, q19_1, as_nil, as_i, as_r, Nat.reduceAdd, Nat.reduceLeDiff, z_eq0, z_eq1, z_or, z_em, Classical.not_not, not_false_eq_true, not_true_eq_false, true_and, and_true, false_and, and_false, and_self, true_implies, false_implies, implies_true, Option.toList_some, Option.toList_none, List.cons_append, List.nil_append, Nat.add_eq_zero_iff, a_nl_i, a_nl_r, a_nl_n, true_or, or_true, eq_self, a_isRA_22, a_isRA_24, a_isRA_32, a_isA_20, ok_4, ok_5, ok_6, ok_7, ok_9, ok_20, ok_21, ok_30, ok_50, ok_180, ok_192, ok_200]
  all_goals ((try clear ih); (try clear hP); (try clear hl); (try clear hq); (try clear a3); grind [ui_ap])
theorem lk_lostAsKnown_5 (hT : cT C K L I R) {s k : Int32} (hP : ∀ v, P (some (.int v)) (n, t, K, L, I, R)) : ∀ i : Int32, i ≤ 8 → ∀ o, 0 ≤ i → a_at (d + 1) (a_xm a_m18) 5 [some (a_rf (C + 1)), some (.int s), some (.int k), some (.int o), some (.int i)] [] (n, t, K, L, I, R) P := by
  have hS := hT.s
  refine up_ind 8 (fun i hk ih => ?_)
  intro o q0
  rw [q18_5]
  repeat' first
    | with_reducible apply And.intro
    | with_reducible assumption
    | with_reducible intro _
    | with_reducible apply hP
    | with_reducible apply ih
    | with_reducible apply ck_isLost hT
    | simp only [q18_7, q18_9, q18_12, q18_13, q18_14, q18_16, q18_17, q18_19, q18_20, q18_21, q18_24, q18_27, q18_30, q18_33, q18_36, q18_37, k_1 hS, z_1, as_nil, as_i, as_r, Nat.reduceAdd, Nat.reduceLeDiff, z_eq0, z_eq1, z_or, z_em, Classical.not_not, not_false_eq_true, not_true_eq_false, true_and, and_true, false_and, and_false, and_self, true_implies, false_implies, implies_true, Option.toList_some, Option.toList_none, List.cons_append, List.nil_append, Nat.add_eq_zero_iff, a_nl_i, a_nl_r, a_nl_n, true_or, or_true, eq_self, a_isRA_22, a_isRA_24, a_isRA_32, a_isA_20, ok_4, ok_5, ok_6, ok_7, ok_9, ok_20, ok_21, ok_30, ok_50, ok_180, ok_192, ok_200]
  all_goals ((try clear ih); (try clear hP); (try clear hl); (try clear hq); (try clear a3); grind [ui_ap])
theorem ck_lostAsKnown (hT : cT C K L I R) {s k : Int32} (hP : ∀ v, P (some (.int v)) (n, t, K, L, I, R)) : a_does (d + 2) 18 [a_rf (C + 1), .int s, .int k] (n, t, K, L, I, R) P := by
  have hl := lk_lostAsKnown_5 (d := d) hT (s := s) (k := k) hP 0 (by decide) 0 (by decide)
  rw [a_enter1 (M := a_m18) rfl (a_cat_rf (a_cat_int (a_cat_int a_cat_nil))) (show 3 ≤ 5 by decide)]
  show a_at _ (a_xm a_m18) 0 [some (a_rf (C + 1)), some (.int s), some (.int k), none, none] [] _ _
  repeat' first
    | with_reducible apply And.intro
    | with_reducible assumption
    | with_reducible intro _
    | with_reducible apply hl
    | simp only [q18_0, q18_1, q18_2, q18_3, as_nil, as_i, as_r, Nat.reduceAdd, Nat.reduceLeDiff, z_eq0, z_eq1, z_or, z_em, Classical.not_not, not_false_eq_true, not_true_eq_false, true_and, and_true, false_and, and_false, and_self, true_implies, false_implies, implies_true, Option.toList_some, Option.toList_none, List.cons_append, List.nil_append, Nat.add_eq_zero_iff, a_nl_i, a_nl_r, a_nl_n, true_or, or_true, eq_self, a_isRA_22, a_isRA_24, a_isRA_32, a_isA_20, ok_4, ok_5, ok_6, ok_7, ok_9, ok_20, ok_21, ok_30, ok_50, ok_180, ok_192, ok_200]
  all_goals ((try clear ih); (try clear hP); (try clear hl); (try clear hq); (try clear a3); grind [ui_ap])
theorem lk_firstWrong_3 (hT : cT C K L I R) {b : Nat} (hb : K b = 3) {a k : Int32} (ha : 0 ≤ a) (hr : a + I C 10 ≤ 200) (hr2 : a < 200) (hP : ∀ v, P (some (.int v)) (n, t, K, L, I, R)) : ∀ i : Int32, i ≤ 21 → 0 ≤ i → a_at (d + 1) (a_xm a_m165) 3 [some (a_rf C), some (a_rf b), some (.int a), some (.int k), some (.int i)] [] (n, t, K, L, I, R) P := by
  have hS := hT.s
  have g := hT.g_row
  have b0 : (b = 0) = False := eq_false (by have := (hT.g_bnc b hb).1; omega)
  refine up_ind 21 (fun i hk ih => ?_)
  intro q0
  rw [q165_3]
  repeat' first
    | with_reducible apply And.intro
    | with_reducible assumption
    | with_reducible intro _
    | with_reducible apply hP
    | with_reducible apply ih
    | with_reducible apply ck_knownOn hb hT
    | simp only [q165_5, q165_6, q165_9, q165_12, q165_13, q165_14, q165_16, q165_17, q165_18, q165_21, q165_22, q165_25, q165_27, q165_28, q165_31, q165_33, q165_34, q165_37, q165_40, q165_42, k_0 hS, z_C hS, r_0_9 hS, k_43 hS, l_43 hS, z_43, as_nil, as_i, as_r, Nat.reduceAdd, Nat.reduceLeDiff, z_eq0, z_eq1, z_or, z_em, Classical.not_not, not_false_eq_true, not_true_eq_false, true_and, and_true, false_and, and_false, and_self, true_implies, false_implies, implies_true, Option.toList_some, Option.toList_none, List.cons_append, List.nil_append, Nat.add_eq_zero_iff, a_nl_i, a_nl_r, a_nl_n, true_or, or_true, eq_self, a_isRA_22, a_isRA_24, a_isRA_32, a_isA_20, ok_4, ok_5, ok_6, ok_7, ok_9, ok_20, ok_21, ok_30, ok_50, ok_180, ok_192, ok_200, hb, b0]
  all_goals ((try clear ih); (try clear hP); (try clear hl); (try clear hq); (try clear a3); grind [ui_ap])
theorem ck_firstWrong (hT : cT C K L I R) {b : Nat} (hb : K b = 3) {a k : Int32} (ha : 0 ≤ a) (hr : a + I C 10 ≤ 200) (hr2 : a < 200) (hP : ∀ v, P (some (.int v)) (n, t, K, L, I, R)) : a_does (d + 2) 165 [a_rf C, a_rf b, .int a, .int k] (n, t, K, L, I, R) P := by
  have hl := lk_firstWrong_3 (d := d) hT hb ha hr hr2 (k := k) hP 0 (by decide) (by decide)
  rw [a_enter1 (M := a_m165) rfl (a_cat_rf (a_cat_rf (a_cat_int (a_cat_int a_cat_nil)))) (show 4 ≤ 5 by decide)]
  show a_at _ (a_xm a_m165) 0 [some (a_rf C), some (a_rf b), some (.int a), some (.int k), none] [] _ _
  repeat' first
    | with_reducible apply And.intro
    | with_reducible assumption
    | with_reducible intro _
    | with_reducible apply hl
    | simp only [q165_0, q165_1, as_nil, as_i, as_r, Nat.reduceAdd, Nat.reduceLeDiff, z_eq0, z_eq1, z_or, z_em, Classical.not_not, not_false_eq_true, not_true_eq_false, true_and, and_true, false_and, and_false, and_self, true_implies, false_implies, implies_true, Option.toList_some, Option.toList_none, List.cons_append, List.nil_append, Nat.add_eq_zero_iff, a_nl_i, a_nl_r, a_nl_n, true_or, or_true, eq_self, a_isRA_22, a_isRA_24, a_isRA_32, a_isA_20, ok_4, ok_5, ok_6, ok_7, ok_9, ok_20, ok_21, ok_30, ok_50, ok_180, ok_192, ok_200]
  all_goals ((try clear ih); (try clear hP); (try clear hl); (try clear hq); (try clear a3); grind [ui_ap])
theorem cu_shiftOf (hH : cH C c (n + 1) t K L I R) {s w k : Int32} (hP : ∀ v n' t' K' L' J R', cZ C (c + 4) (n + 1) K L I R (n' + 1) t' K' L' J R' → P (some (.int v)) (n' + 1, t', K', L', J, R')) : a_does (d + 70) 17 [a_rf C, .int s, .int w, .int k] (n + 1, t, K, L, I, R) P := by
  have hT := hH.1
  have hS := hT.s
  have hZ := cZ_refl hH
  have hq : ∀ v J R1, cZ C c (n + 1) K L I R (n + 1) t K L J R1 → P (some (.int v)) (n + 1, t, K, L, J, R1) := fun v J R1 z => hP v n t K L J R1 (cZ_le z (by omega))
  clear hP
  have gA := hT.g_asksR
  have gB := hT.g_benchesR
  have gX := hT.g_textsR
  rw [a_enter1 (M := a_m17) rfl (a_cat_rf (a_cat_int (a_cat_int (a_cat_int a_cat_nil)))) (show 4 ≤ 4 by decide)]
  show a_at _ (a_xm a_m17) 0 [some (a_rf C), some (.int s), some (.int w), some (.int k)] [] _ _
  repeat' first
    | with_reducible apply And.intro
    | with_reducible assumption
    | with_reducible intro _
    | exact hq _ _ _ hZ
    | exact hq _ _ _ (by assumption)
    | exact hq _ _ _ (cZ_C hZ (by assumption))
    | exact hq _ _ _ (cZ_G hZ (by assumption))
    | exact hq _ _ _ (cZ_L hZ (by assumption))
    | refine ck_refuse hZ (fun _ _ => ?_)
    | refine ck_refuse (cZ_C hZ (by assumption)) (fun _ _ => ?_)
    | exact dC_T (by assumption)
    | exact dG_refl hT
    | with_reducible apply ck_lostAsKnown hT
    | simp only [q17_0, q17_1, q17_4, q17_7, q17_8, q17_9, q17_12, q17_13, q17_14, q17_17, q17_18, q17_19, q17_22, q17_23, q17_25, q17_28, q17_29, q17_30, q17_33, q17_34, q17_36, q17_39, q17_40, q17_41, q17_42, q17_45, q17_48, q17_51, q17_52, q17_54, q17_57, q17_58, q17_59, q17_62, q17_63, q17_66, q17_69, q17_70, q17_71, q17_74, q17_75, q17_78, q17_79, q17_80, q17_83, k_0 hS, z_C hS, r_0_0 hS, k_1 hS, z_1, r_1_0 hS, k_2 hS, l_2 hS, z_2, sp_isShiftC, as_nil, as_i, as_r, Nat.reduceAdd, Nat.reduceLeDiff, z_eq0, z_eq1, z_or, z_em, Classical.not_not, not_false_eq_true, not_true_eq_false, true_and, and_true, false_and, and_false, and_self, true_implies, false_implies, implies_true, Option.toList_some, Option.toList_none, List.cons_append, List.nil_append, Nat.add_eq_zero_iff, a_nl_i, a_nl_r, a_nl_n, true_or, or_true, eq_self, a_isRA_22, a_isRA_24, a_isRA_32, a_isA_20, ok_4, ok_5, ok_6, ok_7, ok_9, ok_20, ok_21, ok_30, ok_50, ok_180, ok_192, ok_200]
  all_goals ((try clear ih); (try clear hP); (try clear hl); (try clear hq); (try clear hZ); (try clear hH); grind [ui_ap])
theorem cu_markOf (hH : cH C c (n + 1) t K L I R) {q : Int32} (hP : ∀ v n' t' K' L' J R', cZ C (c + 4) (n + 1) K L I R (n' + 1) t' K' L' J R' → P (some (.int v)) (n' + 1, t', K', L', J, R')) : a_does (d + 70) 96 [a_rf C, .int q] (n + 1, t, K, L, I, R) P := by
  have hT := hH.1
  have hS := hT.s
  have hZ := cZ_refl hH
  have hq : ∀ v J R1, cZ C c (n + 1) K L I R (n + 1) t K L J R1 → P (some (.int v)) (n + 1, t, K, L, J, R1) := fun v J R1 z => hP v n t K L J R1 (cZ_le z (by omega))
  clear hP
  have gA := hT.g_asksR
  have gB := hT.g_benchesR
  have gX := hT.g_textsR
  have gi := gA q.toNatClampNeg
  have ga := fun h => hT.g_ask (R (C + 15) q.toNatClampNeg) (gi.resolve_left h)
  rw [a_enter1 (M := a_m96) rfl (a_cat_rf (a_cat_int a_cat_nil)) (show 2 ≤ 3 by decide)]
  show a_at _ (a_xm a_m96) 0 [some (a_rf C), some (.int q), none] [] _ _
  repeat' first
    | with_reducible apply And.intro
    | with_reducible assumption
    | with_reducible intro _
    | exact hq _ _ _ hZ
    | exact hq _ _ _ (by assumption)
    | exact hq _ _ _ (cZ_C hZ (by assumption))
    | exact hq _ _ _ (cZ_G hZ (by assumption))
    | exact hq _ _ _ (cZ_L hZ (by assumption))
    | refine ck_refuse hZ (fun _ _ => ?_)
    | refine ck_refuse (cZ_C hZ (by assumption)) (fun _ _ => ?_)
    | exact dC_T (by assumption)
    | exact dG_refl hT
    | simp only [q96_0, q96_1, q96_4, q96_5, q96_8, q96_9, q96_10, q96_13, q96_14, q96_15, q96_18, q96_21, q96_22, q96_25, k_0 hS, z_C hS, r_0_4 hS, k_14 hS, z_14, sp_askAt hS gA, as_nil, as_i, as_r, Nat.reduceAdd, Nat.reduceLeDiff, z_eq0, z_eq1, z_or, z_em, Classical.not_not, not_false_eq_true, not_true_eq_false, true_and, and_true, false_and, and_false, and_self, true_implies, false_implies, implies_true, Option.toList_some, Option.toList_none, List.cons_append, List.nil_append, Nat.add_eq_zero_iff, a_nl_i, a_nl_r, a_nl_n, true_or, or_true, eq_self, a_isRA_22, a_isRA_24, a_isRA_32, a_isA_20, ok_4, ok_5, ok_6, ok_7, ok_9, ok_20, ok_21, ok_30, ok_50, ok_180, ok_192, ok_200]
  all_goals ((try clear ih); (try clear hP); (try clear hl); (try clear hq); (try clear hZ); (try clear hH); grind [ui_ap])
theorem cu_habit (hH : cH C c (n + 1) t K L I R) {q w : Int32} (hP : ∀ v n' t' K' L' J R', cZ C (c + 4) (n + 1) K L I R (n' + 1) t' K' L' J R' → P (some (.int v)) (n' + 1, t', K', L', J, R')) : a_does (d + 70) 97 [a_rf C, .int q, .int w] (n + 1, t, K, L, I, R) P := by
  have hT := hH.1
  have hS := hT.s
  have hZ := cZ_refl hH
  have hq : ∀ v J R1, cZ C c (n + 1) K L I R (n + 1) t K L J R1 → P (some (.int v)) (n + 1, t, K, L, J, R1) := fun v J R1 z => hP v n t K L J R1 (cZ_le z (by omega))
  clear hP
  have gA := hT.g_asksR
  have gB := hT.g_benchesR
  have gX := hT.g_textsR
  rw [a_enter1 (M := a_m97) rfl (a_cat_rf (a_cat_int (a_cat_int a_cat_nil))) (show 3 ≤ 3 by decide)]
  show a_at _ (a_xm a_m97) 0 [some (a_rf C), some (.int q), some (.int w)] [] _ _
  repeat' first
    | with_reducible apply And.intro
    | with_reducible assumption
    | with_reducible intro _
    | exact hq _ _ _ hZ
    | exact hq _ _ _ (by assumption)
    | exact hq _ _ _ (cZ_C hZ (by assumption))
    | exact hq _ _ _ (cZ_G hZ (by assumption))
    | exact hq _ _ _ (cZ_L hZ (by assumption))
    | refine ck_refuse hZ (fun _ _ => ?_)
    | refine ck_refuse (cZ_C hZ (by assumption)) (fun _ _ => ?_)
    | exact dC_T (by assumption)
    | exact dG_refl hT
    | with_reducible apply ck_habitOf hT
    | with_reducible apply ck_doubtOf hT
    | simp only [q97_0, q97_1, q97_4, q97_7, q97_10, q97_11, q97_12, q97_15, q97_16, q97_17, q97_18, q97_21, q97_22, q97_23, q97_26, q97_29, q97_30, q97_32, q97_35, q97_36, q97_37, q97_38, q97_41, q97_42, q97_45, q97_46, q97_49, q97_52, q97_53, q97_56, q97_57, q97_60, k_0 hS, z_C hS, r_0_3 hS, k_17 hS, z_17, sp_isReaderC, as_nil, as_i, as_r, Nat.reduceAdd, Nat.reduceLeDiff, z_eq0, z_eq1, z_or, z_em, Classical.not_not, not_false_eq_true, not_true_eq_false, true_and, and_true, false_and, and_false, and_self, true_implies, false_implies, implies_true, Option.toList_some, Option.toList_none, List.cons_append, List.nil_append, Nat.add_eq_zero_iff, a_nl_i, a_nl_r, a_nl_n, true_or, or_true, eq_self, a_isRA_22, a_isRA_24, a_isRA_32, a_isA_20, ok_4, ok_5, ok_6, ok_7, ok_9, ok_20, ok_21, ok_30, ok_50, ok_180, ok_192, ok_200]
  all_goals ((try clear ih); (try clear hP); (try clear hl); (try clear hq); (try clear hZ); (try clear hH); grind [ui_ap])
theorem cu_fit (hH : cH C c (n + 1) t K L I R) {q b s : Int32} (hP : ∀ v n' t' K' L' J R', cZ C (c + 4) (n + 1) K L I R (n' + 1) t' K' L' J R' → P (some (.int v)) (n' + 1, t', K', L', J, R')) : a_does (d + 70) 99 [a_rf C, .int q, .int b, .int s] (n + 1, t, K, L, I, R) P := by
  have hT := hH.1
  have hS := hT.s
  have hZ := cZ_refl hH
  have hq : ∀ v J R1, cZ C c (n + 1) K L I R (n + 1) t K L J R1 → P (some (.int v)) (n + 1, t, K, L, J, R1) := fun v J R1 z => hP v n t K L J R1 (cZ_le z (by omega))
  clear hP
  have gA := hT.g_asksR
  have gB := hT.g_benchesR
  have gX := hT.g_textsR
  have gi := gA q.toNatClampNeg
  have ga := fun h => hT.g_ask (R (C + 15) q.toNatClampNeg) (gi.resolve_left h)
  have gb := gB b.toNatClampNeg
  rw [a_enter1 (M := a_m99) rfl (a_cat_rf (a_cat_int (a_cat_int (a_cat_int a_cat_nil)))) (show 4 ≤ 5 by decide)]
  show a_at _ (a_xm a_m99) 0 [some (a_rf C), some (.int q), some (.int b), some (.int s), none] [] _ _
  repeat' first
    | with_reducible apply And.intro
    | with_reducible assumption
    | with_reducible intro _
    | exact hq _ _ _ hZ
    | exact hq _ _ _ (by assumption)
    | exact hq _ _ _ (cZ_C hZ (by assumption))
    | exact hq _ _ _ (cZ_G hZ (by assumption))
    | exact hq _ _ _ (cZ_L hZ (by assumption))
    | refine ck_refuse hZ (fun _ _ => ?_)
    | refine ck_refuse (cZ_C hZ (by assumption)) (fun _ _ => ?_)
    | exact dC_T (by assumption)
    | exact dG_refl hT
    | with_reducible apply ck_firstBar ?_ hT
    | simp only [q99_0, q99_1, q99_4, q99_5, q99_8, q99_10, q99_12, q99_15, q99_16, q99_19, q99_20, q99_23, q99_26, q99_27, q99_30, q99_33, q99_34, q99_35, q99_38, q99_39, q99_40, q99_43, q99_45, q99_46, q99_47, q99_50, k_0 hS, z_C hS, r_0_4 hS, k_14 hS, z_14, sp_askAt hS gA, sp_benchAt hS gB, sp_isShiftC, as_nil, as_i, as_r, Nat.reduceAdd, Nat.reduceLeDiff, z_eq0, z_eq1, z_or, z_em, Classical.not_not, not_false_eq_true, not_true_eq_false, true_and, and_true, false_and, and_false, and_self, true_implies, false_implies, implies_true, Option.toList_some, Option.toList_none, List.cons_append, List.nil_append, Nat.add_eq_zero_iff, a_nl_i, a_nl_r, a_nl_n, true_or, or_true, eq_self, a_isRA_22, a_isRA_24, a_isRA_32, a_isA_20, ok_4, ok_5, ok_6, ok_7, ok_9, ok_20, ok_21, ok_30, ok_50, ok_180, ok_192, ok_200]
  all_goals ((try clear ih); (try clear hP); (try clear hl); (try clear hq); (try clear hZ); (try clear hH); grind [ui_ap])
theorem cu_passed (hH : cH C c (n + 1) t K L I R) {w : Int32} (hP : ∀ v n' t' K' L' J R', cZ C (c + 4) (n + 1) K L I R (n' + 1) t' K' L' J R' → P (some (.int v)) (n' + 1, t', K', L', J, R')) : a_does (d + 70) 125 [a_rf C, .int w] (n + 1, t, K, L, I, R) P := by
  have hT := hH.1
  have hS := hT.s
  have hZ := cZ_refl hH
  have hq : ∀ v J R1, cZ C c (n + 1) K L I R (n + 1) t K L J R1 → P (some (.int v)) (n + 1, t, K, L, J, R1) := fun v J R1 z => hP v n t K L J R1 (cZ_le z (by omega))
  clear hP
  have gA := hT.g_asksR
  have gB := hT.g_benchesR
  have gX := hT.g_textsR
  rw [a_enter1 (M := a_m125) rfl (a_cat_rf (a_cat_int a_cat_nil)) (show 2 ≤ 2 by decide)]
  show a_at _ (a_xm a_m125) 0 [some (a_rf C), some (.int w)] [] _ _
  repeat' first
    | with_reducible apply And.intro
    | with_reducible assumption
    | with_reducible intro _
    | exact hq _ _ _ hZ
    | exact hq _ _ _ (by assumption)
    | exact hq _ _ _ (cZ_C hZ (by assumption))
    | exact hq _ _ _ (cZ_G hZ (by assumption))
    | exact hq _ _ _ (cZ_L hZ (by assumption))
    | refine ck_refuse hZ (fun _ _ => ?_)
    | refine ck_refuse (cZ_C hZ (by assumption)) (fun _ _ => ?_)
    | exact dC_T (by assumption)
    | exact dG_refl hT
    | with_reducible apply ck_passedAt hT
    | simp only [q125_0, q125_1, q125_2, q125_5, q125_6, q125_8, q125_11, q125_12, q125_13, q125_14, q125_17, q125_18, q125_21, q125_24, q125_27, q125_28, q125_31, q125_32, q125_35, k_0 hS, z_C hS, r_0_5 hS, k_22 hS, z_22, as_nil, as_i, as_r, Nat.reduceAdd, Nat.reduceLeDiff, z_eq0, z_eq1, z_or, z_em, Classical.not_not, not_false_eq_true, not_true_eq_false, true_and, and_true, false_and, and_false, and_self, true_implies, false_implies, implies_true, Option.toList_some, Option.toList_none, List.cons_append, List.nil_append, Nat.add_eq_zero_iff, a_nl_i, a_nl_r, a_nl_n, true_or, or_true, eq_self, a_isRA_22, a_isRA_24, a_isRA_32, a_isA_20, ok_4, ok_5, ok_6, ok_7, ok_9, ok_20, ok_21, ok_30, ok_50, ok_180, ok_192, ok_200]
  all_goals ((try clear ih); (try clear hP); (try clear hl); (try clear hq); (try clear hZ); (try clear hH); grind [ui_ap])
theorem cu_why (hH : cH C c (n + 1) t K L I R) {q b s x y : Int32} (hP : ∀ v n' t' K' L' J R', cZ C (c + 4) (n + 1) K L I R (n' + 1) t' K' L' J R' → P (some (.int v)) (n' + 1, t', K', L', J, R')) : a_does (d + 70) 127 [a_rf C, .int q, .int b, .int s, .int x, .int y] (n + 1, t, K, L, I, R) P := by
  have hT := hH.1
  have hS := hT.s
  have hZ := cZ_refl hH
  have hq : ∀ v J R1, cZ C c (n + 1) K L I R (n + 1) t K L J R1 → P (some (.int v)) (n + 1, t, K, L, J, R1) := fun v J R1 z => hP v n t K L J R1 (cZ_le z (by omega))
  clear hP
  have gA := hT.g_asksR
  have gB := hT.g_benchesR
  have gX := hT.g_textsR
  have gi := gA q.toNatClampNeg
  have ga := fun h => hT.g_ask (R (C + 15) q.toNatClampNeg) (gi.resolve_left h)
  have gb := gB b.toNatClampNeg
  rw [a_enter1 (M := a_m127) rfl (a_cat_rf (a_cat_int (a_cat_int (a_cat_int (a_cat_int (a_cat_int a_cat_nil)))))) (show 6 ≤ 8 by decide)]
  show a_at _ (a_xm a_m127) 0 [some (a_rf C), some (.int q), some (.int b), some (.int s), some (.int x), some (.int y), none, none] [] _ _
  repeat' first
    | with_reducible apply And.intro
    | with_reducible assumption
    | with_reducible intro _
    | exact hq _ _ _ hZ
    | exact hq _ _ _ (by assumption)
    | exact hq _ _ _ (cZ_C hZ (by assumption))
    | exact hq _ _ _ (cZ_G hZ (by assumption))
    | exact hq _ _ _ (cZ_L hZ (by assumption))
    | refine ck_refuse hZ (fun _ _ => ?_)
    | refine ck_refuse (cZ_C hZ (by assumption)) (fun _ _ => ?_)
    | exact dC_T (by assumption)
    | exact dG_refl hT
    | with_reducible apply ck_firstBar ?_ hT
    | with_reducible apply ck_isInShare
    | simp only [q127_0, q127_1, q127_4, q127_5, q127_8, q127_10, q127_12, q127_15, q127_16, q127_19, q127_20, q127_23, q127_26, q127_28, q127_30, q127_33, q127_36, q127_37, q127_39, q127_42, q127_43, q127_45, q127_48, q127_49, q127_50, q127_53, q127_54, q127_55, q127_58, q127_60, q127_61, q127_62, q127_65, q127_67, q127_69, q127_72, q127_73, q127_76, q127_78, q127_80, q127_82, q127_85, q127_88, q127_90, q127_93, q127_95, k_0 hS, z_C hS, r_0_4 hS, k_14 hS, z_14, r_0_5 hS, k_22 hS, z_22, sp_askAt hS gA, sp_benchAt hS gB, sp_areShifts, as_nil, as_i, as_r, Nat.reduceAdd, Nat.reduceLeDiff, z_eq0, z_eq1, z_or, z_em, Classical.not_not, not_false_eq_true, not_true_eq_false, true_and, and_true, false_and, and_false, and_self, true_implies, false_implies, implies_true, Option.toList_some, Option.toList_none, List.cons_append, List.nil_append, Nat.add_eq_zero_iff, a_nl_i, a_nl_r, a_nl_n, true_or, or_true, eq_self, a_isRA_22, a_isRA_24, a_isRA_32, a_isA_20, ok_4, ok_5, ok_6, ok_7, ok_9, ok_20, ok_21, ok_30, ok_50, ok_180, ok_192, ok_200]
  all_goals ((try clear ih); (try clear hP); (try clear hl); (try clear hq); (try clear hZ); (try clear hH); grind [ui_ap])
theorem cu_hosts (hH : cH C c (n + 1) t K L I R) {b s : Int32} (hP : ∀ v n' t' K' L' J R', cZ C (c + 4) (n + 1) K L I R (n' + 1) t' K' L' J R' → P (some (.int v)) (n' + 1, t', K', L', J, R')) : a_does (d + 70) 140 [a_rf C, .int b, .int s] (n + 1, t, K, L, I, R) P := by
  have hT := hH.1
  have hS := hT.s
  have hZ := cZ_refl hH
  have hq : ∀ v J R1, cZ C c (n + 1) K L I R (n + 1) t K L J R1 → P (some (.int v)) (n + 1, t, K, L, J, R1) := fun v J R1 z => hP v n t K L J R1 (cZ_le z (by omega))
  clear hP
  have gA := hT.g_asksR
  have gB := hT.g_benchesR
  have gX := hT.g_textsR
  have gb := gB b.toNatClampNeg
  have hw : K (R (C + 16) b.toNatClampNeg) = 3 → K (R (R (C + 16) b.toNatClampNeg) 3) = 20 ∧ L (R (R (C + 16) b.toNatClampNeg) 3) = 200 ∧ ¬ R (R (C + 16) b.toNatClampNeg) 3 = 0 := fun hb => by
    obtain ⟨b1, -, ⟨w1, w2, w3⟩, -⟩ := hT.g_bnc _ hb
    exact ⟨w2, w3, by omega⟩
  have ho : 0 ≤ s ∧ s < 200 → K (R (C + 16) b.toNatClampNeg) = 3 → a_ok s (L (R (R (C + 16) b.toNatClampNeg) 3)) := fun h1 h2 => by rw [(hw h2).2.1, ok_200]; exact h1
  rw [a_enter1 (M := a_m140) rfl (a_cat_rf (a_cat_int (a_cat_int a_cat_nil))) (show 3 ≤ 4 by decide)]
  show a_at _ (a_xm a_m140) 0 [some (a_rf C), some (.int b), some (.int s), none] [] _ _
  repeat' first
    | with_reducible apply And.intro
    | with_reducible assumption
    | with_reducible intro _
    | exact hq _ _ _ hZ
    | exact hq _ _ _ (by assumption)
    | exact hq _ _ _ (cZ_C hZ (by assumption))
    | exact hq _ _ _ (cZ_G hZ (by assumption))
    | exact hq _ _ _ (cZ_L hZ (by assumption))
    | refine ck_refuse hZ (fun _ _ => ?_)
    | refine ck_refuse (cZ_C hZ (by assumption)) (fun _ _ => ?_)
    | exact dC_T (by assumption)
    | exact dG_refl hT
    | simp only [q140_0, q140_1, q140_4, q140_5, q140_8, q140_9, q140_10, q140_13, q140_14, q140_17, q140_20, q140_21, q140_22, q140_25, q140_26, q140_27, q140_30, q140_31, q140_32, k_0 hS, z_C hS, r_0_4 hS, k_14 hS, z_14, sp_benchAt hS gB, sp_isShiftC, as_nil, as_i, as_r, Nat.reduceAdd, Nat.reduceLeDiff, z_eq0, z_eq1, z_or, z_em, Classical.not_not, not_false_eq_true, not_true_eq_false, true_and, and_true, false_and, and_false, and_self, true_implies, false_implies, implies_true, Option.toList_some, Option.toList_none, List.cons_append, List.nil_append, Nat.add_eq_zero_iff, a_nl_i, a_nl_r, a_nl_n, true_or, or_true, eq_self, a_isRA_22, a_isRA_24, a_isRA_32, a_isA_20, ok_4, ok_5, ok_6, ok_7, ok_9, ok_20, ok_21, ok_30, ok_50, ok_180, ok_192, ok_200]
  all_goals ((try clear ih); (try clear hP); (try clear hl); (try clear hq); (try clear hZ); (try clear hH); grind [ui_ap])
theorem cu_lead (hH : cH C c (n + 1) t K L I R) {b s : Int32} (hP : ∀ v n' t' K' L' J R', cZ C (c + 4) (n + 1) K L I R (n' + 1) t' K' L' J R' → P (some (.int v)) (n' + 1, t', K', L', J, R')) : a_does (d + 70) 162 [a_rf C, .int b, .int s] (n + 1, t, K, L, I, R) P := by
  have hT := hH.1
  have hS := hT.s
  have hZ := cZ_refl hH
  have hq : ∀ v J R1, cZ C c (n + 1) K L I R (n + 1) t K L J R1 → P (some (.int v)) (n + 1, t, K, L, J, R1) := fun v J R1 z => hP v n t K L J R1 (cZ_le z (by omega))
  clear hP
  have gA := hT.g_asksR
  have gB := hT.g_benchesR
  have gX := hT.g_textsR
  have gb := gB b.toNatClampNeg
  have hw : K (R (C + 16) b.toNatClampNeg) = 3 → K (R (R (C + 16) b.toNatClampNeg) 4) = 20 ∧ L (R (R (C + 16) b.toNatClampNeg) 4) = 200 ∧ ¬ R (R (C + 16) b.toNatClampNeg) 4 = 0 := fun hb => by
    obtain ⟨b1, -, -, ⟨w1, w2, w3⟩, -⟩ := hT.g_bnc _ hb
    exact ⟨w2, w3, by omega⟩
  have ho : 0 ≤ s ∧ s < 200 → K (R (C + 16) b.toNatClampNeg) = 3 → a_ok s (L (R (R (C + 16) b.toNatClampNeg) 4)) := fun h1 h2 => by rw [(hw h2).2.1, ok_200]; exact h1
  rw [a_enter1 (M := a_m162) rfl (a_cat_rf (a_cat_int (a_cat_int a_cat_nil))) (show 3 ≤ 4 by decide)]
  show a_at _ (a_xm a_m162) 0 [some (a_rf C), some (.int b), some (.int s), none] [] _ _
  repeat' first
    | with_reducible apply And.intro
    | with_reducible assumption
    | with_reducible intro _
    | exact hq _ _ _ hZ
    | exact hq _ _ _ (by assumption)
    | exact hq _ _ _ (cZ_C hZ (by assumption))
    | exact hq _ _ _ (cZ_G hZ (by assumption))
    | exact hq _ _ _ (cZ_L hZ (by assumption))
    | refine ck_refuse hZ (fun _ _ => ?_)
    | refine ck_refuse (cZ_C hZ (by assumption)) (fun _ _ => ?_)
    | exact dC_T (by assumption)
    | exact dG_refl hT
    | simp only [q162_0, q162_1, q162_4, q162_5, q162_8, q162_9, q162_10, q162_13, q162_14, q162_17, q162_20, q162_21, q162_22, q162_25, q162_26, q162_27, q162_30, q162_31, q162_32, k_0 hS, z_C hS, r_0_4 hS, k_14 hS, z_14, sp_benchAt hS gB, sp_isShiftC, as_nil, as_i, as_r, Nat.reduceAdd, Nat.reduceLeDiff, z_eq0, z_eq1, z_or, z_em, Classical.not_not, not_false_eq_true, not_true_eq_false, true_and, and_true, false_and, and_false, and_self, true_implies, false_implies, implies_true, Option.toList_some, Option.toList_none, List.cons_append, List.nil_append, Nat.add_eq_zero_iff, a_nl_i, a_nl_r, a_nl_n, true_or, or_true, eq_self, a_isRA_22, a_isRA_24, a_isRA_32, a_isA_20, ok_4, ok_5, ok_6, ok_7, ok_9, ok_20, ok_21, ok_30, ok_50, ok_180, ok_192, ok_200]
  all_goals ((try clear ih); (try clear hP); (try clear hl); (try clear hq); (try clear hZ); (try clear hH); grind [ui_ap])
theorem cu_had (hH : cH C c (n + 1) t K L I R) {b s k : Int32} (hP : ∀ v n' t' K' L' J R', cZ C (c + 4) (n + 1) K L I R (n' + 1) t' K' L' J R' → P (some (.int v)) (n' + 1, t', K', L', J, R')) : a_does (d + 70) 160 [a_rf C, .int b, .int s, .int k] (n + 1, t, K, L, I, R) P := by
  have hT := hH.1
  have hS := hT.s
  have hZ := cZ_refl hH
  have hq : ∀ v J R1, cZ C c (n + 1) K L I R (n + 1) t K L J R1 → P (some (.int v)) (n + 1, t, K, L, J, R1) := fun v J R1 z => hP v n t K L J R1 (cZ_le z (by omega))
  clear hP
  have gA := hT.g_asksR
  have gB := hT.g_benchesR
  have gX := hT.g_textsR
  have gb := gB b.toNatClampNeg
  rw [a_enter1 (M := a_m160) rfl (a_cat_rf (a_cat_int (a_cat_int (a_cat_int a_cat_nil)))) (show 4 ≤ 5 by decide)]
  show a_at _ (a_xm a_m160) 0 [some (a_rf C), some (.int b), some (.int s), some (.int k), none] [] _ _
  repeat' first
    | with_reducible apply And.intro
    | with_reducible assumption
    | with_reducible intro _
    | exact hq _ _ _ hZ
    | exact hq _ _ _ (by assumption)
    | exact hq _ _ _ (cZ_C hZ (by assumption))
    | exact hq _ _ _ (cZ_G hZ (by assumption))
    | exact hq _ _ _ (cZ_L hZ (by assumption))
    | refine ck_refuse hZ (fun _ _ => ?_)
    | refine ck_refuse (cZ_C hZ (by assumption)) (fun _ _ => ?_)
    | exact dC_T (by assumption)
    | exact dG_refl hT
    | with_reducible apply ck_knownOn
    | simp only [q160_0, q160_1, q160_4, q160_5, q160_8, q160_10, q160_12, q160_15, q160_16, q160_19, q160_22, q160_23, q160_24, q160_27, q160_28, q160_29, q160_32, q160_33, q160_35, q160_38, q160_39, q160_40, q160_41, q160_44, q160_47, q160_50, q160_51, q160_53, q160_56, q160_57, q160_59, q160_60, q160_61, q160_64, k_0 hS, z_C hS, r_0_4 hS, k_14 hS, z_14, r_0_0 hS, k_1 hS, z_1, sp_benchAt hS gB, sp_isShiftC, as_nil, as_i, as_r, Nat.reduceAdd, Nat.reduceLeDiff, z_eq0, z_eq1, z_or, z_em, Classical.not_not, not_false_eq_true, not_true_eq_false, true_and, and_true, false_and, and_false, and_self, true_implies, false_implies, implies_true, Option.toList_some, Option.toList_none, List.cons_append, List.nil_append, Nat.add_eq_zero_iff, a_nl_i, a_nl_r, a_nl_n, true_or, or_true, eq_self, a_isRA_22, a_isRA_24, a_isRA_32, a_isA_20, ok_4, ok_5, ok_6, ok_7, ok_9, ok_20, ok_21, ok_30, ok_50, ok_180, ok_192, ok_200]
  all_goals ((try clear ih); (try clear hP); (try clear hl); (try clear hq); (try clear hZ); (try clear hH); grind [ui_ap])
theorem cu_count (hH : cH C c (n + 1) t K L I R) {w : Int32} (hP : ∀ v n' t' K' L' J R', cZ C (c + 4) (n + 1) K L I R (n' + 1) t' K' L' J R' → P (some (.int v)) (n' + 1, t', K', L', J, R')) : a_does (d + 70) 166 [a_rf C, .int w] (n + 1, t, K, L, I, R) P := by
  have hT := hH.1
  have hS := hT.s
  have hZ := cZ_refl hH
  have hq : ∀ v J R1, cZ C c (n + 1) K L I R (n + 1) t K L J R1 → P (some (.int v)) (n + 1, t, K, L, J, R1) := fun v J R1 z => hP v n t K L J R1 (cZ_le z (by omega))
  clear hP
  have gA := hT.g_asksR
  have gB := hT.g_benchesR
  have gX := hT.g_textsR
  rw [a_enter1 (M := a_m166) rfl (a_cat_rf (a_cat_int a_cat_nil)) (show 2 ≤ 2 by decide)]
  show a_at _ (a_xm a_m166) 0 [some (a_rf C), some (.int w)] [] _ _
  repeat' first
    | with_reducible apply And.intro
    | with_reducible assumption
    | with_reducible intro _
    | exact hq _ _ _ hZ
    | exact hq _ _ _ (by assumption)
    | exact hq _ _ _ (cZ_C hZ (by assumption))
    | exact hq _ _ _ (cZ_G hZ (by assumption))
    | exact hq _ _ _ (cZ_L hZ (by assumption))
    | refine ck_refuse hZ (fun _ _ => ?_)
    | refine ck_refuse (cZ_C hZ (by assumption)) (fun _ _ => ?_)
    | exact dC_T (by assumption)
    | exact dG_refl hT
    | with_reducible apply ck_placedAsks hT
    | with_reducible apply ck_placedShifts hT
    | simp only [q166_0, q166_1, q166_52, q166_53, q166_56, q166_59, q166_60, q166_61, q166_64, q166_67, q166_68, q166_69, q166_72, q166_75, q166_76, q166_77, q166_80, q166_83, q166_84, q166_85, q166_88, q166_91, q166_92, q166_93, q166_96, q166_99, q166_100, q166_101, q166_104, q166_107, q166_108, q166_109, q166_112, q166_115, q166_116, q166_117, q166_120, q166_121, q166_122, q166_124, q166_127, q166_128, q166_130, q166_133, q166_134, q166_137, q166_138, q166_140, q166_141, q166_142, q166_145, q166_147, k_0 hS, z_C hS, r_0_0 hS, k_1 hS, z_1, r_0_4 hS, k_14 hS, z_14, r_0_1 hS, k_7 hS, z_7, r_0_2 hS, k_11 hS, z_11, r_0_8 hS, k_42 hS, l_42 hS, z_42, as_nil, as_i, as_r, Nat.reduceAdd, Nat.reduceLeDiff, z_eq0, z_eq1, z_or, z_em, Classical.not_not, not_false_eq_true, not_true_eq_false, true_and, and_true, false_and, and_false, and_self, true_implies, false_implies, implies_true, Option.toList_some, Option.toList_none, List.cons_append, List.nil_append, Nat.add_eq_zero_iff, a_nl_i, a_nl_r, a_nl_n, true_or, or_true, eq_self, a_isRA_22, a_isRA_24, a_isRA_32, a_isA_20, ok_4, ok_5, ok_6, ok_7, ok_9, ok_20, ok_21, ok_30, ok_50, ok_180, ok_192, ok_200, a_sw, ti_0, ti_1, ti_2, ti_3, ti_4, ti_5, ti_6, ti_7, ti_8, ti_9, ti_10, ti_11, ti_12, ti_13, ti_14, ti_15, ti_16, ti_17, ti_18, ti_19, ti_98, ti_99, ti_100, ti_101, ti_102, ti_103, ti_104, ti_105, ti_106, ti_107, ti_108, ti_109, ti_110, ti_111, ti_112, ti_113, ti_114, ti_115, ti_116]
  all_goals ((try clear ih); (try clear hP); (try clear hl); (try clear hq); (try clear hZ); (try clear hH); grind [ui_ap])
theorem cu_askOf (hH : cH C c (n + 1) t K L I R) {q w : Int32} (hP : ∀ v n' t' K' L' J R', cZ C (c + 4) (n + 1) K L I R (n' + 1) t' K' L' J R' → P (some (.int v)) (n' + 1, t', K', L', J, R')) : a_does (d + 70) 53 [a_rf C, .int q, .int w] (n + 1, t, K, L, I, R) P := by
  have hT := hH.1
  have hS := hT.s
  have hZ := cZ_refl hH
  have hq : ∀ v J R1, cZ C c (n + 1) K L I R (n + 1) t K L J R1 → P (some (.int v)) (n + 1, t, K, L, J, R1) := fun v J R1 z => hP v n t K L J R1 (cZ_le z (by omega))
  clear hP
  have gA := hT.g_asksR
  have gB := hT.g_benchesR
  have gX := hT.g_textsR
  have gi := gA q.toNatClampNeg
  have ga := fun h => hT.g_ask (R (C + 15) q.toNatClampNeg) (gi.resolve_left h)
  rw [a_enter1 (M := a_m53) rfl (a_cat_rf (a_cat_int (a_cat_int a_cat_nil))) (show 3 ≤ 4 by decide)]
  show a_at _ (a_xm a_m53) 0 [some (a_rf C), some (.int q), some (.int w), none] [] _ _
  repeat' first
    | with_reducible apply And.intro
    | with_reducible assumption
    | with_reducible intro _
    | exact hq _ _ _ hZ
    | exact hq _ _ _ (by assumption)
    | exact hq _ _ _ (cZ_C hZ (by assumption))
    | exact hq _ _ _ (cZ_G hZ (by assumption))
    | exact hq _ _ _ (cZ_L hZ (by assumption))
    | refine ck_refuse hZ (fun _ _ => ?_)
    | refine ck_refuse (cZ_C hZ (by assumption)) (fun _ _ => ?_)
    | exact dC_T (by assumption)
    | exact dG_refl hT
    | with_reducible apply ck_loss ?_ hT
    | with_reducible apply ck_hallOwed ?_ hT
    | simp only [q53_0, q53_1, q53_4, q53_5, q53_8, q53_9, q53_10, q53_13, q53_14, q53_15, q53_18, q53_19, q53_20, q53_76, q53_77, q53_80, q53_81, q53_82, q53_85, q53_86, q53_87, q53_90, q53_91, q53_92, q53_95, q53_96, q53_97, q53_100, q53_101, q53_102, q53_105, q53_106, q53_107, q53_110, q53_111, q53_112, q53_115, q53_118, q53_119, q53_122, q53_123, q53_124, q53_125, q53_128, q53_129, q53_132, q53_133, q53_134, q53_137, q53_138, q53_141, q53_142, q53_143, q53_145, q53_148, k_0 hS, z_C hS, r_0_4 hS, k_14 hS, z_14, sp_askAt hS gA, as_nil, as_i, as_r, Nat.reduceAdd, Nat.reduceLeDiff, z_eq0, z_eq1, z_or, z_em, Classical.not_not, not_false_eq_true, not_true_eq_false, true_and, and_true, false_and, and_false, and_self, true_implies, false_implies, implies_true, Option.toList_some, Option.toList_none, List.cons_append, List.nil_append, Nat.add_eq_zero_iff, a_nl_i, a_nl_r, a_nl_n, true_or, or_true, eq_self, a_isRA_22, a_isRA_24, a_isRA_32, a_isA_20, ok_4, ok_5, ok_6, ok_7, ok_9, ok_20, ok_21, ok_30, ok_50, ok_180, ok_192, ok_200, a_sw, ti_0, ti_1, ti_2, ti_3, ti_4, ti_5, ti_6, ti_7, ti_8, ti_9, ti_10, ti_11, ti_12, ti_13, ti_14, ti_15, ti_16, ti_17, ti_18, ti_19, ti_98, ti_99, ti_100, ti_101, ti_102, ti_103, ti_104, ti_105, ti_106, ti_107, ti_108, ti_109, ti_110, ti_111, ti_112, ti_113, ti_114, ti_115, ti_116]
  all_goals ((try clear ih); (try clear hP); (try clear hl); (try clear hq); (try clear hZ); (try clear hH); grind [ui_ap])
theorem cu_barred (hH : cH C c (n + 1) t K L I R) {q b s w : Int32} (hP : ∀ v n' t' K' L' J R', cZ C (c + 4) (n + 1) K L I R (n' + 1) t' K' L' J R' → P (some (.int v)) (n' + 1, t', K', L', J, R')) : a_does (d + 70) 85 [a_rf C, .int q, .int b, .int s, .int w] (n + 1, t, K, L, I, R) P := by
  have hT := hH.1
  have hS := hT.s
  have hZ := cZ_refl hH
  have hq : ∀ v J R1, cZ C c (n + 1) K L I R (n + 1) t K L J R1 → P (some (.int v)) (n + 1, t, K, L, J, R1) := fun v J R1 z => hP v n t K L J R1 (cZ_le z (by omega))
  clear hP
  have gA := hT.g_asksR
  have gB := hT.g_benchesR
  have gX := hT.g_textsR
  have gi := gA q.toNatClampNeg
  have ga := fun h => hT.g_ask (R (C + 15) q.toNatClampNeg) (gi.resolve_left h)
  have gb := gB b.toNatClampNeg
  rw [a_enter1 (M := a_m85) rfl (a_cat_rf (a_cat_int (a_cat_int (a_cat_int (a_cat_int a_cat_nil))))) (show 5 ≤ 6 by decide)]
  show a_at _ (a_xm a_m85) 0 [some (a_rf C), some (.int q), some (.int b), some (.int s), some (.int w), none] [] _ _
  repeat' first
    | with_reducible apply And.intro
    | with_reducible assumption
    | with_reducible intro _
    | exact hq _ _ _ hZ
    | exact hq _ _ _ (by assumption)
    | exact hq _ _ _ (cZ_C hZ (by assumption))
    | exact hq _ _ _ (cZ_G hZ (by assumption))
    | exact hq _ _ _ (cZ_L hZ (by assumption))
    | refine ck_refuse hZ (fun _ _ => ?_)
    | refine ck_refuse (cZ_C hZ (by assumption)) (fun _ _ => ?_)
    | exact dC_T (by assumption)
    | exact dG_refl hT
    | with_reducible apply ck_least ?_ hT
    | with_reducible apply ck_quarrel ?_ hT
    | simp only [q85_0, q85_1, q85_4, q85_5, q85_8, q85_10, q85_12, q85_15, q85_16, q85_19, q85_20, q85_23, q85_26, q85_27, q85_30, q85_33, q85_34, q85_35, q85_38, q85_39, q85_41, q85_76, q85_77, q85_80, q85_82, q85_84, q85_85, q85_86, q85_89, q85_91, q85_94, q85_95, q85_98, q85_99, q85_100, q85_101, q85_104, q85_106, q85_108, q85_109, q85_110, q85_113, q85_115, q85_118, q85_119, q85_122, q85_123, q85_124, q85_125, q85_128, q85_130, q85_132, q85_133, q85_134, q85_137, q85_138, q85_139, q85_142, q85_144, q85_145, q85_146, q85_147, q85_150, q85_151, q85_152, q85_155, q85_157, q85_158, q85_159, q85_160, q85_163, q85_164, q85_165, q85_167, q85_170, k_0 hS, z_C hS, r_0_4 hS, k_14 hS, z_14, r_0_1 hS, k_7 hS, z_7, sp_askAt hS gA, sp_benchAt hS gB, sp_isShiftC, as_nil, as_i, as_r, Nat.reduceAdd, Nat.reduceLeDiff, z_eq0, z_eq1, z_or, z_em, Classical.not_not, not_false_eq_true, not_true_eq_false, true_and, and_true, false_and, and_false, and_self, true_implies, false_implies, implies_true, Option.toList_some, Option.toList_none, List.cons_append, List.nil_append, Nat.add_eq_zero_iff, a_nl_i, a_nl_r, a_nl_n, true_or, or_true, eq_self, a_isRA_22, a_isRA_24, a_isRA_32, a_isA_20, ok_4, ok_5, ok_6, ok_7, ok_9, ok_20, ok_21, ok_30, ok_50, ok_180, ok_192, ok_200, a_sw, ti_0, ti_1, ti_2, ti_3, ti_4, ti_5, ti_6, ti_7, ti_8, ti_9, ti_10, ti_11, ti_12, ti_13, ti_14, ti_15, ti_16, ti_17, ti_18, ti_19, ti_98, ti_99, ti_100, ti_101, ti_102, ti_103, ti_104, ti_105, ti_106, ti_107, ti_108, ti_109, ti_110, ti_111, ti_112, ti_113, ti_114, ti_115, ti_116]
  all_goals ((try clear ih); (try clear hP); (try clear hl); (try clear hq); (try clear hZ); (try clear hH); grind [ui_ap])
end KI
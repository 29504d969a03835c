/-! the class: what fits -/
section K6
variable {d n t C : Nat} {K L : Nat → Nat} {I I0 J J0 J1 J2 : Nat → Nat → Int32} {R : Nat → Nat → Nat} {P : Option Value → AH → Prop}
theorem le_maxI (s : Int32) : s ≤ 2147483647 := by
  have := Int32.toInt_lt s
  rw [Int32.le_iff_toInt_le]
  have e : (2147483647 : Int32).toInt = 2147483647 := rfl
  omega
/-- l shifts from s on are all there -/
def fitP (s l : Int32) : Prop := 0 ≤ s ∧ s ≤ 199 ∧ s + l ≤ 200
def atP (s i : Int32) : Prop := i = 0 ∨ fitP s i
theorem ti_add {a b : Int32} (h : -2147483648 ≤ a.toInt + b.toInt ∧ a.toInt + b.toInt < 2147483648) : (a + b).toInt = a.toInt + b.toInt := by
  rw [Int32.toInt_add]
  simp only [Int.bmod_def]
  omega
theorem sh_next {s i : Int32} (h0 : 0 ≤ i) (h1 : i < 4) (q : atP s i) (h2 : 0 ≤ s + i) (h3 : s + i < 200) : atP s (i + 1) := by
  have c4 : (4 : Int32).toInt = 4 := rfl
  have c1 : (1 : Int32).toInt = 1 := rfl
  have c0 : (0 : Int32).toInt = 0 := rfl
  have c200 : (200 : Int32).toInt = 200 := rfl
  have c199 : (199 : Int32).toInt = 199 := rfl
  have e0 := Int32.le_iff_toInt_le.mp h0
  have e1 := Int32.lt_iff_toInt_lt.mp h1
  have e2 := Int32.le_iff_toInt_le.mp h2
  have e3 := Int32.lt_iff_toInt_lt.mp h3
  have ei : (i + 1).toInt = i.toInt + 1 := by rw [ti_add (by omega)]; omega
  refine Or.inr ?_
  rcases q with q | ⟨q1, q2, q3⟩
  · subst q
    have ez : s + 0 = s := by simp
    rw [ez] at h2 h3 e2 e3
    refine ⟨h2, ?_, ?_⟩
    · rw [Int32.le_iff_toInt_le]; omega
    · rw [Int32.le_iff_toInt_le, ti_add (by omega)]; omega
  · refine ⟨q1, q2, ?_⟩
    have g1 := Int32.le_iff_toInt_le.mp q1
    have g2 := Int32.le_iff_toInt_le.mp q2
    have es : (s + i).toInt = s.toInt + i.toInt := ti_add (by omega)
    rw [Int32.le_iff_toInt_le, ti_add (by omega)]
    omega
theorem sh_end {s i l : Int32} (q : atP s i) (h : i ≤ 4) (h1 : 1 ≤ l) (h2 : l ≤ i) : fitP s l := by
  have c4 : (4 : Int32).toInt = 4 := rfl
  have c1 : (1 : Int32).toInt = 1 := rfl
  have c0 : (0 : Int32).toInt = 0 := rfl
  have c200 : (200 : Int32).toInt = 200 := rfl
  have c199 : (199 : Int32).toInt = 199 := rfl
  have e0 := Int32.le_iff_toInt_le.mp h
  have e1 := Int32.le_iff_toInt_le.mp h1
  have e2 := Int32.le_iff_toInt_le.mp h2
  rcases q with q | ⟨q1, q2, q3⟩
  · subst q
    omega
  · refine ⟨q1, q2, ?_⟩
    have g1 := Int32.le_iff_toInt_le.mp q1
    have g2 := Int32.le_iff_toInt_le.mp q2
    have g3 := Int32.le_iff_toInt_le.mp q3
    have es : (s + i).toInt = s.toInt + i.toInt := ti_add (by omega)
    rw [Int32.le_iff_toInt_le, ti_add (by omega)]
    omega
theorem dC_at (h : dC C K L R I J) (hT : cT C K L I R) {a : Nat} (ha : K a = 1) (j : Nat) : J a j = I a j := by
  have := (hT.g_ask a ha).1
  exact h.2 _ _ (by omega) (by omega)
theorem dL_at (h : dL C K L R I J) (hT : cT C K L I R) {a : Nat} (ha : K a = 1) (j : Nat) (h1 : ¬ j = 13) (h2 : ¬ j = 14) : J a j = I a j := by
  have := (hT.g_ask a ha).1
  refine h.2 _ _ (by omega) (by omega) ?_
  intro q
  rw [ha] at q
  omega
theorem lk_areAllFree_2 (hT : cT C K L I R) {q : Int32} (hP : ∀ v, P (some (.int v)) (n, t, K, L, I, R)) : ∀ i : Int32, i ≤ 30 → ∀ (o : Int32) u, 0 ≤ i → a_at (d + 1) (a_xm a_m131) 2 [some (a_rf (C + 14)), some (.int q), some (.int i), u] [] (n, t, K, L, I, R) P := by
  have hS := hT.s
  have gA := hT.g_asksR
  have gB := hT.g_benchesR
  have gX := hT.g_textsR
  have gc := hT.g_asks
  refine up_ind 30 (fun i hk ih => ?_)
  intro o u q0
  have gi := gA i.toNatClampNeg
  rw [q131_2]
  repeat' first
    | with_reducible apply And.intro
    | with_reducible assumption
    | with_reducible intro _
    | with_reducible apply hP
    | with_reducible apply ih
    | with_reducible apply ck_isIn
    | simp only [q131_3, q131_4, q131_7, q131_10, q131_11, q131_12, q131_15, q131_16, q131_17, q131_18, q131_21, q131_24, q131_25, q131_28, q131_29, q131_32, q131_35, q131_36, q131_39, q131_42, q131_43, q131_44, q131_47, q131_50, q131_51, k_14 hS, z_14, sp_askAt hS gA, sp_isPlaced, as_nil, as_i, as_r, Nat.reduceAdd, Nat.reduceLeDiff, z_eq0, z_eq1, z_or, z_em, Classical.not_not, not_false_eq_true, not_true_eq_false, true_and, and_true, false_and, and_false, and_self, true_implies, false_implies, implies_true, Option.toList_some, Option.toList_none, List.cons_append, List.nil_append, Nat.add_eq_zero_iff, a_nl_i, a_nl_r, a_nl_n, true_or, or_true, eq_self, a_isRA_22, a_isRA_24, a_isRA_32, a_isA_20, ok_4, ok_5, ok_6, ok_7, ok_9, ok_20, ok_21, ok_30, ok_50, ok_180, ok_192, ok_200]
  all_goals grind [ui_ap]
theorem ck_areAllFree (hT : cT C K L I R) {q : Int32} (hP : ∀ v, P (some (.int v)) (n, t, K, L, I, R)) : a_does (d + 2) 131 [a_rf (C + 14), .int q] (n, t, K, L, I, R) P := by
  have hS := hT.s
  rw [a_enter1 (M := a_m131) rfl (a_cat_rf (a_cat_int a_cat_nil)) (show 2 ≤ 4 by decide)]
  show a_at _ (a_xm a_m131) 0 [some (a_rf (C + 14)), some (.int q), none, none] [] _ _
  simp only [q131_0, q131_1, as_nil, as_i, as_r, Nat.reduceAdd, Nat.reduceLeDiff, z_eq0, z_eq1, z_or, z_em, Classical.not_not, not_false_eq_true, not_true_eq_false, true_and, and_true, false_and, and_false, and_self, true_implies, false_implies, implies_true, Option.toList_some, Option.toList_none, List.cons_append, List.nil_append, Nat.add_eq_zero_iff, a_nl_i, a_nl_r, a_nl_n, true_or, or_true, eq_self, a_isRA_22, a_isRA_24, a_isRA_32, a_isA_20, ok_4, ok_5, ok_6, ok_7, ok_9, ok_20, ok_21, ok_30, ok_50, ok_180, ok_192, ok_200]
  exact lk_areAllFree_2 hT hP 0 (by decide) 0 _ (by decide)
theorem lk_placedAsks_4 (hT : cT C K L I R) (hP : ∀ v, P (some (.int v)) (n, t, K, L, I, R)) : ∀ i : Int32, i ≤ 30 → ∀ (o : Int32) u, 0 ≤ i → a_at (d + 1) (a_xm a_m167) 4 [some (a_rf (C + 14)), some (.int o), some (.int i), u] [] (n, t, K, L, I, R) P := by
  have hS := hT.s
  have gA := hT.g_asksR
  have gB := hT.g_benchesR
  have gX := hT.g_textsR
  have gc := hT.g_asks
  refine up_ind 30 (fun i hk ih => ?_)
  intro o u q0
  have gi := gA i.toNatClampNeg
  rw [q167_4]
  repeat' first
    | with_reducible apply And.intro
    | with_reducible assumption
    | with_reducible intro _
    | with_reducible apply hP
    | with_reducible apply ih
    | with_reducible apply ck_isIn
    | simp only [q167_5, q167_6, q167_9, q167_12, q167_13, q167_14, q167_17, q167_18, q167_19, q167_22, q167_23, q167_26, q167_29, q167_32, q167_35, q167_38, q167_39, k_14 hS, z_14, sp_askAt hS gA, sp_isPlaced, as_nil, as_i, as_r, Nat.reduceAdd, Nat.reduceLeDiff, z_eq0, z_eq1, z_or, z_em, Classical.not_not, not_false_eq_true, not_true_eq_false, true_and, and_true, false_and, and_false, and_self, true_implies, false_implies, implies_true, Option.toList_some, Option.toList_none, List.cons_append, List.nil_append, Nat.add_eq_zero_iff, a_nl_i, a_nl_r, a_nl_n, true_or, or_true, eq_self, a_isRA_22, a_isRA_24, a_isRA_32, a_isA_20, ok_4, ok_5, ok_6, ok_7, ok_9, ok_20, ok_21, ok_30, ok_50, ok_180, ok_192, ok_200]
  all_goals grind [ui_ap]
theorem ck_placedAsks (hT : cT C K L I R) (hP : ∀ v, P (some (.int v)) (n, t, K, L, I, R)) : a_does (d + 2) 167 [a_rf (C + 14)] (n, t, K, L, I, R) P := by
  have hS := hT.s
  rw [a_enter1 (M := a_m167) rfl (a_cat_rf a_cat_nil) (show 1 ≤ 4 by decide)]
  show a_at _ (a_xm a_m167) 0 [some (a_rf (C + 14)), none, none, none] [] _ _
  simp only [q167_0, q167_1, q167_2, q167_3, as_nil, as_i, as_r, Nat.reduceAdd, Nat.reduceLeDiff, z_eq0, z_eq1, z_or, z_em, Classical.not_not, not_false_eq_true, not_true_eq_false, true_and, and_true, false_and, and_false, and_self, true_implies, false_implies, implies_true, Option.toList_some, Option.toList_none, List.cons_append, List.nil_append, Nat.add_eq_zero_iff, a_nl_i, a_nl_r, a_nl_n, true_or, or_true, eq_self, a_isRA_22, a_isRA_24, a_isRA_32, a_isA_20, ok_4, ok_5, ok_6, ok_7, ok_9, ok_20, ok_21, ok_30, ok_50, ok_180, ok_192, ok_200]
  exact lk_placedAsks_4 hT hP 0 (by decide) 0 _ (by decide)
theorem lk_placedShifts_4 (hT : cT C K L I R) (hP : ∀ v, P (some (.int v)) (n, t, K, L, I, R)) : ∀ i : Int32, i ≤ 30 → ∀ (o : Int32) u, 0 ≤ i → a_at (d + 1) (a_xm a_m168) 4 [some (a_rf (C + 14)), some (.int o), some (.int i), u] [] (n, t, K, L, I, R) P := by
  have hS := hT.s
  have gA := hT.g_asksR
  have gB := hT.g_benchesR
  have gX := hT.g_textsR
  have gc := hT.g_asks
  refine up_ind 30 (fun i hk ih => ?_)
  intro o u q0
  have gi := gA i.toNatClampNeg
  rw [q168_4]
  repeat' first
    | with_reducible apply And.intro
    | with_reducible assumption
    | with_reducible intro _
    | with_reducible apply hP
    | with_reducible apply ih
    | with_reducible apply ck_isIn
    | simp only [q168_5, q168_6, q168_9, q168_12, q168_13, q168_14, q168_17, q168_18, q168_19, q168_22, q168_23, q168_26, q168_29, q168_30, q168_31, q168_34, q168_35, q168_36, q168_39, q168_42, q168_43, k_14 hS, z_14, sp_askAt hS gA, sp_isPlaced, as_nil, as_i, as_r, Nat.reduceAdd, Nat.reduceLeDiff, z_eq0, z_eq1, z_or, z_em, Classical.not_not, not_false_eq_true, not_true_eq_false, true_and, and_true, false_and, and_false, and_self, true_implies, false_implies, implies_true, Option.toList_some, Option.toList_none, List.cons_append, List.nil_append, Nat.add_eq_zero_iff, a_nl_i, a_nl_r, a_nl_n, true_or, or_true, eq_self, a_isRA_22, a_isRA_24, a_isRA_32, a_isA_20, ok_4, ok_5, ok_6, ok_7, ok_9, ok_20, ok_21, ok_30, ok_50, ok_180, ok_192, ok_200]
  all_goals grind [ui_ap]
theorem ck_placedShifts (hT : cT C K L I R) (hP : ∀ v, P (some (.int v)) (n, t, K, L, I, R)) : a_does (d + 2) 168 [a_rf (C + 14)] (n, t, K, L, I, R) P := by
  have hS := hT.s
  rw [a_enter1 (M := a_m168) rfl (a_cat_rf a_cat_nil) (show 1 ≤ 4 by decide)]
  show a_at _ (a_xm a_m168) 0 [some (a_rf (C + 14)), none, none, none] [] _ _
  simp only [q168_0, q168_1, q168_2, q168_3, as_nil, as_i, as_r, Nat.reduceAdd, Nat.reduceLeDiff, z_eq0, z_eq1, z_or, z_em, Classical.not_not, not_false_eq_true, not_true_eq_false, true_and, and_true, false_and, and_false, and_self, true_implies, false_implies, implies_true, Option.toList_some, Option.toList_none, List.cons_append, List.nil_append, Nat.add_eq_zero_iff, a_nl_i, a_nl_r, a_nl_n, true_or, or_true, eq_self, a_isRA_22, a_isRA_24, a_isRA_32, a_isA_20, ok_4, ok_5, ok_6, ok_7, ok_9, ok_20, ok_21, ok_30, ok_50, ok_180, ok_192, ok_200]
  exact lk_placedShifts_4 hT hP 0 (by decide) 0 _ (by decide)
theorem ck_areAsks (hT : cT C K L I R) {q : Int32} (hP : ∀ v, P (some (.int v)) (n, t, K, L, I, R)) : a_does (d + 1) 129 [a_rf (C + 14), .int q] (n, t, K, L, I, R) P := by
  have hS := hT.s
  rw [a_enter1 (M := a_m129) rfl (a_cat_rf (a_cat_int a_cat_nil)) (show 2 ≤ 2 by decide)]
  show a_at _ (a_xm a_m129) 0 [some (a_rf (C + 14)), some (.int q)] [] _ _
  repeat' first
    | with_reducible apply And.intro
    | with_reducible assumption
    | with_reducible intro _
    | with_reducible apply hP
    | simp only [q129_0, q129_1, q129_4, q129_5, q129_7, q129_10, q129_11, q129_12, q129_15, q129_16, q129_19, q129_20, q129_23, q129_24, k_14 hS, z_14, as_nil, as_i, as_r, Nat.reduceAdd, Nat.reduceLeDiff, z_eq0, z_eq1, z_or, z_em, Classical.not_not, not_false_eq_true, not_true_eq_false, true_and, and_true, false_and, and_false, and_self, true_implies, false_implies, implies_true, Option.toList_some, Option.toList_none, List.cons_append, List.nil_append, Nat.add_eq_zero_iff, a_nl_i, a_nl_r, a_nl_n, true_or, or_true, eq_self, a_isRA_22, a_isRA_24, a_isRA_32, a_isA_20, ok_4, ok_5, ok_6, ok_7, ok_9, ok_20, ok_21, ok_30, ok_50, ok_180, ok_192, ok_200]
  all_goals grind [ui_ap]
theorem ck_isBeyondDays {a : Nat} (ha : K a = 1) (hT : cT C K L I R) {s : Int32} (hP : ∀ v, P (some (.int v)) (n, t, K, L, I, R)) : a_does (d + 1) 111 [a_rf (C + 14), a_rf a, .int s] (n, t, K, L, I, R) P := by
  have hS := hT.s
  obtain ⟨a1, a2, a4, a3⟩ := hT.g_ask a ha
  have a0 : (a = 0) = False := eq_false (by omega)
  rw [a_enter1 (M := a_m111) rfl (a_cat_rf (a_cat_rf (a_cat_int a_cat_nil))) (show 3 ≤ 3 by decide)]
  show a_at _ (a_xm a_m111) 0 [some (a_rf (C + 14)), some (a_rf a), some (.int s)] [] _ _
  repeat' first
    | with_reducible apply And.intro
    | with_reducible assumption
    | with_reducible intro _
    | with_reducible apply hP
    | simp only [q111_0, q111_1, q111_4, q111_5, q111_8, q111_9, q111_10, q111_13, q111_16, q111_17, q111_18, q111_21, q111_24, q111_25, q111_28, q111_29, k_14 hS, z_14, as_nil, as_i, as_r, Nat.reduceAdd, Nat.reduceLeDiff, z_eq0, z_eq1, z_or, z_em, Classical.not_not, not_false_eq_true, not_true_eq_false, true_and, and_true, false_and, and_false, and_self, true_implies, false_implies, implies_true, Option.toList_some, Option.toList_none, List.cons_append, List.nil_append, Nat.add_eq_zero_iff, a_nl_i, a_nl_r, a_nl_n, true_or, or_true, eq_self, a_isRA_22, a_isRA_24, a_isRA_32, a_isA_20, ok_4, ok_5, ok_6, ok_7, ok_9, ok_20, ok_21, ok_30, ok_50, ok_180, ok_192, ok_200, ha, a0]
  all_goals grind [ui_ap]
theorem ck_isTooNear {a : Nat} (ha : K a = 1) (hT : cT C K L I R) {s : Int32} (hP : ∀ v, P (some (.int v)) (n, t, K, L, I, R)) : a_does (d + 2) 110 [a_rf (C + 14), a_rf a, .int s] (n, t, K, L, I, R) P := by
  have hS := hT.s
  obtain ⟨a1, a2, a4, a3⟩ := hT.g_ask a ha
  have a0 : (a = 0) = False := eq_false (by omega)
  have gA := hT.g_asksR
  have gB := hT.g_benchesR
  have gX := hT.g_textsR
  have gi := gA (I a 10).toNatClampNeg
  rw [a_enter1 (M := a_m110) rfl (a_cat_rf (a_cat_rf (a_cat_int a_cat_nil))) (show 3 ≤ 4 by decide)]
  show a_at _ (a_xm a_m110) 0 [some (a_rf (C + 14)), some (a_rf a), some (.int s), none] [] _ _
  repeat' first
    | with_reducible apply And.intro
    | with_reducible assumption
    | with_reducible intro _
    | with_reducible apply hP
    | simp only [q110_0, q110_1, q110_4, q110_5, q110_8, q110_9, q110_10, q110_11, q110_12, q110_15, q110_18, q110_19, q110_20, q110_23, q110_24, q110_27, q110_30, q110_31, q110_32, q110_35, q110_36, q110_37, q110_38, q110_39, q110_42, q110_45, q110_46, q110_49, q110_50, k_14 hS, z_14, sp_askAt hS gA, sp_isPlaced, sp_last, as_nil, as_i, as_r, Nat.reduceAdd, Nat.reduceLeDiff, z_eq0, z_eq1, z_or, z_em, Classical.not_not, not_false_eq_true, not_true_eq_false, true_and, and_true, false_and, and_false, and_self, true_implies, false_implies, implies_true, Option.toList_some, Option.toList_none, List.cons_append, List.nil_append, Nat.add_eq_zero_iff, a_nl_i, a_nl_r, a_nl_n, true_or, or_true, eq_self, a_isRA_22, a_isRA_24, a_isRA_32, a_isA_20, ok_4, ok_5, ok_6, ok_7, ok_9, ok_20, ok_21, ok_30, ok_50, ok_180, ok_192, ok_200, ha, a0]
  all_goals grind [ui_ap]
theorem ck_fixedBar {a : Nat} (ha : K a = 1) (hT : cT C K L I R) {b s : Int32} (hP : ∀ v : Int32, (v = 0 → 0 ≤ s ∧ s < 200) → P (some (.int v)) (n, t, K, L, I, R)) : a_does (d + 2) 102 [a_rf (C + 14), a_rf a, .int b, .int s] (n, t, K, L, I, R) P := by
  have hS := hT.s
  obtain ⟨a1, a2, a4, a3⟩ := hT.g_ask a ha
  have a0 : (a = 0) = False := eq_false (by omega)
  have gA := hT.g_asksR
  have gB := hT.g_benchesR
  have gX := hT.g_textsR
  have gi := gB b.toNatClampNeg
  rw [a_enter1 (M := a_m102) rfl (a_cat_rf (a_cat_rf (a_cat_int (a_cat_int a_cat_nil)))) (show 4 ≤ 5 by decide)]
  show a_at _ (a_xm a_m102) 0 [some (a_rf (C + 14)), some (a_rf a), some (.int b), some (.int s), none] [] _ _
  repeat' first
    | with_reducible apply And.intro
    | with_reducible assumption
    | with_reducible intro _
    | with_reducible apply hP
    | simp only [q102_0, q102_1, q102_2, q102_5, q102_7, q102_9, q102_12, q102_13, q102_16, q102_17, q102_18, q102_19, q102_20, q102_23, q102_24, q102_25, q102_27, q102_30, q102_31, q102_34, q102_35, q102_36, q102_37, q102_40, q102_41, q102_42, q102_43, q102_46, q102_49, q102_50, q102_53, q102_54, q102_57, q102_60, q102_61, q102_62, q102_63, q102_66, q102_69, q102_70, q102_71, q102_72, q102_75, q102_76, q102_79, q102_82, q102_83, q102_84, q102_87, q102_90, q102_91, q102_92, q102_93, q102_96, q102_97, q102_100, q102_103, q102_104, q102_105, q102_106, q102_107, q102_108, q102_111, q102_112, q102_115, q102_116, k_14 hS, z_14, r_14_0 hS, k_1 hS, z_1, r_1_0 hS, k_2 hS, l_2 hS, z_2, r_1_1 hS, k_3 hS, l_3 hS, z_3, sp_benchAt hS gB, sp_isShiftC, sp_hasBegun hS, as_nil, as_i, as_r, Nat.reduceAdd, Nat.reduceLeDiff, z_eq0, z_eq1, z_or, z_em, Classical.not_not, not_false_eq_true, not_true_eq_false, true_and, and_true, false_and, and_false, and_self, true_implies, false_implies, implies_true, Option.toList_some, Option.toList_none, List.cons_append, List.nil_append, Nat.add_eq_zero_iff, a_nl_i, a_nl_r, a_nl_n, true_or, or_true, eq_self, a_isRA_22, a_isRA_24, a_isRA_32, a_isA_20, ok_4, ok_5, ok_6, ok_7, ok_9, ok_20, ok_21, ok_30, ok_50, ok_180, ok_192, ok_200, ha, a0]
  all_goals grind [ui_ap]
theorem ck_isHadByOther {a : Nat} (ha : K a = 1) (hT : cT C K L I R) {b s : Int32} (hs : 0 ≤ s ∧ s < 200) (hP : ∀ v, P (some (.int v)) (n, t, K, L, I, R)) : a_does (d + 2) 104 [a_rf (C + 14), a_rf a, .int b, .int s] (n, t, K, L, I, R) P := by
  have hS := hT.s
  obtain ⟨a1, a2, a4, a3⟩ := hT.g_ask a ha
  have a0 : (a = 0) = False := eq_false (by omega)
  have gA := hT.g_asksR
  have gB := hT.g_benchesR
  have gX := hT.g_textsR
  have gi := gB b.toNatClampNeg
  rw [a_enter1 (M := a_m104) rfl (a_cat_rf (a_cat_rf (a_cat_int (a_cat_int a_cat_nil)))) (show 4 ≤ 5 by decide)]
  show a_at _ (a_xm a_m104) 0 [some (a_rf (C + 14)), some (a_rf a), some (.int b), some (.int s), none] [] _ _
  repeat' first
    | with_reducible apply And.intro
    | with_reducible assumption
    | with_reducible intro _
    | with_reducible apply hP
    | with_reducible apply ck_isOthers
    | simp only [q104_0, q104_1, q104_2, q104_5, q104_7, q104_9, q104_12, q104_14, q104_15, q104_16, q104_19, q104_22, q104_25, q104_26, q104_29, q104_30, k_14 hS, z_14, sp_benchAt hS gB, as_nil, as_i, as_r, Nat.reduceAdd, Nat.reduceLeDiff, z_eq0, z_eq1, z_or, z_em, Classical.not_not, not_false_eq_true, not_true_eq_false, true_and, and_true, false_and, and_false, and_self, true_implies, false_implies, implies_true, Option.toList_some, Option.toList_none, List.cons_append, List.nil_append, Nat.add_eq_zero_iff, a_nl_i, a_nl_r, a_nl_n, true_or, or_true, eq_self, a_isRA_22, a_isRA_24, a_isRA_32, a_isA_20, ok_4, ok_5, ok_6, ok_7, ok_9, ok_20, ok_21, ok_30, ok_50, ok_180, ok_192, ok_200, ha, a0]
  all_goals grind [ui_ap]
theorem lk_isGearElsewhere_12 {a : Nat} (ha : K a = 1) (hT : cT C K L I R) {b s : Int32} (hs : 0 ≤ s ∧ s < 200) (hP : ∀ v, P (some (.int v)) (n, t, K, L, I, R)) : ∀ i : Int32, i ≤ 6 → ∀ u w, 0 ≤ i → a_at (d + 1) (a_xm a_m106) 12 [some (a_rf (C + 14)), some (a_rf a), some (.int b), some (.int s), some (.int i), u, w] [] (n, t, K, L, I, R) P := by
  have hS := hT.s
  obtain ⟨a1, a2, a4, a3⟩ := hT.g_ask a ha
  have a0 : (a = 0) = False := eq_false (by omega)
  have gA := hT.g_asksR
  have gB := hT.g_benchesR
  have gX := hT.g_textsR
  have gc := hT.g_benches
  refine up_ind 6 (fun i hk ih => ?_)
  intro u w q0
  have gi := gB i.toNatClampNeg
  have hw : K (R (C + 16) i.toNatClampNeg) = 3 → K (R (R (C + 16) i.toNatClampNeg) 2) = 20 ∧ a_ok s (L (R (R (C + 16) i.toNatClampNeg) 2)) ∧ ¬ R (R (C + 16) i.toNatClampNeg) 2 = 0 := fun hb => by
    obtain ⟨b1, ⟨w1, w2, w3⟩, -⟩ := hT.g_bnc _ hb
    exact ⟨w2, by rw [w3, ok_200]; exact hs, by omega⟩
  rw [q106_12]
  repeat' first
    | with_reducible apply And.intro
    | with_reducible assumption
    | with_reducible intro _
    | with_reducible apply hP
    | with_reducible apply ih
    | with_reducible apply ck_isOthers
    | simp only [q106_14, q106_15, q106_18, q106_21, q106_22, q106_24, q106_27, q106_29, q106_31, q106_32, q106_35, q106_37, q106_40, q106_42, q106_43, q106_44, q106_47, q106_50, q106_53, q106_54, q106_56, q106_59, q106_60, q106_61, q106_64, q106_66, q106_68, q106_71, q106_73, q106_76, q106_77, q106_80, q106_83, q106_84, q106_85, q106_88, q106_91, q106_92, k_14 hS, z_14, sp_benchAt hS gB, sp_askAt hS gA, as_nil, as_i, as_r, Nat.reduceAdd, Nat.reduceLeDiff, z_eq0, z_eq1, z_or, z_em, Classical.not_not, not_false_eq_true, not_true_eq_false, true_and, and_true, false_and, and_false, and_self, true_implies, false_implies, implies_true, Option.toList_some, Option.toList_none, List.cons_append, List.nil_append, Nat.add_eq_zero_iff, a_nl_i, a_nl_r, a_nl_n, true_or, or_true, eq_self, a_isRA_22, a_isRA_24, a_isRA_32, a_isA_20, ok_4, ok_5, ok_6, ok_7, ok_9, ok_20, ok_21, ok_30, ok_50, ok_180, ok_192, ok_200, ha, a0]
  all_goals grind [ui_ap]
theorem ck_isGearElsewhere {a : Nat} (ha : K a = 1) (hT : cT C K L I R) {b s : Int32} (hs : 0 ≤ s ∧ s < 200) (hP : ∀ v, P (some (.int v)) (n, t, K, L, I, R)) : a_does (d + 2) 106 [a_rf (C + 14), a_rf a, .int b, .int s] (n, t, K, L, I, R) P := by
  have hS := hT.s
  obtain ⟨a1, a2, a4, a3⟩ := hT.g_ask a ha
  have a0 : (a = 0) = False := eq_false (by omega)
  have hl := fun u w => lk_isGearElsewhere_12 (d := d) ha hT hs (b := b) hP 0 (by decide) u w (by decide)
  rw [a_enter1 (M := a_m106) rfl (a_cat_rf (a_cat_rf (a_cat_int (a_cat_int a_cat_nil)))) (show 4 ≤ 7 by decide)]
  show a_at _ (a_xm a_m106) 0 [some (a_rf (C + 14)), some (a_rf a), some (.int b), some (.int s), none, none, none] [] _ _
  repeat' first
    | with_reducible apply And.intro
    | with_reducible assumption
    | with_reducible intro _
    | with_reducible apply hP
    | with_reducible apply hl
    | simp only [q106_0, q106_1, q106_4, q106_7, q106_8, q106_9, q106_10, k_14 hS, z_14, as_nil, as_i, as_r, Nat.reduceAdd, Nat.reduceLeDiff, z_eq0, z_eq1, z_or, z_em, Classical.not_not, not_false_eq_true, not_true_eq_false, true_and, and_true, false_and, and_false, and_self, true_implies, false_implies, implies_true, Option.toList_some, Option.toList_none, List.cons_append, List.nil_append, Nat.add_eq_zero_iff, a_nl_i, a_nl_r, a_nl_n, true_or, or_true, eq_self, a_isRA_22, a_isRA_24, a_isRA_32, a_isA_20, ok_4, ok_5, ok_6, ok_7, ok_9, ok_20, ok_21, ok_30, ok_50, ok_180, ok_192, ok_200, ha, a0]
  all_goals grind [ui_ap]
theorem lk_freeHosts_32 {a : Nat} (ha : K a = 1) (hT : cT C K L I R) {b s f e : Int32} (hf : 0 ≤ f ∧ f ≤ 200) (he : e ≤ 199) (hP : ∀ v, P (some (.int v)) (n, t, K, L, I, R)) : ∀ i : Int32, i ≤ 6 → ∀ o u, 0 ≤ i → a_at (d + 1) (a_xm a_m108) 32 [some (a_rf (C + 14)), some (a_rf a), some (.int b), some (.int s), some (.int f), some (.int e), some (.int o), some (.int i), u] [] (n, t, K, L, I, R) P := by
  have hS := hT.s
  obtain ⟨a1, a2, a4, a3⟩ := hT.g_ask a ha
  have a0 : (a = 0) = False := eq_false (by omega)
  have gA := hT.g_asksR
  have gB := hT.g_benchesR
  have gX := hT.g_textsR
  have gc := hT.g_benches
  have gb := gB b.toNatClampNeg
  refine up_ind 6 (fun i hk ih => ?_)
  intro o u q0
  have gi := gB i.toNatClampNeg
  rw [q108_32]
  repeat' first
    | with_reducible apply And.intro
    | with_reducible assumption
    | with_reducible intro _
    | with_reducible apply hP
    | with_reducible apply ih
    | with_reducible apply ck_standing
    | simp only [q108_34, q108_35, q108_38, q108_41, q108_42, q108_44, q108_47, q108_49, q108_51, q108_54, q108_56, q108_58, q108_60, q108_62, q108_63, q108_66, q108_69, q108_70, q108_72, q108_75, q108_78, q108_79, q108_80, q108_83, q108_85, q108_87, q108_90, q108_91, q108_94, q108_96, q108_99, q108_101, q108_102, q108_103, q108_104, k_14 hS, z_14, sp_benchAt hS gB, as_nil, as_i, as_r, Nat.reduceAdd, Nat.reduceLeDiff, z_eq0, z_eq1, z_or, z_em, Classical.not_not, not_false_eq_true, not_true_eq_false, true_and, and_true, false_and, and_false, and_self, true_implies, false_implies, implies_true, Option.toList_some, Option.toList_none, List.cons_append, List.nil_append, Nat.add_eq_zero_iff, a_nl_i, a_nl_r, a_nl_n, true_or, or_true, eq_self, a_isRA_22, a_isRA_24, a_isRA_32, a_isA_20, ok_4, ok_5, ok_6, ok_7, ok_9, ok_20, ok_21, ok_30, ok_50, ok_180, ok_192, ok_200, ha, a0]
  all_goals grind [ui_ap]
theorem ck_freeHosts {a : Nat} (ha : K a = 1) (hT : cT C K L I R) {b s : Int32} (hs : 0 ≤ s ∧ s < 200) (hP : ∀ v, P (some (.int v)) (n, t, K, L, I, R)) : a_does (d + 2) 108 [a_rf (C + 14), a_rf a, .int b, .int s] (n, t, K, L, I, R) P := by
  have hS := hT.s
  obtain ⟨a1, a2, a4, a3⟩ := hT.g_ask a ha
  have a0 : (a = 0) = False := eq_false (by omega)
  have gr := hT.g_rest
  have hl := fun f e (hf : 0 ≤ f ∧ f ≤ 200) (he : e ≤ 199) u => lk_freeHosts_32 (d := d) ha hT (b := b) (s := s) hf he hP 0 (by decide) 0 u (by decide)
  rw [a_enter1 (M := a_m108) rfl (a_cat_rf (a_cat_rf (a_cat_int (a_cat_int a_cat_nil)))) (show 4 ≤ 9 by decide)]
  show a_at _ (a_xm a_m108) 0 [some (a_rf (C + 14)), some (a_rf a), some (.int b), some (.int s), none, none, none, none, none] [] _ _
  repeat' first
    | with_reducible apply And.intro
    | with_reducible assumption
    | with_reducible intro _
    | with_reducible apply hl
    | simp only [q108_0, q108_1, q108_2, q108_3, q108_6, q108_7, q108_10, q108_12, q108_15, q108_16, q108_17, q108_20, q108_21, q108_24, q108_26, q108_27, q108_29, q108_30, k_14 hS, z_14, sp_max, sp_min, as_nil, as_i, as_r, Nat.reduceAdd, Nat.reduceLeDiff, z_eq0, z_eq1, z_or, z_em, Classical.not_not, not_false_eq_true, not_true_eq_false, true_and, and_true, false_and, and_false, and_self, true_implies, false_implies, implies_true, Option.toList_some, Option.toList_none, List.cons_append, List.nil_append, Nat.add_eq_zero_iff, a_nl_i, a_nl_r, a_nl_n, true_or, or_true, eq_self, a_isRA_22, a_isRA_24, a_isRA_32, a_isA_20, ok_4, ok_5, ok_6, ok_7, ok_9, ok_20, ok_21, ok_30, ok_50, ok_180, ok_192, ok_200, ha, a0]
  all_goals grind [ui_ap]
theorem ck_lacksHosts {a : Nat} (ha : K a = 1) (hT : cT C K L I R) {b s w : Int32} (hs : 0 ≤ s ∧ s < 200) (hP : ∀ v, P (some (.int v)) (n, t, K, L, I, R)) : a_does (d + 3) 107 [a_rf (C + 14), a_rf a, .int b, .int s, .int w] (n, t, K, L, I, R) P := by
  have hS := hT.s
  obtain ⟨a1, a2, a4, a3⟩ := hT.g_ask a ha
  have a0 : (a = 0) = False := eq_false (by omega)
  rw [a_enter1 (M := a_m107) rfl (a_cat_rf (a_cat_rf (a_cat_int (a_cat_int (a_cat_int a_cat_nil))))) (show 5 ≤ 5 by decide)]
  show a_at _ (a_xm a_m107) 0 [some (a_rf (C + 14)), some (a_rf a), some (.int b), some (.int s), some (.int w)] [] _ _
  repeat' first
    | with_reducible apply And.intro
    | with_reducible assumption
    | with_reducible intro _
    | with_reducible apply hP
    | with_reducible apply ck_freeHosts ha hT
    | with_reducible apply ck_bitCount
    | simp only [q107_0, q107_1, q107_2, q107_3, q107_4, q107_7, q107_10, q107_12, q107_15, q107_16, q107_19, q107_20, q107_23, q107_24, q107_27, q107_28, k_14 hS, z_14, as_nil, as_i, as_r, Nat.reduceAdd, Nat.reduceLeDiff, z_eq0, z_eq1, z_or, z_em, Classical.not_not, not_false_eq_true, not_true_eq_false, true_and, and_true, false_and, and_false, and_self, true_implies, false_implies, implies_true, Option.toList_some, Option.toList_none, List.cons_append, List.nil_append, Nat.add_eq_zero_iff, a_nl_i, a_nl_r, a_nl_n, true_or, or_true, eq_self, a_isRA_22, a_isRA_24, a_isRA_32, a_isA_20, ok_4, ok_5, ok_6, ok_7, ok_9, ok_20, ok_21, ok_30, ok_50, ok_180, ok_192, ok_200, ha, a0]
  all_goals grind [ui_ap]
theorem lk_leastThatHolds_12 {a : Nat} (ha : K a = 1) (hT : cT C K L I R) {l b s : Int32} (hP : ∀ v J, dC C K L R I J → P (some (.int v)) (n, t, K, L, J, R)) : ∀ i : Int32, i ≤ 20 → ∀ J u, 0 ≤ i → dC C K L R I J → a_at (d + 2) (a_xm a_m86) 12 [some (a_rf (C + 7)), some (.int l), some (a_rf a), some (.int b), some (.int s), some (.int i), u] [] (n, t, K, L, J, R) P := by
  refine up_ind 20 (fun i hk ih => ?_)
  intro J u q0 hJ
  have hT := hJ.1
  have hS := hT.s
  have gA := hT.g_asksR
  have gB := hT.g_benchesR
  have gX := hT.g_textsR
  have gc := hT.g_texts
  have gi := gX i.toNatClampNeg
  rw [q86_12]
  repeat' first
    | with_reducible apply And.intro
    | with_reducible assumption
    | with_reducible intro _
    | with_reducible apply hP
    | with_reducible apply ih
    | with_reducible apply ck_value
    | with_reducible apply dC_C
    | simp only [q86_14, q86_15, q86_18, q86_21, q86_22, q86_24, q86_27, q86_29, q86_31, q86_34, q86_36, q86_39, q86_40, q86_43, q86_45, q86_47, q86_50, q86_53, q86_55, q86_56, q86_59, q86_60, q86_63, q86_66, q86_69, q86_71, q86_72, q86_75, q86_78, q86_80, k_7 hS, z_7, r_7_1 hS, k_9 hS, l_9 hS, z_9, r_7_2 hS, k_10 hS, l_10 hS, z_10, sp_textAt hS gX, sp_inForce, as_nil, as_i, as_r, Nat.reduceAdd, Nat.reduceLeDiff, z_eq0, z_eq1, z_or, z_em, Classical.not_not, not_false_eq_true, not_true_eq_false, true_and, and_true, false_and, and_false, and_self, true_implies, false_implies, implies_true, Option.toList_some, Option.toList_none, List.cons_append, List.nil_append, Nat.add_eq_zero_iff, a_nl_i, a_nl_r, a_nl_n, true_or, or_true, eq_self, a_isRA_22, a_isRA_24, a_isRA_32, a_isA_20, ok_4, ok_5, ok_6, ok_7, ok_9, ok_20, ok_21, ok_30, ok_50, ok_180, ok_192, ok_200]
  all_goals grind [ui_ap]
theorem ck_least {a : Nat} (ha : K a = 1) (hT : cT C K L I R) {l b s : Int32} (hP : ∀ v J, dC C K L R I J → P (some (.int v)) (n, t, K, L, J, R)) : a_does (d + 3) 86 [a_rf (C + 7), .int l, a_rf a, .int b, .int s] (n, t, K, L, I, R) P := by
  have hS := hT.s
  obtain ⟨a1, a2, a4, a3⟩ := hT.g_ask a ha
  have a0 : (a = 0) = False := eq_false (by omega)
  have hl := fun J u (h : dC C K L R I J) => lk_leastThatHolds_12 (d := d) ha hT (l := l) (b := b) (s := s) hP 0 (by decide) J u (by decide) h
  rw [a_enter1 (M := a_m86) rfl (a_cat_rf (a_cat_int (a_cat_rf (a_cat_int (a_cat_int a_cat_nil))))) (show 5 ≤ 7 by decide)]
  show a_at _ (a_xm a_m86) 0 [some (a_rf (C + 7)), some (.int l), some (a_rf a), some (.int b), some (.int s), none, none] [] _ _
  repeat' first
    | with_reducible apply And.intro
    | with_reducible assumption
    | with_reducible intro _
    | with_reducible apply hl
    | with_reducible apply ck_learn
    | simp only [q86_0, q86_1, q86_2, q86_3, q86_5, q86_6, q86_9, q86_10, k_7 hS, z_7, as_nil, as_i, as_r, Nat.reduceAdd, Nat.reduceLeDiff, z_eq0, z_eq1, z_or, z_em, Classical.not_not, not_false_eq_true, not_true_eq_false, true_and, and_true, false_and, and_false, and_self, true_implies, false_implies, implies_true, Option.toList_some, Option.toList_none, List.cons_append, List.nil_append, Nat.add_eq_zero_iff, a_nl_i, a_nl_r, a_nl_n, true_or, or_true, eq_self, a_isRA_22, a_isRA_24, a_isRA_32, a_isA_20, ok_4, ok_5, ok_6, ok_7, ok_9, ok_20, ok_21, ok_30, ok_50, ok_180, ok_192, ok_200, ha, a0]
  all_goals grind [ui_ap]
theorem lk_quarrelsWith_49 (hT : cT C K L I R) {m s : Int32} {x : Nat} (hx : K x = 11) (hm : 0 ≤ m) (hP : ∀ v J, dC C K L R I J → P (some (.int v)) (n, t, K, L, J, R)) : ∀ i : Int32, i ≤ 20 → ∀ J w u, 0 ≤ i → dC C K L R I J → a_at (d + 2) (a_xm a_m88) 49 [some (a_rf (C + 7)), some (.int m), some (.int s), some (a_rf x), some (.int w), some (.int i), u] [] (n, t, K, L, J, R) P := by
  refine up_ind 20 (fun i hk ih => ?_)
  intro J w u q0 hJ
  have hT := hJ.1
  have hS := hT.s
  have gA := hT.g_asksR
  have gB := hT.g_benchesR
  have gX := hT.g_textsR
  have gc := hT.g_texts
  have gi := gX i.toNatClampNeg
  have x0 : (x = 0) = False := eq_false (by have := hT.g_txt x hx; omega)
  rw [q88_49]
  repeat' first
    | with_reducible apply And.intro
    | with_reducible assumption
    | with_reducible intro _
    | with_reducible apply hP
    | with_reducible apply ih
    | with_reducible apply ck_value
    | with_reducible apply dC_C
    | simp only [q88_51, q88_52, q88_55, q88_58, q88_59, q88_61, q88_64, q88_66, q88_68, q88_71, q88_73, q88_76, q88_78, q88_81, q88_83, q88_84, q88_87, q88_90, q88_92, q88_95, q88_96, q88_99, q88_102, q88_104, q88_105, q88_108, q88_109, q88_112, q88_115, q88_117, q88_120, q88_122, q88_123, q88_126, q88_129, q88_131, k_7 hS, z_7, r_7_1 hS, k_9 hS, l_9 hS, z_9, r_7_2 hS, k_10 hS, l_10 hS, z_10, sp_textAt hS gX, sp_inForce, as_nil, as_i, as_r, Nat.reduceAdd, Nat.reduceLeDiff, z_eq0, z_eq1, z_or, z_em, Classical.not_not, not_false_eq_true, not_true_eq_false, true_and, and_true, false_and, and_false, and_self, true_implies, false_implies, implies_true, Option.toList_some, Option.toList_none, List.cons_append, List.nil_append, Nat.add_eq_zero_iff, a_nl_i, a_nl_r, a_nl_n, true_or, or_true, eq_self, a_isRA_22, a_isRA_24, a_isRA_32, a_isA_20, ok_4, ok_5, ok_6, ok_7, ok_9, ok_20, ok_21, ok_30, ok_50, ok_180, ok_192, ok_200, hx, x0]
  all_goals grind [ui_ap]
theorem ck_quarrelsWith (hT : cT C K L I R) {m s : Int32} (hm : 0 ≤ m ∧ m < 20) (hP : ∀ v J, dC C K L R I J → P (some (.int v)) (n, t, K, L, J, R)) : a_does (d + 3) 88 [a_rf (C + 7), .int m, .int s] (n, t, K, L, I, R) P := by
  have hS := hT.s
  have gA := hT.g_asksR
  have gB := hT.g_benchesR
  have gX := hT.g_textsR
  have gi := gX m.toNatClampNeg
  have hl := fun J w u (hx : K (R (C + 8) m.toNatClampNeg) = 11) (h : dC C K L R I J) => lk_quarrelsWith_49 (d := d) hT (m := m) (s := s) hx hm.1 hP (m + 1) (by grind) J w u (by grind) h
  have hr := dC_refl hT
  rw [a_enter1 (M := a_m88) rfl (a_cat_rf (a_cat_int (a_cat_int a_cat_nil))) (show 3 ≤ 7 by decide)]
  show a_at _ (a_xm a_m88) 0 [some (a_rf (C + 7)), some (.int m), some (.int s), none, none, none, none] [] _ _
  repeat' first
    | with_reducible apply And.intro
    | with_reducible assumption
    | with_reducible intro _
    | with_reducible apply hP
    | with_reducible apply hl
    | with_reducible apply ck_value
    | simp only [q88_0, q88_1, q88_2, q88_5, q88_6, q88_7, q88_10, q88_11, q88_14, q88_16, q88_19, q88_20, q88_21, q88_24, q88_27, q88_29, q88_30, q88_31, q88_32, q88_35, q88_36, q88_39, q88_42, q88_44, q88_45, q88_46, q88_47, k_7 hS, z_7, r_7_1 hS, k_9 hS, l_9 hS, z_9, r_7_2 hS, k_10 hS, l_10 hS, z_10, sp_textAt hS gX, sp_inForce, as_nil, as_i, as_r, Nat.reduceAdd, Nat.reduceLeDiff, z_eq0, z_eq1, z_or, z_em, Classical.not_not, not_false_eq_true, not_true_eq_false, true_and, and_true, false_and, and_false, and_self, true_implies, false_implies, implies_true, Option.toList_some, Option.toList_none, List.cons_append, List.nil_append, Nat.add_eq_zero_iff, a_nl_i, a_nl_r, a_nl_n, true_or, or_true, eq_self, a_isRA_22, a_isRA_24, a_isRA_32, a_isA_20, ok_4, ok_5, ok_6, ok_7, ok_9, ok_20, ok_21, ok_30, ok_50, ok_180, ok_192, ok_200]
  all_goals grind [ui_ap]
theorem lk_quarrel_11 {a : Nat} (ha : K a = 1) (hT : cT C K L I R) {b s w : Int32} (hP : ∀ v J, dC C K L R I J → P (some (.int v)) (n, t, K, L, J, R)) : ∀ i : Int32, i ≤ 20 → ∀ J u, 0 ≤ i → dC C K L R I J → a_at (d + 3) (a_xm a_m87) 11 [some (a_rf (C + 7)), some (a_rf a), some (.int b), some (.int s), some (.int w), some (.int i), u] [] (n, t, K, L, J, R) P := by
  refine up_ind 20 (fun i hk ih => ?_)
  intro J u q0 hJ
  have hT := hJ.1
  have hS := hT.s
  have gA := hT.g_asksR
  have gB := hT.g_benchesR
  have gX := hT.g_textsR
  have gc := hT.g_texts
  rw [q87_11]
  repeat' first
    | with_reducible apply And.intro
    | with_reducible assumption
    | with_reducible intro _
    | with_reducible apply hP
    | with_reducible apply ih
    | with_reducible apply ck_quarrelsWith
    | with_reducible apply dC_C
    | simp only [q87_13, q87_14, q87_17, q87_20, q87_21, q87_23, q87_24, q87_27, q87_29, q87_31, q87_33, q87_36, q87_38, q87_41, q87_43, q87_46, q87_48, q87_49, q87_52, q87_55, q87_57, k_7 hS, z_7, as_nil, as_i, as_r, Nat.reduceAdd, Nat.reduceLeDiff, z_eq0, z_eq1, z_or, z_em, Classical.not_not, not_false_eq_true, not_true_eq_false, true_and, and_true, false_and, and_false, and_self, true_implies, false_implies, implies_true, Option.toList_some, Option.toList_none, List.cons_append, List.nil_append, Nat.add_eq_zero_iff, a_nl_i, a_nl_r, a_nl_n, true_or, or_true, eq_self, a_isRA_22, a_isRA_24, a_isRA_32, a_isA_20, ok_4, ok_5, ok_6, ok_7, ok_9, ok_20, ok_21, ok_30, ok_50, ok_180, ok_192, ok_200]
  all_goals grind [ui_ap]
theorem ck_quarrel {a : Nat} (ha : K a = 1) (hT : cT C K L I R) {b s w : Int32} (hP : ∀ v J, dC C K L R I J → P (some (.int v)) (n, t, K, L, J, R)) : a_does (d + 4) 87 [a_rf (C + 7), a_rf a, .int b, .int s, .int w] (n, t, K, L, I, R) P := by
  have hS := hT.s
  obtain ⟨a1, a2, a4, a3⟩ := hT.g_ask a ha
  have a0 : (a = 0) = False := eq_false (by omega)
  have hl := fun J u (h : dC C K L R I J) => lk_quarrel_11 (d := d) ha hT (b := b) (s := s) (w := w) hP 0 (by decide) J u (by decide) h
  rw [a_enter1 (M := a_m87) rfl (a_cat_rf (a_cat_rf (a_cat_int (a_cat_int (a_cat_int a_cat_nil))))) (show 5 ≤ 7 by decide)]
  show a_at _ (a_xm a_m87) 0 [some (a_rf (C + 7)), some (a_rf a), some (.int b), some (.int s), some (.int w), none, none] [] _ _
  repeat' first
    | with_reducible apply And.intro
    | with_reducible assumption
    | with_reducible intro _
    | with_reducible apply hl
    | with_reducible apply ck_learn
    | simp only [q87_0, q87_1, q87_2, q87_3, q87_4, q87_5, q87_8, q87_9, k_7 hS, z_7, as_nil, as_i, as_r, Nat.reduceAdd, Nat.reduceLeDiff, z_eq0, z_eq1, z_or, z_em, Classical.not_not, not_false_eq_true, not_true_eq_false, true_and, and_true, false_and, and_false, and_self, true_implies, false_implies, implies_true, Option.toList_some, Option.toList_none, List.cons_append, List.nil_append, Nat.add_eq_zero_iff, a_nl_i, a_nl_r, a_nl_n, true_or, or_true, eq_self, a_isRA_22, a_isRA_24, a_isRA_32, a_isA_20, ok_4, ok_5, ok_6, ok_7, ok_9, ok_20, ok_21, ok_30, ok_50, ok_180, ok_192, ok_200, ha, a0]
  all_goals grind [ui_ap]
theorem ck_barIn {a : Nat} (ha : K a = 1) (hT : cT C K L I R) {b f s : Int32} (hP : ∀ (v : Int32) J, dC C K L R I J → (v = 0 → 0 ≤ s ∧ s < 200) → P (some (.int v)) (n, t, K, L, J, R)) : a_does (d + 4) 101 [a_rf (C + 14), a_rf a, .int b, .int f, .int s] (n, t, K, L, I, R) P := by
  have hS := hT.s
  obtain ⟨a1, a2, a4, a3⟩ := hT.g_ask a ha
  have a0 : (a = 0) = False := eq_false (by omega)
  have hr := dC_refl hT
  rw [a_enter1 (M := a_m101) rfl (a_cat_rf (a_cat_rf (a_cat_int (a_cat_int (a_cat_int a_cat_nil))))) (show 5 ≤ 6 by decide)]
  show a_at _ (a_xm a_m101) 0 [some (a_rf (C + 14)), some (a_rf a), some (.int b), some (.int f), some (.int s), none] [] _ _
  repeat' first
    | with_reducible apply And.intro
    | with_reducible assumption
    | with_reducible intro _
    | with_reducible apply hP
    | with_reducible apply ck_fixedBar
    | with_reducible apply ck_isHadByOther
    | with_reducible apply ck_isGearElsewhere
    | with_reducible apply ck_least
    | with_reducible apply ck_lacksHosts
    | with_reducible apply ck_isTooNear
    | with_reducible apply ck_isBeyondDays
    | with_reducible apply dC_C
    | with_reducible apply dC_T
    | simp only [q101_0, q101_1, q101_2, q101_3, q101_5, q101_8, q101_10, q101_12, q101_15, q101_17, q101_18, q101_19, q101_20, q101_21, q101_23, q101_26, q101_29, q101_31, q101_32, q101_33, q101_34, q101_35, q101_37, q101_40, q101_43, q101_45, q101_46, q101_47, q101_50, q101_52, q101_53, q101_54, q101_56, q101_59, q101_61, q101_64, q101_66, q101_67, q101_68, q101_69, q101_70, q101_72, q101_73, q101_76, q101_78, q101_79, q101_80, q101_82, q101_85, q101_87, q101_90, q101_91, q101_94, q101_95, q101_98, q101_101, q101_103, q101_104, q101_105, q101_106, q101_107, q101_110, q101_113, q101_115, q101_116, q101_117, q101_118, q101_120, q101_123, q101_126, q101_128, q101_131, q101_132, k_14 hS, z_14, r_14_1 hS, k_7 hS, z_7, as_nil, as_i, as_r, Nat.reduceAdd, Nat.reduceLeDiff, z_eq0, z_eq1, z_or, z_em, Classical.not_not, not_false_eq_true, not_true_eq_false, true_and, and_true, false_and, and_false, and_self, true_implies, false_implies, implies_true, Option.toList_some, Option.toList_none, List.cons_append, List.nil_append, Nat.add_eq_zero_iff, a_nl_i, a_nl_r, a_nl_n, true_or, or_true, eq_self, a_isRA_22, a_isRA_24, a_isRA_32, a_isA_20, ok_4, ok_5, ok_6, ok_7, ok_9, ok_20, ok_21, ok_30, ok_50, ok_180, ok_192, ok_200, ha, a0]
  all_goals ((try clear ih); (try clear hP); (try clear hl); (try clear hq); (try clear a3); grind [ui_ap])
theorem lk_firstBar_3 {a : Nat} (ha : K a = 1) (hT : cT C K L I R) {b s : Int32} (hP : ∀ (v : Int32) J, dC C K L R I J → (v = 0 → fitP s (I a 2)) → P (some (.int v)) (n, t, K, L, J, R)) : ∀ i : Int32, i ≤ 4 → ∀ J u, 0 ≤ i → atP s i → dC C K L R I J → a_at (d + 4) (a_xm a_m100) 3 [some (a_rf (C + 14)), some (a_rf a), some (.int b), some (.int s), some (.int i), u] [] (n, t, K, L, J, R) P := by
  obtain ⟨a1, a2, a4, a3⟩ := hT.g_ask a ha
  have a0 : (a = 0) = False := eq_false (by omega)
  refine up_ind 4 (fun i hk ih => ?_)
  intro J u q0 q1 hJ
  have e2 := dC_at hJ hT ha 2
  have hT := hJ.1
  have n1 := fun h => sh_next (s := s) q0 h q1
  have n2 := sh_end q1 hk a2.1
  have hS := hT.s
  rw [q100_3]
  repeat' first
    | with_reducible apply And.intro
    | with_reducible assumption
    | with_reducible intro _
    | with_reducible apply hP
    | with_reducible apply n1
    | with_reducible apply n2
    | with_reducible apply ih
    | with_reducible apply ck_barIn
    | with_reducible apply dC_C
    | simp only [q100_5, q100_6, q100_9, q100_12, q100_13, q100_14, q100_15, q100_16, q100_17, q100_19, q100_20, q100_23, q100_25, q100_27, q100_30, q100_32, q100_33, q100_36, q100_39, q100_40, k_14 hS, z_14, as_nil, as_i, as_r, Nat.reduceAdd, Nat.reduceLeDiff, z_eq0, z_eq1, z_or, z_em, Classical.not_not, not_false_eq_true, not_true_eq_false, true_and, and_true, false_and, and_false, and_self, true_implies, false_implies, implies_true, Option.toList_some, Option.toList_none, List.cons_append, List.nil_append, Nat.add_eq_zero_iff, a_nl_i, a_nl_r, a_nl_n, true_or, or_true, eq_self, a_isRA_22, a_isRA_24, a_isRA_32, a_isA_20, ok_4, ok_5, ok_6, ok_7, ok_9, ok_20, ok_21, ok_30, ok_50, ok_180, ok_192, ok_200, ha, a0, e2]
  all_goals ((try clear ih); (try clear hP); (try clear hl); (try clear hq); (try clear a3); grind [ui_ap])
theorem ck_firstBar {a : Nat} (ha : K a = 1) (hT : cT C K L I R) {b s : Int32} (hP : ∀ (v : Int32) J, dC C K L R I J → (v = 0 → fitP s (I a 2)) → P (some (.int v)) (n, t, K, L, J, R)) : a_does (d + 5) 100 [a_rf (C + 14), a_rf a, .int b, .int s] (n, t, K, L, I, R) P := by
  have hS := hT.s
  have hl := fun u => lk_firstBar_3 (d := d) ha hT (b := b) hP 0 (by decide) I u (by decide) (Or.inl rfl) (dC_refl hT)
  rw [a_enter1 (M := a_m100) rfl (a_cat_rf (a_cat_rf (a_cat_int (a_cat_int a_cat_nil)))) (show 4 ≤ 6 by decide)]
  show a_at _ (a_xm a_m100) 0 [some (a_rf (C + 14)), some (a_rf a), some (.int b), some (.int s), none, none] [] _ _
  repeat' first
    | with_reducible apply And.intro
    | with_reducible assumption
    | with_reducible intro _
    | with_reducible apply hl
    | simp only [q100_0, q100_1, as_nil, as_i, as_r, Nat.reduceAdd, Nat.reduceLeDiff, z_eq0, z_eq1, z_or, z_em, Classical.not_not, not_false_eq_true, not_true_eq_false, true_and, and_true, false_and, and_false, and_self, true_implies, false_implies, implies_true, Option.toList_some, Option.toList_none, List.cons_append, List.nil_append, Nat.add_eq_zero_iff, a_nl_i, a_nl_r, a_nl_n, true_or, or_true, eq_self, a_isRA_22, a_isRA_24, a_isRA_32, a_isA_20, ok_4, ok_5, ok_6, ok_7, ok_9, ok_20, ok_21, ok_30, ok_50, ok_180, ok_192, ok_200]
  all_goals ((try clear ih); (try clear hP); (try clear hl); (try clear hq); (try clear a3); grind [ui_ap])
theorem lk_suits_3 {a : Nat} (ha : K a = 1) (hT : cT C K L I R) {b s : Int32} (hP : ∀ v J, dC C K L R I J → P (some (.int v)) (n, t, K, L, J, R)) : ∀ i : Int32, i ≤ 2147483647 → ∀ J, dC C K L R I J → a_at (d + 4) (a_xm a_m135) 3 [some (a_rf (C + 14)), some (a_rf a), some (.int b), some (.int s), some (.int i)] [] (n, t, K, L, J, R) P := by
  obtain ⟨a1, a2, a4, a3⟩ := hT.g_ask a ha
  have a0 : (a = 0) = False := eq_false (by omega)
  refine up_ind 2147483647 (fun i hk ih => ?_)
  intro J hJ
  have hT := hJ.1
  have hS := hT.s
  rw [q135_3]
  repeat' first
    | with_reducible apply And.intro
    | with_reducible assumption
    | with_reducible intro _
    | with_reducible apply hP
    | with_reducible apply ih
    | with_reducible apply ck_fixedBar
    | with_reducible apply ck_isHadByOther
    | with_reducible apply ck_isGearElsewhere
    | with_reducible apply ck_least
    | with_reducible apply ck_lacksHosts
    | with_reducible apply ck_isTooNear
    | with_reducible apply ck_isBeyondDays
    | with_reducible apply dC_C
    | with_reducible apply dC_T
    | simp only [q135_5, q135_6, q135_7, q135_10, q135_11, q135_14, q135_15, q135_16, q135_17, q135_19, q135_22, q135_25, q135_26, q135_29, q135_31, q135_32, q135_33, q135_35, q135_38, q135_40, q135_43, q135_44, q135_45, q135_47, q135_50, q135_53, q135_54, q135_55, q135_58, q135_61, q135_62, k_14 hS, z_14, r_14_1 hS, k_7 hS, z_7, as_nil, as_i, as_r, Nat.reduceAdd, Nat.reduceLeDiff, z_eq0, z_eq1, z_or, z_em, Classical.not_not, not_false_eq_true, not_true_eq_false, true_and, and_true, false_and, and_false, and_self, true_implies, false_implies, implies_true, Option.toList_some, Option.toList_none, List.cons_append, List.nil_append, Nat.add_eq_zero_iff, a_nl_i, a_nl_r, a_nl_n, true_or, or_true, eq_self, a_isRA_22, a_isRA_24, a_isRA_32, a_isA_20, ok_4, ok_5, ok_6, ok_7, ok_9, ok_20, ok_21, ok_30, ok_50, ok_180, ok_192, ok_200, ha, a0]
  all_goals ((try clear ih); (try clear hP); (try clear hl); (try clear hq); (try clear a3); grind [ui_ap])
theorem ck_suits {a : Nat} (ha : K a = 1) (hT : cT C K L I R) {b s : Int32} (hP : ∀ v J, dC C K L R I J → P (some (.int v)) (n, t, K, L, J, R)) : a_does (d + 5) 135 [a_rf (C + 14), a_rf a, .int b, .int s] (n, t, K, L, I, R) P := by
  have hS := hT.s
  have hl := lk_suits_3 (d := d) ha hT (b := b) (s := s) hP s (le_maxI s) I (dC_refl hT)
  rw [a_enter1 (M := a_m135) rfl (a_cat_rf (a_cat_rf (a_cat_int (a_cat_int a_cat_nil)))) (show 4 ≤ 5 by decide)]
  show a_at _ (a_xm a_m135) 0 [some (a_rf (C + 14)), some (a_rf a), some (.int b), some (.int s), none] [] _ _
  repeat' first
    | with_reducible apply And.intro
    | with_reducible assumption
    | with_reducible intro _
    | with_reducible apply hl
    | simp only [q135_0, q135_1, as_nil, as_i, as_r, Nat.reduceAdd, Nat.reduceLeDiff, z_eq0, z_eq1, z_or, z_em, Classical.not_not, not_false_eq_true, not_true_eq_false, true_and, and_true, false_and, and_false, and_self, true_implies, false_implies, implies_true, Option.toList_some, Option.toList_none, List.cons_append, List.nil_append, Nat.add_eq_zero_iff, a_nl_i, a_nl_r, a_nl_n, true_or, or_true, eq_self, a_isRA_22, a_isRA_24, a_isRA_32, a_isA_20, ok_4, ok_5, ok_6, ok_7, ok_9, ok_20, ok_21, ok_30, ok_50, ok_180, ok_192, ok_200]
  all_goals ((try clear ih); (try clear hP); (try clear hl); (try clear hq); (try clear a3); grind [ui_ap])
theorem lk_isOpen_3 {a : Nat} (ha : K a = 1) (hT : cT C K L I R) {b s w : Int32} (hP : ∀ (v : Int32), (¬ v = 0 → fitP s (I a 2)) → P (some (.int v)) (n, t, K, L, I, R)) : ∀ i : Int32, i ≤ 4 → ∀ u, 0 ≤ i → atP s i → a_at (d + 4) (a_xm a_m136) 3 [some (a_rf (C + 14)), some (a_rf a), some (.int b), some (.int s), some (.int w), some (.int i), u] [] (n, t, K, L, I, R) P := by
  have hS := hT.s
  obtain ⟨a1, a2, a4, a3⟩ := hT.g_ask a ha
  have a0 : (a = 0) = False := eq_false (by omega)
  refine up_ind 4 (fun i hk ih => ?_)
  intro u q0 q1
  have n1 := fun h => sh_next (s := s) q0 h q1
  have n2 := sh_end q1 hk a2.1
  rw [q136_3]
  repeat' first
    | with_reducible apply And.intro
    | with_reducible assumption
    | with_reducible intro _
    | with_reducible apply hP
    | with_reducible apply n1
    | with_reducible apply n2
    | with_reducible apply ih
    | with_reducible apply ck_isHadByOther ha hT
    | with_reducible apply ck_isGearElsewhere ha hT
    | with_reducible apply ck_lacksHosts ha hT
    | simp only [q136_5, q136_6, q136_9, q136_12, q136_13, q136_15, q136_16, q136_18, q136_20, q136_23, q136_26, q136_27, q136_28, q136_29, q136_31, q136_34, q136_37, q136_38, q136_39, q136_40, q136_42, q136_45, q136_48, q136_49, q136_50, q136_51, q136_53, q136_55, q136_57, q136_58, q136_59, q136_60, q136_63, q136_64, q136_67, q136_68, q136_71, q136_74, q136_75, q136_76, q136_79, q136_82, q136_83, k_14 hS, z_14, sp_isShiftC, as_nil, as_i, as_r, Nat.reduceAdd, Nat.reduceLeDiff, z_eq0, z_eq1, z_or, z_em, Classical.not_not, not_false_eq_true, not_true_eq_false, true_and, and_true, false_and, and_false, and_self, true_implies, false_implies, implies_true, Option.toList_some, Option.toList_none, List.cons_append, List.nil_append, Nat.add_eq_zero_iff, a_nl_i, a_nl_r, a_nl_n, true_or, or_true, eq_self, a_isRA_22, a_isRA_24, a_isRA_32, a_isA_20, ok_4, ok_5, ok_6, ok_7, ok_9, ok_20, ok_21, ok_30, ok_50, ok_180, ok_192, ok_200, ha, a0]
  all_goals ((try clear ih); (try clear hP); (try clear hl); (try clear hq); (try clear a3); grind [ui_ap])
theorem ck_isOpen {a : Nat} (ha : K a = 1) (hT : cT C K L I R) {b s w : Int32} (hP : ∀ (v : Int32), (¬ v = 0 → fitP s (I a 2)) → P (some (.int v)) (n, t, K, L, I, R)) : a_does (d + 5) 136 [a_rf (C + 14), a_rf a, .int b, .int s, .int w] (n, t, K, L, I, R) P := by
  have hS := hT.s
  have hl := fun u => lk_isOpen_3 (d := d) ha hT (b := b) (w := w) hP 0 (by decide) u (by decide) (Or.inl rfl)
  rw [a_enter1 (M := a_m136) rfl (a_cat_rf (a_cat_rf (a_cat_int (a_cat_int (a_cat_int a_cat_nil))))) (show 5 ≤ 7 by decide)]
  show a_at _ (a_xm a_m136) 0 [some (a_rf (C + 14)), some (a_rf a), some (.int b), some (.int s), some (.int w), none, none] [] _ _
  repeat' first
    | with_reducible apply And.intro
    | with_reducible assumption
    | with_reducible intro _
    | with_reducible apply hl
    | simp only [q136_0, q136_1, as_nil, as_i, as_r, Nat.reduceAdd, Nat.reduceLeDiff, z_eq0, z_eq1, z_or, z_em, Classical.not_not, not_false_eq_true, not_true_eq_false, true_and, and_true, false_and, and_false, and_self, true_implies, false_implies, implies_true, Option.toList_some, Option.toList_none, List.cons_append, List.nil_append, Nat.add_eq_zero_iff, a_nl_i, a_nl_r, a_nl_n, true_or, or_true, eq_self, a_isRA_22, a_isRA_24, a_isRA_32, a_isA_20, ok_4, ok_5, ok_6, ok_7, ok_9, ok_20, ok_21, ok_30, ok_50, ok_180, ok_192, ok_200]
  all_goals ((try clear ih); (try clear hP); (try clear hl); (try clear hq); (try clear a3); grind [ui_ap])
theorem lk_watchOf_6 {a : Nat} (ha : K a = 1) (hT : cT C K L I R) {b s : Int32} (hP : ∀ v J, dC C K L R I J → P (some (.int v)) (n, t, K, L, J, R)) : ∀ i : Int32, i ≤ 4 → ∀ J o, 0 ≤ i → dC C K L R I J → a_at (d + 4) (a_xm a_m114) 6 [some (a_rf (C + 14)), some (a_rf a), some (.int b), some (.int s), some (.int o), some (.int i)] [] (n, t, K, L, J, R) P := by
  obtain ⟨a1, a2, a4, a3⟩ := hT.g_ask a ha
  have a0 : (a = 0) = False := eq_false (by omega)
  refine up_ind 4 (fun i hk ih => ?_)
  intro J o q0 hJ
  have e2 := dC_at hJ hT ha 2
  have hT := hJ.1
  have hS := hT.s
  rw [q114_6]
  repeat' first
    | with_reducible apply And.intro
    | with_reducible assumption
    | with_reducible intro _
    | with_reducible apply hP
    | with_reducible apply ih
    | with_reducible apply ck_least
    | with_reducible apply dC_C
    | simp only [q114_8, q114_9, q114_12, q114_15, q114_16, q114_19, q114_21, q114_22, q114_23, q114_24, q114_26, q114_27, q114_30, q114_32, q114_35, q114_37, q114_38, q114_40, q114_41, q114_42, q114_44, q114_47, q114_50, q114_52, k_14 hS, z_14, r_14_1 hS, k_7 hS, z_7, as_nil, as_i, as_r, Nat.reduceAdd, Nat.reduceLeDiff, z_eq0, z_eq1, z_or, z_em, Classical.not_not, not_false_eq_true, not_true_eq_false, true_and, and_true, false_and, and_false, and_self, true_implies, false_implies, implies_true, Option.toList_some, Option.toList_none, List.cons_append, List.nil_append, Nat.add_eq_zero_iff, a_nl_i, a_nl_r, a_nl_n, true_or, or_true, eq_self, a_isRA_22, a_isRA_24, a_isRA_32, a_isA_20, ok_4, ok_5, ok_6, ok_7, ok_9, ok_20, ok_21, ok_30, ok_50, ok_180, ok_192, ok_200, ha, a0, e2]
  all_goals ((try clear ih); (try clear hP); (try clear hl); (try clear hq); (try clear a3); grind [ui_ap])
theorem ck_watchOf {a : Nat} (ha : K a = 1) (hT : cT C K L I R) {b s : Int32} (hP : ∀ v J, dC C K L R I J → P (some (.int v)) (n, t, K, L, J, R)) : a_does (d + 5) 114 [a_rf (C + 14), a_rf a, .int b, .int s] (n, t, K, L, I, R) P := by
  have hS := hT.s
  have hl := lk_watchOf_6 (d := d) ha hT (b := b) (s := s) hP 0 (by decide) I 0 (by decide) (dC_refl hT)
  rw [a_enter1 (M := a_m114) rfl (a_cat_rf (a_cat_rf (a_cat_int (a_cat_int a_cat_nil)))) (show 4 ≤ 6 by decide)]
  show a_at _ (a_xm a_m114) 0 [some (a_rf (C + 14)), some (a_rf a), some (.int b), some (.int s), none, none] [] _ _
  repeat' first
    | with_reducible apply And.intro
    | with_reducible assumption
    | with_reducible intro _
    | with_reducible apply hl
    | simp only [q114_0, q114_1, q114_3, q114_4, as_nil, as_i, as_r, Nat.reduceAdd, Nat.reduceLeDiff, z_eq0, z_eq1, z_or, z_em, Classical.not_not, not_false_eq_true, not_true_eq_false, true_and, and_true, false_and, and_false, and_self, true_implies, false_implies, implies_true, Option.toList_some, Option.toList_none, List.cons_append, List.nil_append, Nat.add_eq_zero_iff, a_nl_i, a_nl_r, a_nl_n, true_or, or_true, eq_self, a_isRA_22, a_isRA_24, a_isRA_32, a_isA_20, ok_4, ok_5, ok_6, ok_7, ok_9, ok_20, ok_21, ok_30, ok_50, ok_180, ok_192, ok_200]
  all_goals ((try clear ih); (try clear hP); (try clear hl); (try clear hq); (try clear a3); grind [ui_ap])
theorem lk_lay_26 {a : Nat} (ha : K a = 1) (hT : cT C K L I R) {b s w : Int32} {x : Nat} (hb : K x = 3) (hP : ∀ J, dL C K L R I J → P none (n, t, K, L, J, R)) : ∀ i : Int32, i ≤ 4 → ∀ J u1 u2 u3 u4, 0 ≤ i → dL C K L R I J → a_at (d + 3) (a_xm a_m115) 26 [some (a_rf (C + 14)), some (a_rf a), some (.int b), some (.int s), some (.int w), some (a_rf x), some (.int i), u1, u2, u3, u4] [] (n, t, K, L, J, R) P := by
  obtain ⟨a1, a2, a4, a3⟩ := hT.g_ask a ha
  have a0 : (a = 0) = False := eq_false (by omega)
  refine up_ind 4 (fun i hk ih => ?_)
  intro J u1 u2 u3 u4 q0 hJ
  have e2 := dL_at hJ hT ha 2 (by decide) (by decide)
  have hT := hJ.1
  have x0 : (x = 0) = False := eq_false (by have := (hT.g_bnc x hb).1; omega)
  have hS := hT.s
  rw [q115_26]
  repeat' first
    | with_reducible apply And.intro
    | with_reducible assumption
    | with_reducible intro _
    | with_reducible apply hP
    | with_reducible apply ih
    | with_reducible apply ck_freeHosts
    | with_reducible apply ck_settle hb hJ
    | simp only [q115_28, q115_29, q115_32, q115_35, q115_36, q115_38, q115_39, q115_42, q115_45, q115_46, q115_47, q115_48, q115_49, q115_51, q115_52, q115_55, q115_57, q115_59, q115_61, q115_62, q115_63, q115_65, q115_67, q115_69, q115_70, q115_71, q115_72, q115_74, q115_76, q115_78, q115_79, q115_80, q115_81, q115_84, q115_86, q115_88, q115_89, q115_90, q115_93, q115_94, q115_96, q115_98, q115_99, q115_101, q115_102, q115_103, q115_106, q115_108, q115_110, q115_111, q115_114, q115_117, q115_120, k_14 hS, z_14, sp_isShiftC, as_nil, as_i, as_r, Nat.reduceAdd, Nat.reduceLeDiff, z_eq0, z_eq1, z_or, z_em, Classical.not_not, not_false_eq_true, not_true_eq_false, true_and, and_true, false_and, and_false, and_self, true_implies, false_implies, implies_true, Option.toList_some, Option.toList_none, List.cons_append, List.nil_append, Nat.add_eq_zero_iff, a_nl_i, a_nl_r, a_nl_n, true_or, or_true, eq_self, a_isRA_22, a_isRA_24, a_isRA_32, a_isA_20, ok_4, ok_5, ok_6, ok_7, ok_9, ok_20, ok_21, ok_30, ok_50, ok_180, ok_192, ok_200, ha, a0, e2, hb, x0]
  all_goals ((try clear ih); (try clear hP); (try clear hl); (try clear hq); (try clear a3); grind [ui_ap])
theorem ck_lay {a : Nat} (ha : K a = 1) (hT : cT C K L I R) {b s w : Int32} (hv : fitP s (I a 2)) (hP : ∀ J, dL C K L R I J → P none (n, t, K, L, J, R)) : a_does (d + 4) 115 [a_rf (C + 14), a_rf a, .int b, .int s, .int w] (n, t, K, L, I, R) P := by
  have hS := hT.s
  obtain ⟨a1, a2, a4, a3⟩ := hT.g_ask a ha
  have a0 : (a = 0) = False := eq_false (by omega)
  have gA := hT.g_asksR
  have gB := hT.g_benchesR
  have gX := hT.g_textsR
  have hr := dL_refl hT
  have gi := gB b.toNatClampNeg
  have hl := fun x (hx : K x = 3) u1 u2 u3 u4 => lk_lay_26 (d := d) ha (dL_place hr a1 ha (fun _ => hv)).1 (b := b) (s := s) (w := w) hx (fun J h => hP J (dL_L (dL_place hr a1 ha (fun _ => hv)) h)) 0 (by decide) _ u1 u2 u3 u4 (by decide) (dL_refl (dL_place (w := b) hr a1 ha (fun _ => hv)).1)
  rw [a_enter1 (M := a_m115) rfl (a_cat_rf (a_cat_rf (a_cat_int (a_cat_int (a_cat_int a_cat_nil))))) (show 5 ≤ 11 by decide)]
  show a_at _ (a_xm a_m115) 0 [some (a_rf (C + 14)), some (a_rf a), some (.int b), some (.int s), some (.int w), none, none, none, none, none, none] [] _ _
  repeat' first
    | with_reducible apply And.intro
    | with_reducible assumption
    | with_reducible intro _
    | with_reducible apply hl
    | with_reducible apply hP
    | simp only [q115_0, q115_1, q115_2, q115_5, q115_7, q115_9, q115_12, q115_13, q115_14, q115_15, q115_18, q115_19, q115_20, q115_23, q115_24, k_14 hS, z_14, sp_benchAt hS gB, as_nil, as_i, as_r, Nat.reduceAdd, Nat.reduceLeDiff, z_eq0, z_eq1, z_or, z_em, Classical.not_not, not_false_eq_true, not_true_eq_false, true_and, and_true, false_and, and_false, and_self, true_implies, false_implies, implies_true, Option.toList_some, Option.toList_none, List.cons_append, List.nil_append, Nat.add_eq_zero_iff, a_nl_i, a_nl_r, a_nl_n, true_or, or_true, eq_self, a_isRA_22, a_isRA_24, a_isRA_32, a_isA_20, ok_4, ok_5, ok_6, ok_7, ok_9, ok_20, ok_21, ok_30, ok_50, ok_180, ok_192, ok_200, ha, a0]
  all_goals ((try clear ih); (try clear hP); (try clear hl); (try clear hq); (try clear a3); grind [ui_ap])
theorem lk_lift_14 {a : Nat} (ha : K a = 1) (hT : cT C K L I R) {x : Nat} (hx : x = 0 ∨ K x = 3) (hP : ∀ J, dL C K L R I J → P none (n, t, K, L, J, R)) : ∀ i : Int32, i ≤ 2147483647 → ∀ J, dL C K L R I J → a_at (d + 3) (a_xm a_m51) 14 [some (a_rf (C + 14)), some (a_rf a), some (a_rf x), some (.int i)] [] (n, t, K, L, J, R) P := by
  obtain ⟨a1, a2, a4, a3⟩ := hT.g_ask a ha
  have a0 : (a = 0) = False := eq_false (by omega)
  refine up_ind 2147483647 (fun i hk ih => ?_)
  intro J hJ
  have hT := hJ.1
  have hq := hP _ (dL_place (w := -9) (v := -9) hJ a1 ha (fun h => absurd h (by decide)))
  have hS := hT.s
  rw [q51_14]
  repeat' first
    | with_reducible apply And.intro
    | with_reducible assumption
    | with_reducible intro _
    | with_reducible apply hq
    | with_reducible apply ih
    | with_reducible apply ck_settle (I0 := I)
    | simp only [q51_15, q51_18, q51_19, q51_20, q51_23, q51_26, q51_27, q51_30, q51_33, q51_34, q51_35, q51_37, q51_38, q51_41, q51_44, q51_47, q51_48, q51_50, q51_53, q51_54, q51_56, q51_59, k_14 hS, z_14, sp_last, sp_isShiftC, as_nil, as_i, as_r, Nat.reduceAdd, Nat.reduceLeDiff, z_eq0, z_eq1, z_or, z_em, Classical.not_not, not_false_eq_true, not_true_eq_false, true_and, and_true, false_and, and_false, and_self, true_implies, false_implies, implies_true, Option.toList_some, Option.toList_none, List.cons_append, List.nil_append, Nat.add_eq_zero_iff, a_nl_i, a_nl_r, a_nl_n, true_or, or_true, eq_self, a_isRA_22, a_isRA_24, a_isRA_32, a_isA_20, ok_4, ok_5, ok_6, ok_7, ok_9, ok_20, ok_21, ok_30, ok_50, ok_180, ok_192, ok_200, ha, a0]
  all_goals ((try clear ih); (try clear hP); (try clear hl); (try clear hq); (try clear a3); grind [ui_ap])
theorem ck_lift {a : Nat} (ha : K a = 1) (hT : cT C K L I R) (hP : ∀ J, dL C K L R I J → P none (n, t, K, L, J, R)) : a_does (d + 4) 51 [a_rf (C + 14), a_rf a] (n, t, K, L, I, R) P := by
  have hS := hT.s
  obtain ⟨a1, a2, a4, a3⟩ := hT.g_ask a ha
  have a0 : (a = 0) = False := eq_false (by omega)
  have gA := hT.g_asksR
  have gB := hT.g_benchesR
  have gX := hT.g_textsR
  have gi := gB (I a 13).toNatClampNeg
  have hl := fun x (hx : x = 0 ∨ K x = 3) => lk_lift_14 (d := d) ha hT hx hP (I a 14) (le_maxI _) I (dL_refl hT)
  rw [a_enter1 (M := a_m51) rfl (a_cat_rf (a_cat_rf a_cat_nil)) (show 2 ≤ 4 by decide)]
  show a_at _ (a_xm a_m51) 0 [some (a_rf (C + 14)), some (a_rf a), none, none] [] _ _
  repeat' first
    | with_reducible apply And.intro
    | with_reducible assumption
    | with_reducible intro _
    | with_reducible apply hl
    | simp only [q51_0, q51_1, q51_2, q51_5, q51_8, q51_9, q51_10, q51_13, k_14 hS, z_14, sp_benchAt hS gB, as_nil, as_i, as_r, Nat.reduceAdd, Nat.reduceLeDiff, z_eq0, z_eq1, z_or, z_em, Classical.not_not, not_false_eq_true, not_true_eq_false, true_and, and_true, false_and, and_false, and_self, true_implies, false_implies, implies_true, Option.toList_some, Option.toList_none, List.cons_append, List.nil_append, Nat.add_eq_zero_iff, a_nl_i, a_nl_r, a_nl_n, true_or, or_true, eq_self, a_isRA_22, a_isRA_24, a_isRA_32, a_isA_20, ok_4, ok_5, ok_6, ok_7, ok_9, ok_20, ok_21, ok_30, ok_50, ok_180, ok_192, ok_200, ha, a0]
  all_goals ((try clear ih); (try clear hP); (try clear hl); (try clear hq); (try clear a3); grind [ui_ap])
theorem ck_place {a : Nat} (ha : K a = 1) (hT : cT C K L I R) {b s : Int32} (hv : fitP s (I a 2)) (hP : ∀ J, dL C K L R I J → P none (n, t, K, L, J, R)) : a_does (d + 6) 113 [a_rf (C + 14), a_rf a, .int b, .int s] (n, t, K, L, I, R) P := by
  have hS := hT.s
  obtain ⟨a1, a2, a4, a3⟩ := hT.g_ask a ha
  have a0 : (a = 0) = False := eq_false (by omega)
  have gA := hT.g_asksR
  have gB := hT.g_benchesR
  have gX := hT.g_textsR
  have gi := gB b.toNatClampNeg
  rw [a_enter1 (M := a_m113) rfl (a_cat_rf (a_cat_rf (a_cat_int (a_cat_int a_cat_nil)))) (show 4 ≤ 5 by decide)]
  show a_at _ (a_xm a_m113) 0 [some (a_rf (C + 14)), some (a_rf a), some (.int b), some (.int s), none] [] _ _
  simp only [q113_0, q113_1, q113_2, q113_3, q113_4, q113_5, q113_6, q113_7, q113_8, k_14 hS, z_14, as_nil, as_i, as_r, Nat.reduceAdd, Nat.reduceLeDiff, z_eq0, z_eq1, z_or, z_em, Classical.not_not, not_false_eq_true, not_true_eq_false, true_and, and_true, false_and, and_false, and_self, true_implies, false_implies, implies_true, Option.toList_some, Option.toList_none, List.cons_append, List.nil_append, Nat.add_eq_zero_iff, a_nl_i, a_nl_r, a_nl_n, true_or, or_true, eq_self, a_isRA_22, a_isRA_24, a_isRA_32, a_isA_20, ok_4, ok_5, ok_6, ok_7, ok_9, ok_20, ok_21, ok_30, ok_50, ok_180, ok_192, ok_200, ha, a0]
  refine ck_watchOf ha hT (fun w J j => ?_)
  have e2 := dC_at j hT ha 2
  simp only [q113_11, k_14 hS, z_14, as_nil, as_i, as_r, Nat.reduceAdd, Nat.reduceLeDiff, z_eq0, z_eq1, z_or, z_em, Classical.not_not, not_false_eq_true, not_true_eq_false, true_and, and_true, false_and, and_false, and_self, true_implies, false_implies, implies_true, Option.toList_some, Option.toList_none, List.cons_append, List.nil_append, Nat.add_eq_zero_iff, a_nl_i, a_nl_r, a_nl_n, true_or, or_true, eq_self, a_isRA_22, a_isRA_24, a_isRA_32, a_isA_20, ok_4, ok_5, ok_6, ok_7, ok_9, ok_20, ok_21, ok_30, ok_50, ok_180, ok_192, ok_200, ha, a0]
  refine ck_lay ha j.1 (by rw [e2]; exact hv) (fun J2 j2 => ?_)
  have j3 := dL_L (dL_C (dL_refl hT) j) j2
  have gb := j2.1.g_benches
  have hT := j2.1
  simp only [q113_14, q113_15, q113_16, q113_19, q113_21, q113_23, k_14 hS, z_14, sp_benchAt hS gB, as_nil, as_i, as_r, Nat.reduceAdd, Nat.reduceLeDiff, z_eq0, z_eq1, z_or, z_em, Classical.not_not, not_false_eq_true, not_true_eq_false, true_and, and_true, false_and, and_false, and_self, true_implies, false_implies, implies_true, Option.toList_some, Option.toList_none, List.cons_append, List.nil_append, Nat.add_eq_zero_iff, a_nl_i, a_nl_r, a_nl_n, true_or, or_true, eq_self, a_isRA_22, a_isRA_24, a_isRA_32, a_isA_20, ok_4, ok_5, ok_6, ok_7, ok_9, ok_20, ok_21, ok_30, ok_50, ok_180, ok_192, ok_200, ha, a0]
  refine ⟨fun h1 => ⟨fun h2 => ?_, fun h2 => ?_⟩, fun h1 => ?_⟩
  · simp only [q113_47, as_nil, as_i, as_r, Nat.reduceAdd, Nat.reduceLeDiff, z_eq0, z_eq1, z_or, z_em, Classical.not_not, not_false_eq_true, not_true_eq_false, true_and, and_true, false_and, and_false, and_self, true_implies, false_implies, implies_true, Option.toList_some, Option.toList_none, List.cons_append, List.nil_append, Nat.add_eq_zero_iff, a_nl_i, a_nl_r, a_nl_n, true_or, or_true, eq_self, a_isRA_22, a_isRA_24, a_isRA_32, a_isA_20, ok_4, ok_5, ok_6, ok_7, ok_9, ok_20, ok_21, ok_30, ok_50, ok_180, ok_192, ok_200, ha, a0]
    exact hP _ j3
  · have hb := gi.resolve_left h2
    simp only [q113_26, q113_28, q113_29, q113_30, q113_31, q113_34, q113_35, q113_36, q113_37, q113_38, q113_41, q113_44, k_14 hS, z_14, r_14_0 hS, k_1 hS, z_1, as_nil, as_i, as_r, Nat.reduceAdd, Nat.reduceLeDiff, z_eq0, z_eq1, z_or, z_em, Classical.not_not, not_false_eq_true, not_true_eq_false, true_and, and_true, false_and, and_false, and_self, true_implies, false_implies, implies_true, Option.toList_some, Option.toList_none, List.cons_append, List.nil_append, Nat.add_eq_zero_iff, a_nl_i, a_nl_r, a_nl_n, true_or, or_true, eq_self, a_isRA_22, a_isRA_24, a_isRA_32, a_isA_20, ok_4, ok_5, ok_6, ok_7, ok_9, ok_20, ok_21, ok_30, ok_50, ok_180, ok_192, ok_200, ha, a0, hb, h2]
    refine ck_date hb j3 ⟨hv.1, Int32.le_trans hv.2.1 (by decide)⟩ (fun J3 j4 => ?_)
    simp only [q113_47, as_nil, as_i, as_r, Nat.reduceAdd, Nat.reduceLeDiff, z_eq0, z_eq1, z_or, z_em, Classical.not_not, not_false_eq_true, not_true_eq_false, true_and, and_true, false_and, and_false, and_self, true_implies, false_implies, implies_true, Option.toList_some, Option.toList_none, List.cons_append, List.nil_append, Nat.add_eq_zero_iff, a_nl_i, a_nl_r, a_nl_n, true_or, or_true, eq_self, a_isRA_22, a_isRA_24, a_isRA_32, a_isA_20, ok_4, ok_5, ok_6, ok_7, ok_9, ok_20, ok_21, ok_30, ok_50, ok_180, ok_192, ok_200, ha, a0]
    exact hP _ j4
  · simp only [q113_47, as_nil, as_i, as_r, Nat.reduceAdd, Nat.reduceLeDiff, z_eq0, z_eq1, z_or, z_em, Classical.not_not, not_false_eq_true, not_true_eq_false, true_and, and_true, false_and, and_false, and_self, true_implies, false_implies, implies_true, Option.toList_some, Option.toList_none, List.cons_append, List.nil_append, Nat.add_eq_zero_iff, a_nl_i, a_nl_r, a_nl_n, true_or, or_true, eq_self, a_isRA_22, a_isRA_24, a_isRA_32, a_isA_20, ok_4, ok_5, ok_6, ok_7, ok_9, ok_20, ok_21, ok_30, ok_50, ok_180, ok_192, ok_200, ha, a0]
    first
      | exact hP _ j3
      | exact ⟨fun _ => hP _ j3, fun h => absurd rfl h⟩
end K6
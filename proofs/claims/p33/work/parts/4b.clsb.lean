/-! the class: plans -/
/-- the row in order has asks up to m, but at place q -/
def nnP (C : Nat) (R : Nat → Nat → Nat) (m q : Int32) : Prop := ∀ i : Int32, 0 ≤ i → i < m → ¬ i = q → ¬ R (C + 23) i.toNatClampNeg = 0
section KD
variable {d n t C c n0 n' n'' t' : Nat} {K L K0 L0 K' L' K'' L'' : Nat → Nat} {I I0 J J0 J1 J2 : Nat → Nat → Int32} {R R0 R' R'' : Nat → Nat → Nat} {P : Option Value → AH → Prop}
theorem nn_shift {m q : Int32} (h : nnP C R m q) (h0 : 0 < q) (h1 : q < m) (hm : m ≤ 31) : nnP C (a_ur R (C + 23) q.toNatClampNeg (R (C + 23) (q - 1).toNatClampNeg)) m (q - 1) := by
  intro i p1 p2 p3
  rw [ur_ap]
  by_cases e : i = q
  · rw [if_pos ⟨rfl, by rw [e]⟩]
    exact h (q - 1) (by clear h; grind) (by clear h; grind) (by clear h; grind)
  · rw [if_neg (fun r => e (cl_inj p1 (by clear h; grind) r.2))]
    exact h i p1 p2 e
theorem nn_put {m q : Int32} {v : Nat} (h : nnP C R m q) (hv : ¬ v = 0) : ∀ p, nnP C (a_ur R (C + 23) q.toNatClampNeg v) m p := by
  intro p i p1 p2 p3
  rw [ur_ap]
  by_cases e : i = q
  · rw [if_pos ⟨rfl, by rw [e]⟩]
    exact hv
  · split
    · exact hv
    · exact h i p1 p2 e
theorem nn_open {m : Int32} (h : ∀ p, nnP C R m p) (hm : 0 ≤ m) (h30 : m ≤ 30) : nnP C R (m + 1) m := by
  intro i p1 p2 p3
  exact h (-1) i p1 (by clear h; grind) (by clear h; grind)
theorem nn_0 : ∀ p, nnP C R 0 p := fun p i h0 h1 => by exfalso; grind
theorem ck_passedAt (hT : cT C K L I R) {q : Int32} (hP : ∀ v, P (some (.int v)) (n, t, K, L, I, R)) : a_does (d + 1) 126 [a_rf (C + 22), .int q] (n, t, K, L, I, R) P := by
  have hS := hT.s
  have g := hT.g_passed
  rw [a_enter1 (M := a_m126) rfl (a_cat_rf (a_cat_int a_cat_nil)) (show 2 ≤ 2 by decide)]
  show a_at _ (a_xm a_m126) 0 [some (a_rf (C + 22)), some (.int q)] [] _ _
  repeat' first
    | with_reducible apply And.intro
    | with_reducible assumption
    | with_reducible intro _
    | with_reducible apply hP
    | simp only [q126_0, q126_1, q126_4, q126_5, q126_6, q126_9, q126_12, q126_13, q126_16, q126_17, q126_18, q126_21, q126_23, k_22 hS, z_22, r_22_3 hS, k_24 hS, l_24 hS, z_24, as_nil, as_i, as_r, Nat.reduceAdd, Nat.reduceLeDiff, z_eq0, z_eq1, z_or, z_em, Classical.not_not, not_false_eq_true, not_true_eq_false, true_and, and_true, false_and, and_false, and_self, true_implies, false_implies, implies_true, Option.toList_some, Option.toList_none, List.cons_append, List.nil_append, Nat.add_eq_zero_iff, a_nl_i, a_nl_r, a_nl_n, true_or, or_true, eq_self, a_isRA_22, a_isRA_24, a_isRA_32, a_isA_20, ok_4, ok_5, ok_6, ok_7, ok_9, ok_20, ok_21, ok_30, ok_50, ok_180, ok_192, ok_200]
  all_goals grind [ui_ap]
theorem lk_isInShare_19 {a : Nat} (ha : K a = 1) (hT : cT C K L I R) {p q : Int32} (hP : ∀ v, P (some (.int v)) (n, t, K, L, I, R)) : ∀ i : Int32, i ≤ 30 → ∀ o u, 0 ≤ i → a_at (d + 1) (a_xm a_m123) 19 [some (a_rf (C + 22)), some (a_rf a), some (.int p), some (.int q), some (.int o), some (.int i), u] [] (n, t, K, L, I, R) P := by
  have hS := hT.s
  obtain ⟨a1, a2, a4, a3⟩ := hT.g_ask a ha
  have a0 : (a = 0) = False := eq_false (by omega)
  have gA := hT.g_asksR
  have gB := hT.g_benchesR
  have gX := hT.g_textsR
  have gc := hT.g_asks
  have n100 : ¬ (100 : Int32) = 0 := by decide
  refine up_ind 30 (fun i hk ih => ?_)
  intro o u q0
  have gi := gA i.toNatClampNeg
  rw [q123_19]
  repeat' first
    | with_reducible apply And.intro
    | with_reducible assumption
    | with_reducible intro _
    | with_reducible apply hP
    | with_reducible apply ih
    | simp only [q123_21, q123_22, q123_25, q123_28, q123_31, q123_32, q123_35, q123_37, q123_40, q123_42, q123_44, q123_47, q123_49, q123_50, q123_53, q123_55, q123_58, q123_59, q123_62, q123_64, q123_67, q123_68, q123_71, q123_74, q123_76, q123_79, q123_82, q123_84, q123_87, q123_88, q123_91, q123_93, q123_96, q123_97, q123_100, q123_102, q123_103, q123_105, q123_108, q123_111, q123_113, q123_116, q123_117, q123_118, q123_119, q123_120, q123_122, q123_125, q123_128, q123_130, q123_131, q123_134, q123_135, q123_138, q123_141, q123_142, q123_143, q123_144, q123_145, q123_146, q123_147, q123_148, q123_150, q123_151, q123_154, q123_155, q123_158, q123_159, k_22 hS, z_22, r_22_0 hS, k_14 hS, z_14, sp_askAt hS gA, sp_isPlaced, sp_last, sp_min, as_nil, as_i, as_r, Nat.reduceAdd, Nat.reduceLeDiff, z_eq0, z_eq1, z_or, z_em, Classical.not_not, not_false_eq_true, not_true_eq_false, true_and, and_true, false_and, and_false, and_self, true_implies, false_implies, implies_true, Option.toList_some, Option.toList_none, List.cons_append, List.nil_append, Nat.add_eq_zero_iff, a_nl_i, a_nl_r, a_nl_n, true_or, or_true, eq_self, a_isRA_22, a_isRA_24, a_isRA_32, a_isA_20, ok_4, ok_5, ok_6, ok_7, ok_9, ok_20, ok_21, ok_30, ok_50, ok_180, ok_192, ok_200, ha, a0, n100]
  all_goals ((try clear ih); (try clear hP); (try clear hl); (try clear hq); (try clear a3); grind [ui_ap])
theorem ck_isInShare {a : Nat} (ha : K a = 1) (hT : cT C K L I R) {p q : Int32} (hP : ∀ v, P (some (.int v)) (n, t, K, L, I, R)) : a_does (d + 2) 123 [a_rf (C + 22), a_rf a, .int p, .int q] (n, t, K, L, I, R) P := by
  have hS := hT.s
  obtain ⟨a1, a2, a4, a3⟩ := hT.g_ask a ha
  have a0 : (a = 0) = False := eq_false (by omega)
  have hl := fun o u => lk_isInShare_19 (d := d) ha hT (p := p) (q := q) hP 0 (by decide) o u (by decide)
  rw [a_enter1 (M := a_m123) rfl (a_cat_rf (a_cat_rf (a_cat_int (a_cat_int a_cat_nil)))) (show 4 ≤ 7 by decide)]
  show a_at _ (a_xm a_m123) 0 [some (a_rf (C + 22)), some (a_rf a), some (.int p), some (.int q), none, none, none] [] _ _
  repeat' first
    | with_reducible apply And.intro
    | with_reducible assumption
    | with_reducible intro _
    | with_reducible apply hP
    | with_reducible apply hl
    | simp only [q123_0, q123_1, q123_4, q123_5, q123_8, q123_9, q123_10, q123_11, q123_14, q123_16, q123_17, k_22 hS, z_22, as_nil, as_i, as_r, Nat.reduceAdd, Nat.reduceLeDiff, z_eq0, z_eq1, z_or, z_em, Classical.not_not, not_false_eq_true, not_true_eq_false, true_and, and_true, false_and, and_false, and_self, true_implies, false_implies, implies_true, Option.toList_some, Option.toList_none, List.cons_append, List.nil_append, Nat.add_eq_zero_iff, a_nl_i, a_nl_r, a_nl_n, true_or, or_true, eq_self, a_isRA_22, a_isRA_24, a_isRA_32, a_isA_20, ok_4, ok_5, ok_6, ok_7, ok_9, ok_20, ok_21, ok_30, ok_50, ok_180, ok_192, ok_200, ha, a0]
  all_goals ((try clear ih); (try clear hP); (try clear hl); (try clear hq); (try clear a3); grind [ui_ap])
theorem pf_next {s l b : Int32} (h0 : 0 ≤ s) (h1 : s ≤ 210) (hl : 1 ≤ l ∧ l ≤ 4) (hb : b ≤ 199) (h : ¬ b < s + l - 1) : s < 210 ∧ 0 ≤ s + 1 := by
  have c0 : (0 : Int32).toInt = 0 := rfl
  have c1 : (1 : Int32).toInt = 1 := rfl
  have c4 : (4 : Int32).toInt = 4 := rfl
  have c199 : (199 : Int32).toInt = 199 := rfl
  have c210 : (210 : Int32).toInt = 210 := rfl
  have e0 := Int32.le_iff_toInt_le.mp h0
  have e1 := Int32.le_iff_toInt_le.mp h1
  have e2 := Int32.le_iff_toInt_le.mp hl.1
  have e3 := Int32.le_iff_toInt_le.mp hl.2
  have e4 := Int32.le_iff_toInt_le.mp hb
  have e5 := Int32.le_iff_toInt_le.mp (Int32.not_lt.mp h)
  have es : (s + l).toInt = s.toInt + l.toInt := ti_add (by omega)
  have em : (s + l - 1).toInt = s.toInt + l.toInt - 1 := by
    rw [Int32.toInt_sub, es]
    simp only [Int.bmod_def]
    omega
  rw [em] at e5
  have e6 : (s + 1).toInt = s.toInt + 1 := by rw [ti_add (by omega)]; omega
  exact ⟨by rw [Int32.lt_iff_toInt_lt]; omega, by rw [Int32.le_iff_toInt_le]; omega⟩
theorem lk_placeFirst_19 {a : Nat} (ha : K a = 1) (hT : cT C K L I R) {p q s : Int32} (hn : ∀ J u, dL C K L R I J → a_at (d + 6) (a_xm a_m124) 66 [some (a_rf (C + 22)), some (a_rf a), some (.int p), some (.int q), some (.int s), u] [] (n, t, K, L, J, R) P) (hP : ∀ v J, (v = 0 ∨ v = 1) → dL C K L R I J → P (some (.int v)) (n, t, K, L, J, R)) : ∀ i : Int32, i ≤ 6 → ∀ J, 0 ≤ i → dL C K L R I J → a_at (d + 6) (a_xm a_m124) 19 [some (a_rf (C + 22)), some (a_rf a), some (.int p), some (.int q), some (.int s), some (.int i)] [] (n, t, K, L, J, R) P := by
  obtain ⟨a1, a2, a4, a3⟩ := hT.g_ask a ha
  have a0 : (a = 0) = False := eq_false (by omega)
  refine up_ind 6 (fun i hk ih => ?_)
  intro J q0 hL
  have e2 := dL_at hL hT ha 2 (by decide) (by decide)
  have hT := hL.1
  have hS := hT.s
  have gc := hT.g_benches
  have hc := dC_refl hT
  rw [q124_19]
  simp only [q124_21, q124_22, q124_25, q124_28, q124_31, q124_32, q124_35, q124_36, q124_38, q124_40, k_22 hS, z_22, r_22_0 hS, k_14 hS, z_14, as_nil, as_i, as_r, Nat.reduceAdd, Nat.reduceLeDiff, z_eq0, z_eq1, z_or, z_em, Classical.not_not, not_false_eq_true, not_true_eq_false, true_and, and_true, false_and, and_false, and_self, true_implies, false_implies, implies_true, Option.toList_some, Option.toList_none, List.cons_append, List.nil_append, Nat.add_eq_zero_iff, a_nl_i, a_nl_r, a_nl_n, true_or, or_true, eq_self, a_isRA_22, a_isRA_24, a_isRA_32, a_isA_20, ok_4, ok_5, ok_6, ok_7, ok_9, ok_20, ok_21, ok_30, ok_50, ok_180, ok_192, ok_200, ha, a0]
  refine ⟨fun h1 => hn J _ hL, fun h1 => ?_⟩
  refine ck_firstBar ha hT (fun v J1 j1 hv => ?_)
  have L1 := dL_C hL j1
  have e3 := dL_at L1 (by assumption) ha 2 (by decide) (by decide)
  simp only [q124_43, q124_46, q124_47, q124_50, q124_51, q124_53, q124_55, k_22 hS, z_22, r_22_0 hS, k_14 hS, z_14, as_nil, as_i, as_r, Nat.reduceAdd, Nat.reduceLeDiff, z_eq0, z_eq1, z_or, z_em, Classical.not_not, not_false_eq_true, not_true_eq_false, true_and, and_true, false_and, and_false, and_self, true_implies, false_implies, implies_true, Option.toList_some, Option.toList_none, List.cons_append, List.nil_append, Nat.add_eq_zero_iff, a_nl_i, a_nl_r, a_nl_n, true_or, or_true, eq_self, a_isRA_22, a_isRA_24, a_isRA_32, a_isA_20, ok_4, ok_5, ok_6, ok_7, ok_9, ok_20, ok_21, ok_30, ok_50, ok_180, ok_192, ok_200, ha, a0]
  refine ⟨fun h2 => ?_, fun h2 => ?_⟩
  · simp only [q124_60, q124_63, as_nil, as_i, as_r, Nat.reduceAdd, Nat.reduceLeDiff, z_eq0, z_eq1, z_or, z_em, Classical.not_not, not_false_eq_true, not_true_eq_false, true_and, and_true, false_and, and_false, and_self, true_implies, false_implies, implies_true, Option.toList_some, Option.toList_none, List.cons_append, List.nil_append, Nat.add_eq_zero_iff, a_nl_i, a_nl_r, a_nl_n, true_or, or_true, eq_self, a_isRA_22, a_isRA_24, a_isRA_32, a_isA_20, ok_4, ok_5, ok_6, ok_7, ok_9, ok_20, ok_21, ok_30, ok_50, ok_180, ok_192, ok_200, ha, a0]
    refine ih (by clear ih hn hP; grind) J1 (by clear ih hn hP; grind) L1
  · have hf : fitP s (J1 a 2) := by
      have := hv h2
      rw [dC_at j1 hT ha 2]
      exact this
    refine ck_place ha j1.1 hf (fun J2 j2 => ?_)
    simp only [q124_58, q124_59, as_nil, as_i, as_r, Nat.reduceAdd, Nat.reduceLeDiff, z_eq0, z_eq1, z_or, z_em, Classical.not_not, not_false_eq_true, not_true_eq_false, true_and, and_true, false_and, and_false, and_self, true_implies, false_implies, implies_true, Option.toList_some, Option.toList_none, List.cons_append, List.nil_append, Nat.add_eq_zero_iff, a_nl_i, a_nl_r, a_nl_n, true_or, or_true, eq_self, a_isRA_22, a_isRA_24, a_isRA_32, a_isA_20, ok_4, ok_5, ok_6, ok_7, ok_9, ok_20, ok_21, ok_30, ok_50, ok_180, ok_192, ok_200, ha, a0]
    first
      | exact hP _ _ (Or.inr rfl) (dL_L L1 j2)
      | exact ⟨by decide, hP _ _ (Or.inr rfl) (dL_L L1 j2)⟩
theorem lk_placeFirst_3 {a : Nat} (ha : K a = 1) (hT : cT C K L I R) {p q : Int32} (hq : q ≤ 199) (hP : ∀ v J, (v = 0 ∨ v = 1) → dL C K L R I J → P (some (.int v)) (n, t, K, L, J, R)) : ∀ s : Int32, s ≤ 210 → ∀ J u, 0 ≤ s → dL C K L R I J → a_at (d + 6) (a_xm a_m124) 3 [some (a_rf (C + 22)), some (a_rf a), some (.int p), some (.int q), some (.int s), u] [] (n, t, K, L, J, R) P := by
  obtain ⟨a1, a2, a4, a3⟩ := hT.g_ask a ha
  have a0 : (a = 0) = False := eq_false (by omega)
  refine up_ind 210 (fun s hk ih => ?_)
  intro J u q0 hL
  have e2 := dL_at hL hT ha 2 (by decide) (by decide)
  have hT := hL.1
  have hS := hT.s
  rw [q124_3]
  simp only [q124_5, q124_6, q124_9, q124_10, q124_11, q124_12, q124_13, q124_16, q124_17, k_22 hS, z_22, as_nil, as_i, as_r, Nat.reduceAdd, Nat.reduceLeDiff, z_eq0, z_eq1, z_or, z_em, Classical.not_not, not_false_eq_true, not_true_eq_false, true_and, and_true, false_and, and_false, and_self, true_implies, false_implies, implies_true, Option.toList_some, Option.toList_none, List.cons_append, List.nil_append, Nat.add_eq_zero_iff, a_nl_i, a_nl_r, a_nl_n, true_or, or_true, eq_self, a_isRA_22, a_isRA_24, a_isRA_32, a_isA_20, ok_4, ok_5, ok_6, ok_7, ok_9, ok_20, ok_21, ok_30, ok_50, ok_180, ok_192, ok_200, ha, a0, e2]
  refine ⟨fun h1 => ?_, fun h1 => ?_⟩
  · simp only [q124_72, q124_73, as_nil, as_i, as_r, Nat.reduceAdd, Nat.reduceLeDiff, z_eq0, z_eq1, z_or, z_em, Classical.not_not, not_false_eq_true, not_true_eq_false, true_and, and_true, false_and, and_false, and_self, true_implies, false_implies, implies_true, Option.toList_some, Option.toList_none, List.cons_append, List.nil_append, Nat.add_eq_zero_iff, a_nl_i, a_nl_r, a_nl_n, true_or, or_true, eq_self, a_isRA_22, a_isRA_24, a_isRA_32, a_isA_20, ok_4, ok_5, ok_6, ok_7, ok_9, ok_20, ok_21, ok_30, ok_50, ok_180, ok_192, ok_200, ha, a0]
    first
      | exact hP _ _ (Or.inl rfl) hL
      | exact ⟨by decide, hP _ _ (Or.inl rfl) hL⟩
  · obtain ⟨g1, g2⟩ := pf_next q0 hk a2 hq h1
    have ih := ih g1
    refine lk_placeFirst_19 (d := d) ha hT (fun J2 u2 h2 => ?_) (fun v J2 h h2 => hP v J2 h (dL_L hL h2)) 0 (by decide) J (by decide) (dL_refl hT)
    simp only [q124_66, q124_69, as_nil, as_i, as_r, Nat.reduceAdd, Nat.reduceLeDiff, z_eq0, z_eq1, z_or, z_em, Classical.not_not, not_false_eq_true, not_true_eq_false, true_and, and_true, false_and, and_false, and_self, true_implies, false_implies, implies_true, Option.toList_some, Option.toList_none, List.cons_append, List.nil_append, Nat.add_eq_zero_iff, a_nl_i, a_nl_r, a_nl_n, true_or, or_true, eq_self, a_isRA_22, a_isRA_24, a_isRA_32, a_isA_20, ok_4, ok_5, ok_6, ok_7, ok_9, ok_20, ok_21, ok_30, ok_50, ok_180, ok_192, ok_200, ha, a0]
    exact ih J2 _ g2 (dL_L hL h2)
theorem ck_placeFirst {a : Nat} (ha : K a = 1) (hT : cT C K L I R) {p q : Int32} (hp : 0 ≤ p ∧ p ≤ 210) (hq : q ≤ 199) (hP : ∀ v J, (v = 0 ∨ v = 1) → dL C K L R I J → P (some (.int v)) (n, t, K, L, J, R)) : a_does (d + 7) 124 [a_rf (C + 22), a_rf a, .int p, .int q] (n, t, K, L, I, R) P := by
  have hS := hT.s
  rw [a_enter1 (M := a_m124) rfl (a_cat_rf (a_cat_rf (a_cat_int (a_cat_int a_cat_nil)))) (show 4 ≤ 6 by decide)]
  show a_at _ (a_xm a_m124) 0 [some (a_rf (C + 22)), some (a_rf a), some (.int p), some (.int q), none, none] [] _ _
  simp only [q124_0, q124_1, as_nil, as_i, as_r, Nat.reduceAdd, Nat.reduceLeDiff, z_eq0, z_eq1, z_or, z_em, Classical.not_not, not_false_eq_true, not_true_eq_false, true_and, and_true, false_and, and_false, and_self, true_implies, false_implies, implies_true, Option.toList_some, Option.toList_none, List.cons_append, List.nil_append, Nat.add_eq_zero_iff, a_nl_i, a_nl_r, a_nl_n, true_or, or_true, eq_self, a_isRA_22, a_isRA_24, a_isRA_32, a_isA_20, ok_4, ok_5, ok_6, ok_7, ok_9, ok_20, ok_21, ok_30, ok_50, ok_180, ok_192, ok_200]
  exact lk_placeFirst_3 ha hT hq hP p hp.2 I _ hp.1 (dL_refl hT)
theorem lk_enter_15 {a : Nat} (ha : K a = 1) {m : Int32} (hm : 0 ≤ m ∧ m < 30) (h6 : I (C + 22) 6 = m) (hP : ∀ J R1, cZ C c n0 K0 L0 I0 R0 n t K L J R1 → J (C + 22) 6 = m + 1 → J (C + 22) 7 = I (C + 22) 7 → (∀ p, nnP C R1 (m + 1) p) → P none (n, t, K, L, J, R1)) : ∀ q : Int32, 0 ≤ q → ∀ R1, q ≤ m → cZ C c n0 K0 L0 I0 R0 n t K L I R1 → nnP C R1 (m + 1) q → a_at (d + 2) (a_xm a_m120) 15 [some (a_rf (C + 22)), some (a_rf a), some (.int q)] [] (n, t, K, L, I, R1) P := by
  refine dn_ind 0 (fun q hk ih => ?_)
  intro R1 q1 hZ hN
  have hT := hZ.2.1.1
  have hS := hT.s
  obtain ⟨a1, a2, a4, a3⟩ := hT.g_ask a ha
  have a0 : (a = 0) = False := eq_false (by omega)
  have go := hT.g_orderR (q - 1).toNatClampNeg
  have gn : 0 < q → ¬ R1 (C + 23) (q - 1).toNatClampNeg = 0 := fun h => hN (q - 1) (by clear hN ih hP; grind) (by clear hN ih hP; grind) (by clear hN ih hP; grind)
  have hs : 0 < q → nnP C (a_ur R1 (C + 23) q.toNatClampNeg (R1 (C + 23) (q - 1).toNatClampNeg)) (m + 1) (q + (-1)) := fun h => by
    have := nn_shift hN h (by clear hN ih hP; grind) (by clear hN ih hP; grind)
    have e : q + (-1) = q - 1 := by clear hN ih hP; grind
    rw [e]
    exact this
  have hzs : cZ C c n0 K0 L0 I0 R0 n t K L I (a_ur R1 (C + 23) q.toNatClampNeg (R1 (C + 23) (q - 1).toNatClampNeg)) := cZ_R23 hZ go
  have zf := cZ_R23 (j := q.toNatClampNeg) (v := a) hZ (Or.inr ha)
  have zg := cZ_G zf (dG_Planner_orderSize (dG_refl zf.2.1.1) (v := m + 1) (by clear zf hzs hs hN ih hP hZ hT hS go gn; grind))
  have hfin := hP _ _ zg (by rw [ui_ap, if_pos ⟨rfl, rfl⟩]) (by rw [ui_ap, if_neg (by omega)]) (nn_put hN (by omega))
  rw [q120_15]
  simp only [q120_16, q120_19, q120_20, q120_21, q120_24, q120_25, q120_26, q120_27, q120_28, k_22 hS, z_22, r_22_2 hS, k_23 hS, l_23 hS, z_23, as_nil, as_i, as_r, Nat.reduceAdd, Nat.reduceLeDiff, z_eq0, z_eq1, z_or, z_em, Classical.not_not, not_false_eq_true, not_true_eq_false, true_and, and_true, false_and, and_false, and_self, true_implies, false_implies, implies_true, Option.toList_some, Option.toList_none, List.cons_append, List.nil_append, Nat.add_eq_zero_iff, a_nl_i, a_nl_r, a_nl_n, true_or, or_true, eq_self, a_isRA_22, a_isRA_24, a_isRA_32, a_isA_20, ok_4, ok_5, ok_6, ok_7, ok_9, ok_20, ok_21, ok_30, ok_50, ok_180, ok_192, ok_200, ha, a0]
  have hend : a_at (d + 2) (a_xm a_m120) 54 [some (a_rf (C + 22)), some (a_rf a), some (.int q)] [] (n, t, K, L, I, R1) P := by
    simp only [q120_54, q120_55, q120_58, q120_59, q120_60, q120_61, q120_62, q120_63, q120_66, q120_67, q120_68, q120_71, k_22 hS, z_22, r_22_2 hS, k_23 hS, l_23 hS, z_23, as_nil, as_i, as_r, Nat.reduceAdd, Nat.reduceLeDiff, z_eq0, z_eq1, z_or, z_em, Classical.not_not, not_false_eq_true, not_true_eq_false, true_and, and_true, false_and, and_false, and_self, true_implies, false_implies, implies_true, Option.toList_some, Option.toList_none, List.cons_append, List.nil_append, Nat.add_eq_zero_iff, a_nl_i, a_nl_r, a_nl_n, true_or, or_true, eq_self, a_isRA_22, a_isRA_24, a_isRA_32, a_isA_20, ok_4, ok_5, ok_6, ok_7, ok_9, ok_20, ok_21, ok_30, ok_50, ok_180, ok_192, ok_200, ha, a0, ur_ap, cc_ne, Nat.reduceEqDiff, if_false, h6]
    repeat' first
      | with_reducible apply And.intro
      | exact hfin
      | exact hk
      | (right; rfl)
      | decide
    all_goals (clear hfin zg zf hzs hs hN ih hP hZ hT hS go gn; grind)
  refine ⟨fun h => hend, fun h => ?_⟩
  have hq : 0 < q := Int32.not_le.mp h
  have gn := gn hq
  have gk := go.resolve_left gn
  refine ⟨?_, ?_⟩
  · clear hfin zg zf hzs hs hN ih hP hZ hT hS go
    first
      | grind
      | (refine ⟨?_, ?_⟩ <;> grind)
  · refine ck_isAheadOf (by omega) ha gn gk (fun v => ?_)
    simp only [q120_31, q120_34, q120_35, q120_38, q120_39, q120_40, q120_43, q120_44, q120_45, q120_46, q120_47, q120_48, q120_51, k_22 hS, z_22, r_22_2 hS, k_23 hS, l_23 hS, z_23, as_nil, as_i, as_r, Nat.reduceAdd, Nat.reduceLeDiff, z_eq0, z_eq1, z_or, z_em, Classical.not_not, not_false_eq_true, not_true_eq_false, true_and, and_true, false_and, and_false, and_self, true_implies, false_implies, implies_true, Option.toList_some, Option.toList_none, List.cons_append, List.nil_append, Nat.add_eq_zero_iff, a_nl_i, a_nl_r, a_nl_n, true_or, or_true, eq_self, a_isRA_22, a_isRA_24, a_isRA_32, a_isA_20, ok_4, ok_5, ok_6, ok_7, ok_9, ok_20, ok_21, ok_30, ok_50, ok_180, ok_192, ok_200, ha, a0, gk, gn]
    refine ⟨fun _ => hend, fun _ => ?_⟩
    have hi := ih hq _ (by clear hfin zg zf hzs hs hN ih hP hZ hT hS go; grind) hzs (hs hq)
    repeat' first
      | with_reducible apply And.intro
      | exact hi
      | exact hk
      | (right; rfl)
      | decide
    all_goals (clear hi hfin zg zf hzs hs hN ih hP hZ hT hS go; grind)
theorem ck_enter {a : Nat} (ha : K a = 1) {m : Int32} (hZ : cZ C c n0 K0 L0 I0 R0 n t K L I R) (h6 : I (C + 22) 6 = m) (hm : m < 30) (hN : ∀ p, nnP C R m p) (hP : ∀ J R1, cZ C c n0 K0 L0 I0 R0 n t K L J R1 → J (C + 22) 6 = m + 1 → J (C + 22) 7 = I (C + 22) 7 → (∀ p, nnP C R1 (m + 1) p) → P none (n, t, K, L, J, R1)) : a_does (d + 3) 120 [a_rf (C + 22), a_rf a] (n, t, K, L, I, R) P := by
  have hT := hZ.2.1.1
  have hS := hT.s
  have g := hT.g_orderSize
  rw [h6] at g
  have hm' : ¬ 30 ≤ m := Int32.not_le.mpr hm
  have hl := lk_enter_15 (d := d) (m := m) ha ⟨g.1, hm⟩ h6 hP m g.1 R (Int32.le_refl _) hZ (nn_open hN g.1 g.2)
  rw [a_enter1 (M := a_m120) rfl (a_cat_rf (a_cat_rf a_cat_nil)) (show 2 ≤ 3 by decide)]
  show a_at _ (a_xm a_m120) 0 [some (a_rf (C + 22)), some (a_rf a), none] [] _ _
  simp only [q120_0, q120_1, q120_4, q120_6, q120_9, q120_10, q120_11, q120_14, k_22 hS, z_22, as_nil, as_i, as_r, Nat.reduceAdd, Nat.reduceLeDiff, z_eq0, z_eq1, z_or, z_em, Classical.not_not, not_false_eq_true, not_true_eq_false, true_and, and_true, false_and, and_false, and_self, true_implies, false_implies, implies_true, Option.toList_some, Option.toList_none, List.cons_append, List.nil_append, Nat.add_eq_zero_iff, a_nl_i, a_nl_r, a_nl_n, true_or, or_true, eq_self, a_isRA_22, a_isRA_24, a_isRA_32, a_isA_20, ok_4, ok_5, ok_6, ok_7, ok_9, ok_20, ok_21, ok_30, ok_50, ok_180, ok_192, ok_200, h6, hm, hm']
  first
    | exact hl
    | exact ⟨fun _ => hl, fun h => absurd hm h⟩
end KD
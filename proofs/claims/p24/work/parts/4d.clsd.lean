/-! the class: the best -/
def dB (C : Nat) (K L : Nat → Nat) (R : Nat → Nat → Nat) (I J : Nat → Nat → Int32) : Prop := dG C K L R I J ∧ J (C + 27) 8 = I (C + 27) 8
def bnP (C : Nat) (R : Nat → Nat → Nat) (m : Int32) : Prop := ∀ i : Int32, 0 ≤ i → i < m → ¬ R (C + 28) i.toNatClampNeg = 0
section KF
variable {d n t C c n0 n' n'' t' : Nat} {K L K0 L0 K' L' K'' L'' : Nat → Nat} {I I0 J J0 J1 J2 : Nat → Nat → Int32} {R R0 R' R'' : Nat → Nat → Nat} {P : Option Value → AH → Prop}
theorem dB_refl (h : cT C K L I R) : dB C K L R I I := ⟨dG_refl h, rfl⟩
theorem dB_C (h : dB C K L R I0 I) (h2 : dC C K L R I J) : dB C K L R I0 J := ⟨dG_C h.1 h2, (h2.2 _ _ (by omega) (by omega)).trans h.2⟩
theorem dB_L (h : dB C K L R I0 I) (h2 : dL C K L R I J) : dB C K L R I0 J := ⟨dG_L h.1 h2, (h2.2 _ _ (by omega) (by omega) (by omega)).trans h.2⟩
theorem dB_29 (h : dB C K L R I J) {k : Nat} {v : Int32} : dB C K L R I (a_ui J (C + 29) k v) := ⟨dG_29 h.1, by rw [ui_ap, if_neg (by omega)]; exact h.2⟩
theorem dB_30 (h : dB C K L R I J) {k : Nat} {v : Int32} : dB C K L R I (a_ui J (C + 30) k v) := ⟨dG_30 h.1, by rw [ui_ap, if_neg (by omega)]; exact h.2⟩
theorem dB_31 (h : dB C K L R I J) {k : Nat} {v : Int32} (hv : 0 ≤ v ∧ v ≤ 48) : dB C K L R I (a_ui J (C + 31) k v) := ⟨dG_31 h.1 hv, by rw [ui_ap, if_neg (by omega)]; exact h.2⟩
theorem dB_32 (h : dB C K L R I J) {k : Nat} {v : Int32} : dB C K L R I (a_ui J (C + 32) k v) := ⟨dG_32 h.1, by rw [ui_ap, if_neg (by omega)]; exact h.2⟩
theorem dB_33 (h : dB C K L R I J) {k : Nat} {v : Int32} : dB C K L R I (a_ui J (C + 33) k v) := ⟨dG_33 h.1, by rw [ui_ap, if_neg (by omega)]; exact h.2⟩
theorem dB_sum (h : dB C K L R I J) {v : Int32} : dB C K L R I (a_ui J (C + 27) 9 v) := ⟨dG_Best_sum h.1, by rw [ui_ap, if_neg (by omega)]; exact h.2⟩
theorem sT_34 (h : cT C K L I R) (hJ : ∀ x j, ¬ x = C + 34 → J x j = I x j) : cT C K L J R := by
  exact cT_mk
    (s := h.s)
    (g_now := by rw [hJ _ _ (by omega)]; exact h.g_now)
    (g_trips := by rw [hJ _ _ (by omega)]; exact h.g_trips)
    (g_texts := by rw [hJ _ _ (by omega)]; exact h.g_texts)
    (g_size := by rw [hJ _ _ (by omega)]; exact h.g_size)
    (g_code := by rw [hJ _ _ (by omega)]; exact h.g_code)
    (g_at := by rw [hJ _ _ (by omega)]; exact h.g_at)
    (g_asks := by rw [hJ _ _ (by omega)]; exact h.g_asks)
    (g_benches := by rw [hJ _ _ (by omega)]; exact h.g_benches)
    (g_orderSize := by rw [hJ _ _ (by omega)]; exact h.g_orderSize)
    (g_passed := by rw [hJ _ _ (by omega)]; exact h.g_passed)
    (g_best := by rw [hJ _ _ (by omega)]; exact h.g_best)
    (g_circle := by rw [hJ _ _ (by omega)]; exact h.g_circle)
    (g_row := by rw [hJ _ _ (by omega)]; exact h.g_row)
    (g_rest := by rw [hJ _ _ (by omega)]; exact h.g_rest)
    (g_lost := fun j => by rw [hJ _ _ (by omega)]; exact h.g_lost j)
    (g_spots := fun j => by rw [hJ _ _ (by omega)]; exact h.g_spots j)
    (g_ask := fun a ha => by
      have q := h.g_ask a ha
      rw [hJ _ _ (by omega), hJ _ _ (by omega), hJ _ _ (by omega), hJ _ _ (by omega)]
      exact q)
    (g_bnc := fun b hb => by
      have q := h.g_bnc b hb
      rw [hJ _ _ (by omega)]
      exact q)
    (g_txt := h.g_txt) (g_asksR := h.g_asksR)
    (g_asksN := fun i h0 h1 => by rw [hJ _ _ (by omega)] at h1; exact h.g_asksN i h0 h1)
    (g_benchesR := h.g_benchesR) (g_textsR := h.g_textsR) (g_orderR := h.g_orderR) (g_bestR := h.g_bestR) (g_ringR := h.g_ringR) (g_draft := h.g_draft)
    (g_benN := fun j h1 => by rw [hJ _ _ (by omega)] at h1; exact h.g_benN j h1)
    (g_benY := fun j h1 => by rw [hJ _ _ (by omega)] at h1; exact h.g_benY j h1)
theorem dB_34 (h : dB C K L R I J) {a sp dp m : Nat} : dB C K L R I (a_ci J a (C + 34) sp dp m) := ⟨⟨sT_34 h.1.1 (fun x j e => ci_ne e), fun x j p => by rw [ci_ne (by unfold eD at p; omega)]; exact h.1.2 x j p⟩, by rw [ci_ne (by omega)]; exact h.2⟩
theorem ix48 {i c : Int32} (h : 0 ≤ i ∧ i < 4) (hc : 0 ≤ c ∧ c < 48) : 0 ≤ i * 48 + c ∧ i * 48 + c < 192 := by
  have c0 : (0 : Int32).toInt = 0 := rfl
  have c4 : (4 : Int32).toInt = 4 := rfl
  have c48 : (48 : Int32).toInt = 48 := rfl
  have c192 : (192 : Int32).toInt = 192 := rfl
  have e0 := Int32.le_iff_toInt_le.mp h.1
  have e1 := Int32.lt_iff_toInt_lt.mp h.2
  have e2 := Int32.le_iff_toInt_le.mp hc.1
  have e3 := Int32.lt_iff_toInt_lt.mp hc.2
  have em : (i * 48).toInt = i.toInt * 48 := by
    rw [Int32.toInt_mul, c48]
    simp only [Int.bmod_def]
    omega
  have e : (i * 48 + c).toInt = i.toInt * 48 + c.toInt := by rw [ti_add (by omega), em]
  exact ⟨by rw [Int32.le_iff_toInt_le]; omega, by rw [Int32.lt_iff_toInt_lt]; omega⟩
theorem ck_worth {i : Int32} (hi : 0 ≤ i ∧ i < 4) (hn : ¬ R (C + 28) i.toNatClampNeg = 0) (hT : cT C K L I R) (hP : ∀ v, P (some (.int v)) (n, t, K, L, I, R)) : a_does (d + 2) 137 [a_rf (C + 27), .int i] (n, t, K, L, I, R) P := by
  have hS := hT.s
  have ha := (hT.g_bestR i.toNatClampNeg).resolve_left hn
  rw [a_enter1 (M := a_m137) rfl (a_cat_rf (a_cat_int a_cat_nil)) (show 2 ≤ 2 by decide)]
  show a_at _ (a_xm a_m137) 0 [some (a_rf (C + 27)), some (.int i)] [] _ _
  repeat' first
    | with_reducible apply And.intro
    | with_reducible assumption
    | with_reducible intro _
    | with_reducible apply hP
    | simp only [q137_0, q137_1, q137_2, q137_5, q137_6, q137_7, q137_10, q137_13, k_27 hS, z_27, r_27_1 hS, k_28 hS, l_28 hS, z_28, sp_max, as_nil, as_i, as_r, Nat.reduceAdd, Nat.reduceLeDiff, z_eq0, z_eq1, z_or, z_em, Classical.not_not, not_false_eq_true, not_true_eq_false, true_and, and_true, false_and, and_false, and_self, true_implies, false_implies, implies_true, Option.toList_some, Option.toList_none, List.cons_append, List.nil_append, Nat.add_eq_zero_iff, a_nl_i, a_nl_r, a_nl_n, true_or, or_true, eq_self, a_isRA_22, a_isRA_24, a_isRA_32, a_isA_20, ok_4, ok_5, ok_6, ok_7, ok_9, ok_20, ok_21, ok_30, ok_50, ok_180, ok_192, ok_200, ha, hn]
  all_goals grind [ui_ap]
theorem lk_collectIn_10 {i : Int32} (hi : 0 ≤ i ∧ i < 4) (hn : ¬ R (C + 28) i.toNatClampNeg = 0) {s : Int32} (hP : ∀ J, dB C K L R I0 J → P none (n, t, K, L, J, R)) : ∀ b : Int32, b ≤ 6 → ∀ J u w, 0 ≤ b → dB C K L R I0 J → a_at (d + 6) (a_xm a_m134) 10 [some (a_rf (C + 27)), some (.int i), some (.int s), some (a_rf (R (C + 28) i.toNatClampNeg)), some (.int b), u, w] [] (n, t, K, L, J, R) P := by
  refine up_ind 6 (fun b hk ih => ?_)
  intro J u w q0 hB
  have hT := hB.1.1
  have hS := hT.s
  have ha := (hT.g_bestR i.toNatClampNeg).resolve_left hn
  have gc := hT.g_benches
  have hnext : b < 6 → ∀ J u w, dB C K L R I0 J → a_at (d + 6) (a_xm a_m134) 125 [some (a_rf (C + 27)), some (.int i), some (.int s), some (a_rf (R (C + 28) i.toNatClampNeg)), some (.int b), u, w] [] (n, t, K, L, J, R) P := fun h J u w hJ => by
    simp only [q134_125, q134_128, as_nil, as_i, as_r, Nat.reduceAdd, Nat.reduceLeDiff, z_eq0, z_eq1, z_or, z_em, Classical.not_not, not_false_eq_true, not_true_eq_false, true_and, and_true, false_and, and_false, and_self, true_implies, false_implies, implies_true, Option.toList_some, Option.toList_none, List.cons_append, List.nil_append, Nat.add_eq_zero_iff, a_nl_i, a_nl_r, a_nl_n, true_or, or_true, eq_self, a_isRA_22, a_isRA_24, a_isRA_32, a_isA_20, ok_4, ok_5, ok_6, ok_7, ok_9, ok_20, ok_21, ok_30, ok_50, ok_180, ok_192, ok_200]
    exact ih h J u w (by clear ih hP; grind) hJ
  rw [q134_10]
  simp only [q134_12, q134_13, q134_16, q134_19, q134_22, q134_23, q134_26, q134_27, q134_29, q134_30, k_27 hS, z_27, r_27_0 hS, k_14 hS, z_14, as_nil, as_i, as_r, Nat.reduceAdd, Nat.reduceLeDiff, z_eq0, z_eq1, z_or, z_em, Classical.not_not, not_false_eq_true, not_true_eq_false, true_and, and_true, false_and, and_false, and_self, true_implies, false_implies, implies_true, Option.toList_some, Option.toList_none, List.cons_append, List.nil_append, Nat.add_eq_zero_iff, a_nl_i, a_nl_r, a_nl_n, true_or, or_true, eq_self, a_isRA_22, a_isRA_24, a_isRA_32, a_isA_20, ok_4, ok_5, ok_6, ok_7, ok_9, ok_20, ok_21, ok_30, ok_50, ok_180, ok_192, ok_200, ha, hn]
  refine ⟨fun h1 => ?_, fun h1 => ?_⟩
  · simp only [q134_131, as_nil, as_i, as_r, Nat.reduceAdd, Nat.reduceLeDiff, z_eq0, z_eq1, z_or, z_em, Classical.not_not, not_false_eq_true, not_true_eq_false, true_and, and_true, false_and, and_false, and_self, true_implies, false_implies, implies_true, Option.toList_some, Option.toList_none, List.cons_append, List.nil_append, Nat.add_eq_zero_iff, a_nl_i, a_nl_r, a_nl_n, true_or, or_true, eq_self, a_isRA_22, a_isRA_24, a_isRA_32, a_isA_20, ok_4, ok_5, ok_6, ok_7, ok_9, ok_20, ok_21, ok_30, ok_50, ok_180, ok_192, ok_200]
    exact hP J hB
  · have hb : b < 6 := by clear ih hP hnext; grind
    have hnext := hnext hb
    refine ck_suits ha hT (fun v J1 j1 => ?_)
    have b1 := dB_C hB j1
    have hT1 := j1.1
    have g31 := hT1.g_spots i.toNatClampNeg
    simp only [q134_33, q134_36, q134_37, q134_40, q134_41, q134_42, q134_44, q134_47, q134_50, q134_51, q134_54, q134_55, q134_57, q134_58, k_27 hS, z_27, r_27_4 hS, k_31 hS, l_31 hS, z_31, r_27_0 hS, k_14 hS, z_14, as_nil, as_i, as_r, Nat.reduceAdd, Nat.reduceLeDiff, z_eq0, z_eq1, z_or, z_em, Classical.not_not, not_false_eq_true, not_true_eq_false, true_and, and_true, false_and, and_false, and_self, true_implies, false_implies, implies_true, Option.toList_some, Option.toList_none, List.cons_append, List.nil_append, Nat.add_eq_zero_iff, a_nl_i, a_nl_r, a_nl_n, true_or, or_true, eq_self, a_isRA_22, a_isRA_24, a_isRA_32, a_isA_20, ok_4, ok_5, ok_6, ok_7, ok_9, ok_20, ok_21, ok_30, ok_50, ok_180, ok_192, ok_200, ha, hn]
    refine ⟨fun _ => hnext J1 u w b1, fun _ => ⟨hi, fun h3 => ?_, fun h3 => ?_⟩⟩
    · refine ck_watchOf ha hT1 (fun v2 J2 j2 => ?_)
      have b2 := dB_C b1 j2
      have hT2 := j2.1
      have e31 : J2 (C + 31) i.toNatClampNeg = J1 (C + 31) i.toNatClampNeg := j2.2 _ _ (by omega) (by omega)
      have hx := ix48 hi (c := J1 (C + 31) i.toNatClampNeg) ⟨g31.1, h3⟩
      simp only [q134_61, q134_63, q134_64, q134_67, q134_68, q134_70, q134_71, q134_73, k_27 hS, z_27, r_27_0 hS, k_14 hS, z_14, as_nil, as_i, as_r, Nat.reduceAdd, Nat.reduceLeDiff, z_eq0, z_eq1, z_or, z_em, Classical.not_not, not_false_eq_true, not_true_eq_false, true_and, and_true, false_and, and_false, and_self, true_implies, false_implies, implies_true, Option.toList_some, Option.toList_none, List.cons_append, List.nil_append, Nat.add_eq_zero_iff, a_nl_i, a_nl_r, a_nl_n, true_or, or_true, eq_self, a_isRA_22, a_isRA_24, a_isRA_32, a_isA_20, ok_4, ok_5, ok_6, ok_7, ok_9, ok_20, ok_21, ok_30, ok_50, ok_180, ok_192, ok_200, ha, hn]
      refine ck_isOpen ha hT2 (fun v3 _ => ?_)
      have bf := dB_31 (dB_30 (dB_29 b2 (k := (i * 48 + J1 (C + 31) i.toNatClampNeg).toNatClampNeg) (v := 8 * s + b)) (k := (i * 48 + J1 (C + 31) i.toNatClampNeg).toNatClampNeg) (v := v2)) (k := i.toNatClampNeg) (v := J1 (C + 31) i.toNatClampNeg + 1) (by clear ih hP hnext hT hT1 hT2 hB b1 b2; grind)
      simp only [q134_76, q134_79, q134_80, q134_82, q134_83, q134_84, q134_87, q134_88, q134_89, q134_90, q134_92, q134_93, q134_96, q134_98, q134_100, q134_101, q134_102, q134_104, q134_105, q134_106, q134_107, q134_110, q134_112, q134_114, q134_115, q134_116, q134_119, q134_120, q134_121, q134_122, q134_123, q134_124, k_27 hS, z_27, r_27_4 hS, k_31 hS, l_31 hS, z_31, r_27_2 hS, k_29 hS, l_29 hS, z_29, r_27_3 hS, k_30 hS, l_30 hS, z_30, as_nil, as_i, as_r, Nat.reduceAdd, Nat.reduceLeDiff, z_eq0, z_eq1, z_or, z_em, Classical.not_not, not_false_eq_true, not_true_eq_false, true_and, and_true, false_and, and_false, and_self, true_implies, false_implies, implies_true, Option.toList_some, Option.toList_none, List.cons_append, List.nil_append, Nat.add_eq_zero_iff, a_nl_i, a_nl_r, a_nl_n, true_or, or_true, eq_self, a_isRA_22, a_isRA_24, a_isRA_32, a_isA_20, ok_4, ok_5, ok_6, ok_7, ok_9, ok_20, ok_21, ok_30, ok_50, ok_180, ok_192, ok_200, ui_ap, cc_ne, cc_n0, cc_0n, Nat.reduceEqDiff, reduceIte, if_true, if_false, e31]
      repeat' first
        | with_reducible apply And.intro
        | with_reducible intro _
        | exact hi.1
        | exact hi.2
        | exact hx.1
        | exact hx.2
        | exact hnext _ _ _ bf
        | exact hnext _ _ _ b2
    · exact hnext J1 u w b1
theorem ck_collectIn {i : Int32} (hi : 0 ≤ i ∧ i < 4) (hn : ¬ R (C + 28) i.toNatClampNeg = 0) (hB : dB C K L R I0 I) {s : Int32} (hP : ∀ J, dB C K L R I0 J → P none (n, t, K, L, J, R)) : a_does (d + 7) 134 [a_rf (C + 27), .int i, .int s] (n, t, K, L, I, R) P := by
  have hT := hB.1.1
  have hS := hT.s
  have ha := (hT.g_bestR i.toNatClampNeg).resolve_left hn
  have hl := fun u w => lk_collectIn_10 (d := d) hi hn (s := s) hP 0 (by decide) I u w (by decide) hB
  rw [a_enter1 (M := a_m134) rfl (a_cat_rf (a_cat_int (a_cat_int a_cat_nil))) (show 3 ≤ 7 by decide)]
  show a_at _ (a_xm a_m134) 0 [some (a_rf (C + 27)), some (.int i), some (.int s), none, none, none, none] [] _ _
  simp only [q134_0, q134_1, q134_4, q134_5, q134_6, q134_7, q134_8, k_27 hS, z_27, r_27_1 hS, k_28 hS, l_28 hS, z_28, as_nil, as_i, as_r, Nat.reduceAdd, Nat.reduceLeDiff, z_eq0, z_eq1, z_or, z_em, Classical.not_not, not_false_eq_true, not_true_eq_false, true_and, and_true, false_and, and_false, and_self, true_implies, false_implies, implies_true, Option.toList_some, Option.toList_none, List.cons_append, List.nil_append, Nat.add_eq_zero_iff, a_nl_i, a_nl_r, a_nl_n, true_or, or_true, eq_self, a_isRA_22, a_isRA_24, a_isRA_32, a_isA_20, ok_4, ok_5, ok_6, ok_7, ok_9, ok_20, ok_21, ok_30, ok_50, ok_180, ok_192, ok_200]
  exact ⟨hi, hl _ _⟩
theorem lk_collect_47 {i : Int32} (hi : 0 ≤ i ∧ i < 4) (hn : ¬ R (C + 28) i.toNatClampNeg = 0) {p q r w : Int32} (hq : q ≤ 199) (hP : ∀ J, dB C K L R I0 J → P none (n, t, K, L, J, R)) : ∀ s : Int32, s ≤ 210 → ∀ J, 0 ≤ s → dB C K L R I0 J → a_at (d + 7) (a_xm a_m133) 47 [some (a_rf (C + 27)), some (.int i), some (.int p), some (.int q), some (.int r), some (a_rf (R (C + 28) i.toNatClampNeg)), some (.int w), some (.int s)] [] (n, t, K, L, J, R) P := by
  refine up_ind 210 (fun s hk ih => ?_)
  intro J q0 hB
  have hT := hB.1.1
  have hS := hT.s
  have ha := (hT.g_bestR i.toNatClampNeg).resolve_left hn
  have a2 := (hT.g_ask _ ha).2.1
  rw [q133_47]
  simp only [q133_49, q133_51, q133_54, q133_55, q133_56, q133_57, q133_58, k_27 hS, z_27, as_nil, as_i, as_r, Nat.reduceAdd, Nat.reduceLeDiff, z_eq0, z_eq1, z_or, z_em, Classical.not_not, not_false_eq_true, not_true_eq_false, true_and, and_true, false_and, and_false, and_self, true_implies, false_implies, implies_true, Option.toList_some, Option.toList_none, List.cons_append, List.nil_append, Nat.add_eq_zero_iff, a_nl_i, a_nl_r, a_nl_n, true_or, or_true, eq_self, a_isRA_22, a_isRA_24, a_isRA_32, a_isA_20, ok_4, ok_5, ok_6, ok_7, ok_9, ok_20, ok_21, ok_30, ok_50, ok_180, ok_192, ok_200, ha, hn]
  refine ⟨fun h1 => ?_, fun h1 => ?_⟩
  · simp only [q133_93, as_nil, as_i, as_r, Nat.reduceAdd, Nat.reduceLeDiff, z_eq0, z_eq1, z_or, z_em, Classical.not_not, not_false_eq_true, not_true_eq_false, true_and, and_true, false_and, and_false, and_self, true_implies, false_implies, implies_true, Option.toList_some, Option.toList_none, List.cons_append, List.nil_append, Nat.add_eq_zero_iff, a_nl_i, a_nl_r, a_nl_n, true_or, or_true, eq_self, a_isRA_22, a_isRA_24, a_isRA_32, a_isA_20, ok_4, ok_5, ok_6, ok_7, ok_9, ok_20, ok_21, ok_30, ok_50, ok_180, ok_192, ok_200]
    exact hP J hB
  · obtain ⟨g1, g2⟩ := pf_next q0 hk a2 hq h1
    have ih := ih g1
    have hnext : ∀ J, dB C K L R I0 J → a_at (d + 7) (a_xm a_m133) 87 [some (a_rf (C + 27)), some (.int i), some (.int p), some (.int q), some (.int r), some (a_rf (R (C + 28) i.toNatClampNeg)), some (.int w), some (.int s)] [] (n, t, K, L, J, R) P := fun J hJ => by
      simp only [q133_87, q133_90, as_nil, as_i, as_r, Nat.reduceAdd, Nat.reduceLeDiff, z_eq0, z_eq1, z_or, z_em, Classical.not_not, not_false_eq_true, not_true_eq_false, true_and, and_true, false_and, and_false, and_self, true_implies, false_implies, implies_true, Option.toList_some, Option.toList_none, List.cons_append, List.nil_append, Nat.add_eq_zero_iff, a_nl_i, a_nl_r, a_nl_n, true_or, or_true, eq_self, a_isRA_22, a_isRA_24, a_isRA_32, a_isA_20, ok_4, ok_5, ok_6, ok_7, ok_9, ok_20, ok_21, ok_30, ok_50, ok_180, ok_192, ok_200]
      exact ih J g2 hJ
    have hc : a_at (d + 7) (a_xm a_m133) 80 [some (a_rf (C + 27)), some (.int i), some (.int p), some (.int q), some (.int r), some (a_rf (R (C + 28) i.toNatClampNeg)), some (.int w), some (.int s)] [] (n, t, K, L, J, R) P := by
      simp only [q133_80, q133_81, q133_82, q133_84, k_27 hS, z_27, as_nil, as_i, as_r, Nat.reduceAdd, Nat.reduceLeDiff, z_eq0, z_eq1, z_or, z_em, Classical.not_not, not_false_eq_true, not_true_eq_false, true_and, and_true, false_and, and_false, and_self, true_implies, false_implies, implies_true, Option.toList_some, Option.toList_none, List.cons_append, List.nil_append, Nat.add_eq_zero_iff, a_nl_i, a_nl_r, a_nl_n, true_or, or_true, eq_self, a_isRA_22, a_isRA_24, a_isRA_32, a_isA_20, ok_4, ok_5, ok_6, ok_7, ok_9, ok_20, ok_21, ok_30, ok_50, ok_180, ok_192, ok_200]
      exact ck_collectIn hi hn hB hnext
    simp only [q133_61, q133_63, q133_66, q133_67, q133_70, q133_72, q133_74, k_27 hS, z_27, r_27_0 hS, k_14 hS, z_14, as_nil, as_i, as_r, Nat.reduceAdd, Nat.reduceLeDiff, z_eq0, z_eq1, z_or, z_em, Classical.not_not, not_false_eq_true, not_true_eq_false, true_and, and_true, false_and, and_false, and_self, true_implies, false_implies, implies_true, Option.toList_some, Option.toList_none, List.cons_append, List.nil_append, Nat.add_eq_zero_iff, a_nl_i, a_nl_r, a_nl_n, true_or, or_true, eq_self, a_isRA_22, a_isRA_24, a_isRA_32, a_isA_20, ok_4, ok_5, ok_6, ok_7, ok_9, ok_20, ok_21, ok_30, ok_50, ok_180, ok_192, ok_200, ha, hn]
    refine ⟨fun _ => hc, fun _ => ck_isTooNear ha hT (fun v => ?_)⟩
    simp only [q133_77, as_nil, as_i, as_r, Nat.reduceAdd, Nat.reduceLeDiff, z_eq0, z_eq1, z_or, z_em, Classical.not_not, not_false_eq_true, not_true_eq_false, true_and, and_true, false_and, and_false, and_self, true_implies, false_implies, implies_true, Option.toList_some, Option.toList_none, List.cons_append, List.nil_append, Nat.add_eq_zero_iff, a_nl_i, a_nl_r, a_nl_n, true_or, or_true, eq_self, a_isRA_22, a_isRA_24, a_isRA_32, a_isA_20, ok_4, ok_5, ok_6, ok_7, ok_9, ok_20, ok_21, ok_30, ok_50, ok_180, ok_192, ok_200]
    exact ⟨fun _ => hnext J hB, fun _ => hc⟩
theorem ck_collect {i : Int32} (hi : 0 ≤ i ∧ i < 4) (hn : ¬ R (C + 28) i.toNatClampNeg = 0) (hB : dB C K L R I0 I) {p q r : Int32} (hp : 0 ≤ p ∧ p ≤ 210) (hq : q ≤ 199) (hP : ∀ J, dB C K L R I0 J → P none (n, t, K, L, J, R)) : a_does (d + 8) 133 [a_rf (C + 27), .int i, .int p, .int q, .int r] (n, t, K, L, I, R) P := by
  have hT := hB.1.1
  have hS := hT.s
  have ha := (hT.g_bestR i.toNatClampNeg).resolve_left hn
  have hB1 := dB_31 (k := i.toNatClampNeg) (v := 0) hB (by decide)
  have hl := fun w => lk_collect_47 (d := d) hi hn (p := p) (r := r) (w := w) hq hP p hp.2 _ hp.1 hB1
  have g := (hT.g_ask _ ha).1
  have na : ¬ R (C + 28) i.toNatClampNeg = C + 31 := by omega
  rw [a_enter1 (M := a_m133) rfl (a_cat_rf (a_cat_int (a_cat_int (a_cat_int (a_cat_int a_cat_nil))))) (show 5 ≤ 8 by decide)]
  show a_at _ (a_xm a_m133) 0 [some (a_rf (C + 27)), some (.int i), some (.int p), some (.int q), some (.int r), none, none, none] [] _ _
  repeat' first
    | with_reducible apply And.intro
    | with_reducible assumption
    | with_reducible intro _
    | with_reducible apply hl
    | with_reducible apply ck_isIn
    | simp only [q133_0, q133_1, q133_4, q133_5, q133_6, q133_8, q133_9, q133_12, q133_13, q133_14, q133_15, q133_17, q133_20, q133_21, q133_24, q133_26, q133_28, q133_31, q133_34, q133_37, q133_38, q133_41, q133_42, q133_44, q133_45, k_27 hS, z_27, r_27_1 hS, k_28 hS, l_28 hS, z_28, r_27_4 hS, k_31 hS, l_31 hS, z_31, as_nil, as_i, as_r, Nat.reduceAdd, Nat.reduceLeDiff, z_eq0, z_eq1, z_or, z_em, Classical.not_not, not_false_eq_true, not_true_eq_false, true_and, and_true, false_and, and_false, and_self, true_implies, false_implies, implies_true, Option.toList_some, Option.toList_none, List.cons_append, List.nil_append, Nat.add_eq_zero_iff, a_nl_i, a_nl_r, a_nl_n, true_or, or_true, eq_self, a_isRA_22, a_isRA_24, a_isRA_32, a_isA_20, ok_4, ok_5, ok_6, ok_7, ok_9, ok_20, ok_21, ok_30, ok_50, ok_180, ok_192, ok_200, ha, hn, na, ui_ap, cc_ne, cc_n0, cc_0n, Nat.reduceEqDiff, reduceIte, if_true, if_false]
  all_goals ((try clear ih); (try clear hP); (try clear hl); (try clear hq); (try clear a3); grind [ui_ap])
def kEX (C n t : Nat) (K L : Nat → Nat) (R : Nat → Nat → Nat) (I0 : Nat → Nat → Int32) (z : Nat) : Prop := ∀ (at_ : Int32) (sf : Int32) (I : Nat → Nat → Int32) (D : Nat) (P : Option Value → AH → Prop), 0 ≤ at_ → at_.toInt + z = (I0 (C + 27) 8).toInt → z + 20 ≤ D → dB C K L R I0 I → (∀ J, dB C K L R I0 J → P none (n, t, K, L, J, R)) → a_does D 138 [a_rf (C + 27), .int at_, .int sf] (n, t, K, L, I, R) P
theorem lk_extend_71 {E : Nat} {i sf w : Int32} (hi : 0 ≤ i ∧ i < 4) (hn : ¬ R (C + 28) i.toNatClampNeg = 0) (hr : ∀ (sf : Int32) (J : Nat → Nat → Int32) (P : Option Value → AH → Prop), dB C K L R I0 J → (∀ J, dB C K L R I0 J → P none (n, t, K, L, J, R)) → a_does (E + 19) 138 [a_rf (C + 27), .int (i + 1), .int sf] (n, t, K, L, J, R) P) (hP : ∀ J, dB C K L R I0 J → P none (n, t, K, L, J, R)) : ∀ k : Int32, k ≤ 48 → ∀ J u1 u2, 0 ≤ k → dB C K L R I0 J → a_at (E + 19) (a_xm a_m138) 71 [some (a_rf (C + 27)), some (.int i), some (.int sf), some (a_rf (R (C + 28) i.toNatClampNeg)), some (.int w), some (.int k), u1, u2] [] (n, t, K, L, J, R) P := by
  refine up_ind 48 (fun k hk ih => ?_)
  intro J u1 u2 q0 hB
  have hT := hB.1.1
  have hS := hT.s
  have ha := (hT.g_bestR i.toNatClampNeg).resolve_left hn
  have g31 := hT.g_spots i.toNatClampNeg
  have n8 : ¬ (8 : Int32) = 0 := by decide
  have hi5 : 0 ≤ i + 1 ∧ i + 1 < 5 := by clear hr hP ih; grind
  have hend : ∀ u1 u2, a_at (E + 19) (a_xm a_m138) 218 [some (a_rf (C + 27)), some (.int i), some (.int sf), some (a_rf (R (C + 28) i.toNatClampNeg)), some (.int w), some (.int k), u1, u2] [] (n, t, K, L, J, R) P := fun u1 u2 => by
    simp only [q138_218, q138_219, q138_222, q138_223, q138_225, q138_226, q138_227, q138_228, q138_229, q138_230, q138_231, k_27 hS, z_27, r_27_6 hS, k_33 hS, l_33 hS, z_33, as_nil, as_i, as_r, Nat.reduceAdd, Nat.reduceLeDiff, z_eq0, z_eq1, z_or, z_em, Classical.not_not, not_false_eq_true, not_true_eq_false, true_and, and_true, false_and, and_false, and_self, true_implies, false_implies, implies_true, Option.toList_some, Option.toList_none, List.cons_append, List.nil_append, Nat.add_eq_zero_iff, a_nl_i, a_nl_r, a_nl_n, true_or, or_true, eq_self, a_isRA_22, a_isRA_24, a_isRA_32, a_isA_20, ok_4, ok_5, ok_6, ok_7, ok_9, ok_20, ok_21, ok_30, ok_50, ok_180, ok_192, ok_200, ui_ap, cc_ne, cc_n0, cc_0n, Nat.reduceEqDiff, reduceIte, if_true, if_false]
    refine ⟨hi, hr _ _ _ (dB_33 hB) (fun J2 b2 => ?_)⟩
    simp only [q138_234, as_nil, as_i, as_r, Nat.reduceAdd, Nat.reduceLeDiff, z_eq0, z_eq1, z_or, z_em, Classical.not_not, not_false_eq_true, not_true_eq_false, true_and, and_true, false_and, and_false, and_self, true_implies, false_implies, implies_true, Option.toList_some, Option.toList_none, List.cons_append, List.nil_append, Nat.add_eq_zero_iff, a_nl_i, a_nl_r, a_nl_n, true_or, or_true, eq_self, a_isRA_22, a_isRA_24, a_isRA_32, a_isA_20, ok_4, ok_5, ok_6, ok_7, ok_9, ok_20, ok_21, ok_30, ok_50, ok_180, ok_192, ok_200, ui_ap, cc_ne, cc_n0, cc_0n, Nat.reduceEqDiff, reduceIte, if_true, if_false]
    exact hP J2 b2
  have hnext : k < 48 → ∀ J u1 u2, dB C K L R I0 J → a_at (E + 19) (a_xm a_m138) 212 [some (a_rf (C + 27)), some (.int i), some (.int sf), some (a_rf (R (C + 28) i.toNatClampNeg)), some (.int w), some (.int k), u1, u2] [] (n, t, K, L, J, R) P := fun h J u1 u2 hJ => by
    simp only [q138_212, q138_215, as_nil, as_i, as_r, Nat.reduceAdd, Nat.reduceLeDiff, z_eq0, z_eq1, z_or, z_em, Classical.not_not, not_false_eq_true, not_true_eq_false, true_and, and_true, false_and, and_false, and_self, true_implies, false_implies, implies_true, Option.toList_some, Option.toList_none, List.cons_append, List.nil_append, Nat.add_eq_zero_iff, a_nl_i, a_nl_r, a_nl_n, true_or, or_true, eq_self, a_isRA_22, a_isRA_24, a_isRA_32, a_isA_20, ok_4, ok_5, ok_6, ok_7, ok_9, ok_20, ok_21, ok_30, ok_50, ok_180, ok_192, ok_200]
    exact ih h J u1 u2 (by clear hr ih hP; grind) hJ
  rw [q138_71]
  simp only [q138_73, q138_74, q138_77, q138_78, q138_79, q138_82, q138_84, q138_85, q138_88, q138_89, q138_90, q138_91, q138_92, q138_93, q138_94, q138_97, k_27 hS, z_27, r_27_4 hS, k_31 hS, l_31 hS, z_31, r_27_5 hS, k_32 hS, l_32 hS, z_32, as_nil, as_i, as_r, Nat.reduceAdd, Nat.reduceLeDiff, z_eq0, z_eq1, z_or, z_em, Classical.not_not, not_false_eq_true, not_true_eq_false, true_and, and_true, false_and, and_false, and_self, true_implies, false_implies, implies_true, Option.toList_some, Option.toList_none, List.cons_append, List.nil_append, Nat.add_eq_zero_iff, a_nl_i, a_nl_r, a_nl_n, true_or, or_true, eq_self, a_isRA_22, a_isRA_24, a_isRA_32, a_isA_20, ok_4, ok_5, ok_6, ok_7, ok_9, ok_20, ok_21, ok_30, ok_50, ok_180, ok_192, ok_200]
  refine ⟨hi, fun h1 => hend _ _, fun h1 => ⟨hi5, fun h2 => hend _ _, fun h2 => ?_⟩⟩
  have hk8 : k < 48 := by clear hr ih hP hend hnext; grind
  have hx := ix48 hi (c := k) ⟨q0, hk8⟩
  have hnext := hnext hk8
  simp only [q138_100, q138_101, q138_104, q138_105, q138_107, q138_108, q138_110, q138_111, q138_112, q138_114, q138_115, q138_118, q138_119, q138_121, q138_122, q138_124, q138_125, q138_126, q138_128, q138_129, q138_132, q138_133, q138_135, q138_137, q138_138, k_27 hS, z_27, r_27_2 hS, k_29 hS, l_29 hS, z_29, r_27_3 hS, k_30 hS, l_30 hS, z_30, r_27_0 hS, k_14 hS, z_14, as_nil, as_i, as_r, Nat.reduceAdd, Nat.reduceLeDiff, z_eq0, z_eq1, z_or, z_em, Classical.not_not, not_false_eq_true, not_true_eq_false, true_and, and_true, false_and, and_false, and_self, true_implies, false_implies, implies_true, Option.toList_some, Option.toList_none, List.cons_append, List.nil_append, Nat.add_eq_zero_iff, a_nl_i, a_nl_r, a_nl_n, true_or, or_true, eq_self, a_isRA_22, a_isRA_24, a_isRA_32, a_isA_20, ok_4, ok_5, ok_6, ok_7, ok_9, ok_20, ok_21, ok_30, ok_50, ok_180, ok_192, ok_200, ha, hn, n8]
  refine ⟨hx, hx, ?_⟩
  refine ck_isTooNear ha hT (fun v => ?_)
  simp only [q138_141, q138_144, q138_145, q138_148, q138_149, q138_151, q138_153, q138_154, q138_156, q138_158, q138_159, q138_161, k_27 hS, z_27, r_27_0 hS, k_14 hS, z_14, as_nil, as_i, as_r, Nat.reduceAdd, Nat.reduceLeDiff, z_eq0, z_eq1, z_or, z_em, Classical.not_not, not_false_eq_true, not_true_eq_false, true_and, and_true, false_and, and_false, and_self, true_implies, false_implies, implies_true, Option.toList_some, Option.toList_none, List.cons_append, List.nil_append, Nat.add_eq_zero_iff, a_nl_i, a_nl_r, a_nl_n, true_or, or_true, eq_self, a_isRA_22, a_isRA_24, a_isRA_32, a_isA_20, ok_4, ok_5, ok_6, ok_7, ok_9, ok_20, ok_21, ok_30, ok_50, ok_180, ok_192, ok_200, ha, hn, n8]
  refine ⟨fun _ => hnext _ _ _ hB, fun _ => ?_⟩
  refine ck_isOpen ha hT (fun v2 hf => ?_)
  simp only [q138_164, q138_167, q138_168, q138_171, q138_172, q138_174, q138_176, q138_177, q138_179, q138_181, q138_182, q138_184, k_27 hS, z_27, r_27_0 hS, k_14 hS, z_14, as_nil, as_i, as_r, Nat.reduceAdd, Nat.reduceLeDiff, z_eq0, z_eq1, z_or, z_em, Classical.not_not, not_false_eq_true, not_true_eq_false, true_and, and_true, false_and, and_false, and_self, true_implies, false_implies, implies_true, Option.toList_some, Option.toList_none, List.cons_append, List.nil_append, Nat.add_eq_zero_iff, a_nl_i, a_nl_r, a_nl_n, true_or, or_true, eq_self, a_isRA_22, a_isRA_24, a_isRA_32, a_isA_20, ok_4, ok_5, ok_6, ok_7, ok_9, ok_20, ok_21, ok_30, ok_50, ok_180, ok_192, ok_200, ha, hn, n8]
  refine ⟨fun _ => hnext _ _ _ hB, fun h3 => ?_⟩
  refine ck_lay ha hT (hf h3) (fun J2 j2 => ?_)
  have b2 := dB_L hB j2
  simp only [q138_187, q138_188, q138_191, q138_192, q138_194, q138_195, q138_196, q138_197, q138_198, q138_199, q138_201, k_27 hS, z_27, r_27_6 hS, k_33 hS, l_33 hS, z_33, as_nil, as_i, as_r, Nat.reduceAdd, Nat.reduceLeDiff, z_eq0, z_eq1, z_or, z_em, Classical.not_not, not_false_eq_true, not_true_eq_false, true_and, and_true, false_and, and_false, and_self, true_implies, false_implies, implies_true, Option.toList_some, Option.toList_none, List.cons_append, List.nil_append, Nat.add_eq_zero_iff, a_nl_i, a_nl_r, a_nl_n, true_or, or_true, eq_self, a_isRA_22, a_isRA_24, a_isRA_32, a_isA_20, ok_4, ok_5, ok_6, ok_7, ok_9, ok_20, ok_21, ok_30, ok_50, ok_180, ok_192, ok_200]
  refine ⟨hi, hr _ _ _ (dB_33 b2) (fun J3 b3 => ?_)⟩
  have hT3 := b3.1.1
  simp only [q138_204, q138_205, q138_208, q138_209, k_27 hS, z_27, r_27_0 hS, k_14 hS, z_14, as_nil, as_i, as_r, Nat.reduceAdd, Nat.reduceLeDiff, z_eq0, z_eq1, z_or, z_em, Classical.not_not, not_false_eq_true, not_true_eq_false, true_and, and_true, false_and, and_false, and_self, true_implies, false_implies, implies_true, Option.toList_some, Option.toList_none, List.cons_append, List.nil_append, Nat.add_eq_zero_iff, a_nl_i, a_nl_r, a_nl_n, true_or, or_true, eq_self, a_isRA_22, a_isRA_24, a_isRA_32, a_isA_20, ok_4, ok_5, ok_6, ok_7, ok_9, ok_20, ok_21, ok_30, ok_50, ok_180, ok_192, ok_200]
  refine ck_lift ha hT3 (fun J4 j4 => ?_)
  exact hnext _ _ _ (dB_L b3 j4)
theorem kEX_all (hN : bnP C R (I0 (C + 27) 8)) (hT0 : cT C K L I0 R) : ∀ z, kEX C n t K L R I0 z := by
  intro z
  have gs := hT0.g_best
  have s0 := Int32.le_iff_toInt_le.mp gs.1
  have s1 := Int32.le_iff_toInt_le.mp gs.2
  have c0 : (0 : Int32).toInt = 0 := rfl
  have c1 : (1 : Int32).toInt = 1 := rfl
  have c4 : (4 : Int32).toInt = 4 := rfl
  induction z with
  | zero =>
    intro i sf I D P h0 h1 h2 hB hP
    obtain ⟨E, rfl⟩ : ∃ E, D = E + 20 := ⟨D - 20, by omega⟩
    have hT := hB.1.1
    have hS := hT.s
    have ei : i = I (C + 27) 8 := by rw [hB.2]; exact Int32.toInt_inj.mp (by omega)
    have gi := hT.g_best
    rw [← ei] at gi
    have hi4 : ¬ 4 < i := Int32.not_lt.mpr gi.2
    have hi5 : 0 ≤ i ∧ i < 5 := ⟨gi.1, by clear hB hT hS hP hN; grind⟩
    have m4 : (0 : Nat) + i.toNatClampNeg ≤ 4 := by
      have e0 := Int32.le_iff_toInt_le.mp gi.1
      have e1 := Int32.le_iff_toInt_le.mp gi.2
      show 0 + i.toInt.toNat ≤ 4
      omega
    have n0 : ¬ i < 0 := Int32.not_lt.mpr gi.1
    have f1 : dB C K L R I0 (a_ci (a_ui I (C + 27) 9 sf) (C + 33) (C + 34) 0 0 i.toNatClampNeg) := dB_34 (dB_sum hB)
    have m5 : i.toNatClampNeg ≤ 4 := by omega
    rw [a_enter1 (M := a_m138) rfl (a_cat_rf (a_cat_int (a_cat_int a_cat_nil))) (show 3 ≤ 8 by decide)]
    show a_at _ (a_xm a_m138) 0 [some (a_rf (C + 27)), some (.int i), some (.int sf), none, none, none, none, none] [] _ _
    simp only [q138_0, q138_1, q138_2, q138_5, q138_6, q138_7, q138_10, q138_11, q138_12, q138_13, q138_14, q138_17, q138_20, q138_21, q138_22, q138_23, q138_26, q138_29, q138_30, q138_31, q138_34, q138_35, q138_38, q138_39, q138_40, q138_43, q138_44, q138_45, q138_48, q138_51, k_27 hS, z_27, r_27_5 hS, k_32 hS, l_32 hS, z_32, r_27_6 hS, k_33 hS, l_33 hS, z_33, r_27_7 hS, k_34 hS, l_34 hS, z_34, as_nil, as_i, as_r, Nat.reduceAdd, Nat.reduceLeDiff, z_eq0, z_eq1, z_or, z_em, Classical.not_not, not_false_eq_true, not_true_eq_false, true_and, and_true, false_and, and_false, and_self, true_implies, false_implies, implies_true, Option.toList_some, Option.toList_none, List.cons_append, List.nil_append, Nat.add_eq_zero_iff, a_nl_i, a_nl_r, a_nl_n, true_or, or_true, eq_self, a_isRA_22, a_isRA_24, a_isRA_32, a_isA_20, ok_4, ok_5, ok_6, ok_7, ok_9, ok_20, ok_21, ok_30, ok_50, ok_180, ok_192, ok_200, ui_ap, cc_ne, cc_n0, cc_0n, Nat.reduceEqDiff, reduceIte, if_true, if_false, ← ei, hi4, a_copy_eq, a_kd_eq, a_ln_eq, cn00, lt00, Nat.zero_add, n0, m5]
    refine ⟨hi5, fun _ => hP _ f1, fun _ => hP _ hB⟩
  | succ z ih =>
    intro i sf I D P h0 h1 h2 hB hP
    obtain ⟨E, rfl⟩ : ∃ E, D = E + 20 := ⟨D - 20, by omega⟩
    have hT := hB.1.1
    have hS := hT.s
    have e0 := Int32.le_iff_toInt_le.mp h0
    have hi : 0 ≤ i ∧ i < 4 := ⟨h0, by rw [Int32.lt_iff_toInt_lt]; omega⟩
    have ei : ¬ i = I (C + 27) 8 := by
      rw [hB.2]
      intro e
      rw [e] at h1
      omega
    have hi4 : ¬ 4 < i := by clear hB hT hS hP hN ih; grind
    have hi5 : 0 ≤ i ∧ i < 5 := ⟨h0, by clear hB hT hS hP hN ih; grind⟩
    have hn := hN i h0 (by rw [Int32.lt_iff_toInt_lt]; omega)
    have ei1 : (i + 1).toInt = i.toInt + 1 := by rw [ti_add (by omega)]; omega
    have hr : ∀ (sf : Int32) (J : Nat → Nat → Int32) (P : Option Value → AH → Prop), dB C K L R I0 J → (∀ J, dB C K L R I0 J → P none (n, t, K, L, J, R)) → a_does (E + 19) 138 [a_rf (C + 27), .int (i + 1), .int sf] (n, t, K, L, J, R) P := fun sf J P b hP => ih (i + 1) sf J (E + 19) P (by rw [Int32.le_iff_toInt_le]; omega) (by omega) (by omega) b hP
    have hl := fun w u1 u2 => lk_extend_71 (E := E) (sf := sf) (w := w) hi hn hr hP 0 (by decide) I u1 u2 (by decide) hB
    rw [a_enter1 (M := a_m138) rfl (a_cat_rf (a_cat_int (a_cat_int a_cat_nil))) (show 3 ≤ 8 by decide)]
    show a_at _ (a_xm a_m138) 0 [some (a_rf (C + 27)), some (.int i), some (.int sf), none, none, none, none, none] [] _ _
    simp only [q138_0, q138_1, q138_2, q138_5, q138_6, q138_7, q138_10, q138_11, q138_12, q138_13, q138_14, q138_17, q138_20, q138_21, q138_22, q138_23, q138_26, q138_29, q138_30, q138_31, q138_34, q138_35, q138_38, q138_39, q138_40, q138_43, q138_44, q138_45, q138_48, q138_51, q138_52, q138_53, q138_56, q138_57, q138_58, q138_59, q138_60, q138_61, q138_62, k_27 hS, z_27, r_27_5 hS, k_32 hS, l_32 hS, z_32, r_27_6 hS, k_33 hS, l_33 hS, z_33, r_27_7 hS, k_34 hS, l_34 hS, z_34, r_27_1 hS, k_28 hS, l_28 hS, z_28, as_nil, as_i, as_r, Nat.reduceAdd, Nat.reduceLeDiff, z_eq0, z_eq1, z_or, z_em, Classical.not_not, not_false_eq_true, not_true_eq_false, true_and, and_true, false_and, and_false, and_self, true_implies, false_implies, implies_true, Option.toList_some, Option.toList_none, List.cons_append, List.nil_append, Nat.add_eq_zero_iff, a_nl_i, a_nl_r, a_nl_n, true_or, or_true, eq_self, a_isRA_22, a_isRA_24, a_isRA_32, a_isA_20, ok_4, ok_5, ok_6, ok_7, ok_9, ok_20, ok_21, ok_30, ok_50, ok_180, ok_192, ok_200, ui_ap, cc_ne, cc_n0, cc_0n, Nat.reduceEqDiff, reduceIte, if_true, if_false, ei, hi4]
    refine ⟨hi5, fun _ => ⟨hi, ?_⟩, fun _ => hP _ hB⟩
    refine ck_worth hi hn hT (fun v => ?_)
    simp only [q138_65, q138_66, q138_68, q138_69, as_nil, as_i, as_r, Nat.reduceAdd, Nat.reduceLeDiff, z_eq0, z_eq1, z_or, z_em, Classical.not_not, not_false_eq_true, not_true_eq_false, true_and, and_true, false_and, and_false, and_self, true_implies, false_implies, implies_true, Option.toList_some, Option.toList_none, List.cons_append, List.nil_append, Nat.add_eq_zero_iff, a_nl_i, a_nl_r, a_nl_n, true_or, or_true, eq_self, a_isRA_22, a_isRA_24, a_isRA_32, a_isA_20, ok_4, ok_5, ok_6, ok_7, ok_9, ok_20, ok_21, ok_30, ok_50, ok_180, ok_192, ok_200, ui_ap, cc_ne, cc_n0, cc_0n, Nat.reduceEqDiff, reduceIte, if_true, if_false]
    exact hl _ _ _
theorem lk_spotOf_2 {q : Int32} (hT : cT C K L I R) (hN : bnP C R (I (C + 27) 8)) (hP : ∀ v, P (some (.int v)) (n, t, K, L, I, R)) : ∀ i : Int32, i ≤ 4 → 0 ≤ i → a_at d (a_xm a_m139) 2 [some (a_rf (C + 27)), some (.int q), some (.int i)] [] (n, t, K, L, I, R) P := by
  have hS := hT.s
  have gs := hT.g_best
  refine up_ind 4 (fun i hk ih => ?_)
  intro q0
  have gb := hT.g_bestR i.toNatClampNeg
  have hn := hN i q0
  rw [q139_2]
  repeat' first
    | with_reducible apply And.intro
    | with_reducible assumption
    | with_reducible intro _
    | with_reducible apply hP
    | with_reducible apply ih
    | simp only [q139_3, q139_4, q139_7, q139_10, q139_11, q139_14, q139_15, q139_16, q139_19, q139_20, q139_23, q139_24, q139_27, q139_28, q139_29, q139_30, q139_33, q139_36, q139_38, k_27 hS, z_27, r_27_1 hS, k_28 hS, l_28 hS, z_28, r_27_7 hS, k_34 hS, l_34 hS, z_34, as_nil, as_i, as_r, Nat.reduceAdd, Nat.reduceLeDiff, z_eq0, z_eq1, z_or, z_em, Classical.not_not, not_false_eq_true, not_true_eq_false, true_and, and_true, false_and, and_false, and_self, true_implies, false_implies, implies_true, Option.toList_some, Option.toList_none, List.cons_append, List.nil_append, Nat.add_eq_zero_iff, a_nl_i, a_nl_r, a_nl_n, true_or, or_true, eq_self, a_isRA_22, a_isRA_24, a_isRA_32, a_isA_20, ok_4, ok_5, ok_6, ok_7, ok_9, ok_20, ok_21, ok_30, ok_50, ok_180, ok_192, ok_200]
  all_goals ((try clear ih); (try clear hP); (try clear hl); (try clear hq); (try clear a3); grind [ui_ap])
theorem ck_spotOf {q : Int32} (hT : cT C K L I R) (hN : bnP C R (I (C + 27) 8)) (hP : ∀ v, P (some (.int v)) (n, t, K, L, I, R)) : a_does (d + 1) 139 [a_rf (C + 27), .int q] (n, t, K, L, I, R) P := by
  have hS := hT.s
  have hl := lk_spotOf_2 (d := d) (q := q) hT hN hP 0 (by decide) (by decide)
  rw [a_enter1 (M := a_m139) rfl (a_cat_rf (a_cat_int a_cat_nil)) (show 2 ≤ 3 by decide)]
  show a_at _ (a_xm a_m139) 0 [some (a_rf (C + 27)), some (.int q), none] [] _ _
  repeat' first
    | with_reducible apply And.intro
    | with_reducible assumption
    | with_reducible intro _
    | with_reducible apply hl
    | simp only [q139_0, q139_1, as_nil, as_i, as_r, Nat.reduceAdd, Nat.reduceLeDiff, z_eq0, z_eq1, z_or, z_em, Classical.not_not, not_false_eq_true, not_true_eq_false, true_and, and_true, false_and, and_false, and_self, true_implies, false_implies, implies_true, Option.toList_some, Option.toList_none, List.cons_append, List.nil_append, Nat.add_eq_zero_iff, a_nl_i, a_nl_r, a_nl_n, true_or, or_true, eq_self, a_isRA_22, a_isRA_24, a_isRA_32, a_isA_20, ok_4, ok_5, ok_6, ok_7, ok_9, ok_20, ok_21, ok_30, ok_50, ok_180, ok_192, ok_200]
  all_goals ((try clear ih); (try clear hP); (try clear hl); (try clear hq); (try clear a3); grind [ui_ap])
theorem lk_search_125 (hN : bnP C R (I0 (C + 27) 8)) (hT0 : cT C K L I0 R) {p q r : Int32} (hP : ∀ J, dB C K L R I0 J → P none (n, t, K, L, J, R)) : ∀ i : Int32, -1 ≤ i → ∀ J u, i < I0 (C + 27) 8 → dB C K L R I0 J → a_at (d + 30) (a_xm a_m132) 125 [some (a_rf (C + 27)), some (.int p), some (.int q), some (.int r), some (.int i), u] [] (n, t, K, L, J, R) P := by
  refine dn_ind (-1) (fun i hk ih => ?_)
  intro J u q0 hB
  have hT := hB.1.1
  have hS := hT.s
  have gs := hT0.g_best
  have hi5 : ¬ i < 0 → (0 ≤ i + 1 ∧ i + 1 < 5) ∧ (0 ≤ i ∧ i < 5) ∧ (0 ≤ i ∧ i < 4) := fun h => by clear hP ih hN; grind
  have hex : a_at (d + 30) (a_xm a_m132) 173 [some (a_rf (C + 27)), some (.int p), some (.int q), some (.int r), some (.int i), u] [] (n, t, K, L, J, R) P := by
    simp only [q132_173, q132_174, q132_175, q132_178, q132_179, q132_180, q132_181, k_27 hS, z_27, as_nil, as_i, as_r, Nat.reduceAdd, Nat.reduceLeDiff, z_eq0, z_eq1, z_or, z_em, Classical.not_not, not_false_eq_true, not_true_eq_false, true_and, and_true, false_and, and_false, and_self, true_implies, false_implies, implies_true, Option.toList_some, Option.toList_none, List.cons_append, List.nil_append, Nat.add_eq_zero_iff, a_nl_i, a_nl_r, a_nl_n, true_or, or_true, eq_self, a_isRA_22, a_isRA_24, a_isRA_32, a_isA_20, ok_4, ok_5, ok_6, ok_7, ok_9, ok_20, ok_21, ok_30, ok_50, ok_180, ok_192, ok_200, ui_ap, cc_ne, cc_n0, cc_0n, Nat.reduceEqDiff, reduceIte, if_true, if_false]
    have b2 := dB_sum (v := -1) hB
    have g := kEX_all (n := n) (t := t) hN hT0 (I0 (C + 27) 8).toInt.toNat
    have s0 := Int32.le_iff_toInt_le.mp gs.1
    have s1 := Int32.le_iff_toInt_le.mp gs.2
    have c0 : (0 : Int32).toInt = 0 := rfl
    have c4 : (4 : Int32).toInt = 4 := rfl
    refine g 0 0 _ _ _ (by decide) (by omega) (by omega) b2 (fun J3 b3 => ?_)
    simp only [q132_184, as_nil, as_i, as_r, Nat.reduceAdd, Nat.reduceLeDiff, z_eq0, z_eq1, z_or, z_em, Classical.not_not, not_false_eq_true, not_true_eq_false, true_and, and_true, false_and, and_false, and_self, true_implies, false_implies, implies_true, Option.toList_some, Option.toList_none, List.cons_append, List.nil_append, Nat.add_eq_zero_iff, a_nl_i, a_nl_r, a_nl_n, true_or, or_true, eq_self, a_isRA_22, a_isRA_24, a_isRA_32, a_isA_20, ok_4, ok_5, ok_6, ok_7, ok_9, ok_20, ok_21, ok_30, ok_50, ok_180, ok_192, ok_200, ui_ap, cc_ne, cc_n0, cc_0n, Nat.reduceEqDiff, reduceIte, if_true, if_false]
    exact hP J3 b3
  rw [q132_125]
  simp only [q132_127, q132_130, q132_131, q132_134, q132_136, q132_137, q132_140, q132_142, q132_143, q132_144, q132_145, q132_146, q132_149, q132_151, q132_152, q132_155, q132_156, q132_158, k_27 hS, z_27, r_27_5 hS, k_32 hS, l_32 hS, z_32, r_27_4 hS, k_31 hS, l_31 hS, z_31, as_nil, as_i, as_r, Nat.reduceAdd, Nat.reduceLeDiff, z_eq0, z_eq1, z_or, z_em, Classical.not_not, not_false_eq_true, not_true_eq_false, true_and, and_true, false_and, and_false, and_self, true_implies, false_implies, implies_true, Option.toList_some, Option.toList_none, List.cons_append, List.nil_append, Nat.add_eq_zero_iff, a_nl_i, a_nl_r, a_nl_n, true_or, or_true, eq_self, a_isRA_22, a_isRA_24, a_isRA_32, a_isA_20, ok_4, ok_5, ok_6, ok_7, ok_9, ok_20, ok_21, ok_30, ok_50, ok_180, ok_192, ok_200]
  refine ⟨fun _ => hex, fun h1 => ?_⟩
  obtain ⟨x1, x2, x3⟩ := hi5 h1
  have hn := hN i x3.1 q0
  have ih := ih (by clear hP ih hN; grind)
  have hs : ∀ v, a_at (d + 30) (a_xm a_m132) 165 [some (a_rf (C + 27)), some (.int p), some (.int q), some (.int r), some (.int i), u] [.int v, .int (J (C + 32) (i + 1).toNatClampNeg), .int i, a_rf (C + 32)] (n, t, K, L, J, R) P := fun v => by
    have hi := ih _ u (by clear hP ih hN; grind) (dB_32 hB (k := i.toNatClampNeg) (v := J (C + 32) (i + 1).toNatClampNeg + v))
    simp only [q132_165, q132_166, q132_167, q132_170, as_nil, as_i, as_r, Nat.reduceAdd, Nat.reduceLeDiff, z_eq0, z_eq1, z_or, z_em, Classical.not_not, not_false_eq_true, not_true_eq_false, true_and, and_true, false_and, and_false, and_self, true_implies, false_implies, implies_true, Option.toList_some, Option.toList_none, List.cons_append, List.nil_append, Nat.add_eq_zero_iff, a_nl_i, a_nl_r, a_nl_n, true_or, or_true, eq_self, a_isRA_22, a_isRA_24, a_isRA_32, a_isA_20, ok_4, ok_5, ok_6, ok_7, ok_9, ok_20, ok_21, ok_30, ok_50, ok_180, ok_192, ok_200, ui_ap, cc_ne, cc_n0, cc_0n, Nat.reduceEqDiff, reduceIte, if_true, if_false, k_32 hS, l_32 hS, z_32]
    exact ⟨x2, hi⟩
  refine ⟨x1, x3, fun _ => ?_, fun _ => ?_⟩
  · simp only [q132_164, as_nil, as_i, as_r, Nat.reduceAdd, Nat.reduceLeDiff, z_eq0, z_eq1, z_or, z_em, Classical.not_not, not_false_eq_true, not_true_eq_false, true_and, and_true, false_and, and_false, and_self, true_implies, false_implies, implies_true, Option.toList_some, Option.toList_none, List.cons_append, List.nil_append, Nat.add_eq_zero_iff, a_nl_i, a_nl_r, a_nl_n, true_or, or_true, eq_self, a_isRA_22, a_isRA_24, a_isRA_32, a_isA_20, ok_4, ok_5, ok_6, ok_7, ok_9, ok_20, ok_21, ok_30, ok_50, ok_180, ok_192, ok_200, ui_ap, cc_ne, cc_n0, cc_0n, Nat.reduceEqDiff, reduceIte, if_true, if_false]
    exact hs _
  · refine ck_worth x3 hn hT (fun v => ?_)
    simp only [q132_161, as_nil, as_i, as_r, Nat.reduceAdd, Nat.reduceLeDiff, z_eq0, z_eq1, z_or, z_em, Classical.not_not, not_false_eq_true, not_true_eq_false, true_and, and_true, false_and, and_false, and_self, true_implies, false_implies, implies_true, Option.toList_some, Option.toList_none, List.cons_append, List.nil_append, Nat.add_eq_zero_iff, a_nl_i, a_nl_r, a_nl_n, true_or, or_true, eq_self, a_isRA_22, a_isRA_24, a_isRA_32, a_isA_20, ok_4, ok_5, ok_6, ok_7, ok_9, ok_20, ok_21, ok_30, ok_50, ok_180, ok_192, ok_200, ui_ap, cc_ne, cc_n0, cc_0n, Nat.reduceEqDiff, reduceIte, if_true, if_false]
    exact hs _
theorem lk_search_83 (hN : bnP C R (I0 (C + 27) 8)) (hT0 : cT C K L I0 R) {p q r : Int32} (hp : 0 ≤ p ∧ p ≤ 210) (hq : q ≤ 199) (hP : ∀ J, dB C K L R I0 J → P none (n, t, K, L, J, R)) : ∀ i : Int32, i ≤ 4 → ∀ J u, 0 ≤ i → dB C K L R I0 J → a_at (d + 30) (a_xm a_m132) 83 [some (a_rf (C + 27)), some (.int p), some (.int q), some (.int r), some (.int i), u] [] (n, t, K, L, J, R) P := by
  refine up_ind 4 (fun i hk ih => ?_)
  intro J u q0 hB
  have hT := hB.1.1
  have hS := hT.s
  have gs := hT.g_best
  have es := hB.2
  rw [q132_83]
  simp only [q132_85, q132_86, q132_89, q132_92, q132_93, q132_95, q132_96, q132_97, q132_98, k_27 hS, z_27, as_nil, as_i, as_r, Nat.reduceAdd, Nat.reduceLeDiff, z_eq0, z_eq1, z_or, z_em, Classical.not_not, not_false_eq_true, not_true_eq_false, true_and, and_true, false_and, and_false, and_self, true_implies, false_implies, implies_true, Option.toList_some, Option.toList_none, List.cons_append, List.nil_append, Nat.add_eq_zero_iff, a_nl_i, a_nl_r, a_nl_n, true_or, or_true, eq_self, a_isRA_22, a_isRA_24, a_isRA_32, a_isA_20, ok_4, ok_5, ok_6, ok_7, ok_9, ok_20, ok_21, ok_30, ok_50, ok_180, ok_192, ok_200]
  refine ⟨fun h1 => ?_, fun h1 => ?_⟩
  · have hs5 : 0 ≤ J (C + 27) 8 ∧ J (C + 27) 8 < 5 := by clear hP ih hN hB hT; grind
    have hl := lk_search_125 (d := d) hN hT0 (p := p) (q := q) (r := r) hP (J (C + 27) 8 - 1) (by clear hP ih hN hB hT; grind) _ u (by rw [← es]; clear hP ih hN hB hT; grind) (dB_32 hB (k := (J (C + 27) 8).toNatClampNeg) (v := 0))
    simp only [q132_107, q132_108, q132_111, q132_112, q132_115, q132_116, q132_117, q132_118, q132_121, q132_122, q132_123, k_27 hS, z_27, r_27_5 hS, k_32 hS, l_32 hS, z_32, as_nil, as_i, as_r, Nat.reduceAdd, Nat.reduceLeDiff, z_eq0, z_eq1, z_or, z_em, Classical.not_not, not_false_eq_true, not_true_eq_false, true_and, and_true, false_and, and_false, and_self, true_implies, false_implies, implies_true, Option.toList_some, Option.toList_none, List.cons_append, List.nil_append, Nat.add_eq_zero_iff, a_nl_i, a_nl_r, a_nl_n, true_or, or_true, eq_self, a_isRA_22, a_isRA_24, a_isRA_32, a_isA_20, ok_4, ok_5, ok_6, ok_7, ok_9, ok_20, ok_21, ok_30, ok_50, ok_180, ok_192, ok_200, ui_ap, cc_ne, cc_n0, cc_0n, Nat.reduceEqDiff, reduceIte, if_true, if_false]
    exact ⟨hs5, hl⟩
  · have hi : 0 ≤ i ∧ i < 4 := by clear hP ih hN hB hT; grind
    have hn := hN i q0 (by rw [← es]; exact Int32.not_le.mp h1)
    refine ck_collect hi hn hB hp hq (fun J2 b2 => ?_)
    simp only [q132_101, q132_104, as_nil, as_i, as_r, Nat.reduceAdd, Nat.reduceLeDiff, z_eq0, z_eq1, z_or, z_em, Classical.not_not, not_false_eq_true, not_true_eq_false, true_and, and_true, false_and, and_false, and_self, true_implies, false_implies, implies_true, Option.toList_some, Option.toList_none, List.cons_append, List.nil_append, Nat.add_eq_zero_iff, a_nl_i, a_nl_r, a_nl_n, true_or, or_true, eq_self, a_isRA_22, a_isRA_24, a_isRA_32, a_isA_20, ok_4, ok_5, ok_6, ok_7, ok_9, ok_20, ok_21, ok_30, ok_50, ok_180, ok_192, ok_200, ui_ap, cc_ne, cc_n0, cc_0n, Nat.reduceEqDiff, reduceIte, if_true, if_false]
    exact ih hi.2 J2 u (by clear hP ih hN hB hT b2; grind) b2
theorem lk_search_8 {p q r : Int32} (hp : 0 ≤ p ∧ p ≤ 210) (hq : q ≤ 199) (hP : ∀ J R, cZ C c n0 K0 L0 I0 R0 n t K L J R → bnP C R (J (C + 27) 8) → P none (n, t, K, L, J, R)) : ∀ i : Int32, i ≤ 30 → ∀ J R u, 0 ≤ i → cZ C c n0 K0 L0 I0 R0 n t K L J R → bnP C R (J (C + 27) 8) → a_at (d + 30) (a_xm a_m132) 8 [some (a_rf (C + 27)), some (.int p), some (.int q), some (.int r), some (.int i), u] [] (n, t, K, L, J, R) P := by
  refine up_ind 30 (fun i hk ih => ?_)
  intro J R u q0 hZ hN
  have hT := hZ.2.1.1
  have hS := hT.s
  have gA := hT.g_asksR
  have gB := hT.g_benchesR
  have gX := hT.g_textsR
  have gc := hT.g_asks
  have gs := hT.g_best
  have gi := gA i.toNatClampNeg
  have hend := fun u => lk_search_83 (d := d) (n := n) (t := t) (r := r) hN hT hp hq (fun J2 b2 => hP J2 R (cZ_G hZ b2.1) (by rw [b2.2]; exact hN)) 0 (by decide) J u (by decide) (dB_refl hT)
  have hnext : i < 30 → ∀ J R u, cZ C c n0 K0 L0 I0 R0 n t K L J R → bnP C R (J (C + 27) 8) → a_at (d + 30) (a_xm a_m132) 74 [some (a_rf (C + 27)), some (.int p), some (.int q), some (.int r), some (.int i), u] [] (n, t, K, L, J, R) P := fun h J R u z b => by
    simp only [q132_74, q132_77, as_nil, as_i, as_r, Nat.reduceAdd, Nat.reduceLeDiff, z_eq0, z_eq1, z_or, z_em, Classical.not_not, not_false_eq_true, not_true_eq_false, true_and, and_true, false_and, and_false, and_self, true_implies, false_implies, implies_true, Option.toList_some, Option.toList_none, List.cons_append, List.nil_append, Nat.add_eq_zero_iff, a_nl_i, a_nl_r, a_nl_n, true_or, or_true, eq_self, a_isRA_22, a_isRA_24, a_isRA_32, a_isA_20, ok_4, ok_5, ok_6, ok_7, ok_9, ok_20, ok_21, ok_30, ok_50, ok_180, ok_192, ok_200, ui_ap, cc_ne, cc_n0, cc_0n, Nat.reduceEqDiff, reduceIte, if_true, if_false]
    exact ih h J R u (by clear hend ih hP; grind) z b
  rw [q132_8]
  simp only [q132_10, q132_11, q132_14, q132_17, q132_20, q132_21, q132_24, q132_26, k_27 hS, z_27, r_27_0 hS, k_14 hS, z_14, sp_askAt hS gA, as_nil, as_i, as_r, Nat.reduceAdd, Nat.reduceLeDiff, z_eq0, z_eq1, z_or, z_em, Classical.not_not, not_false_eq_true, not_true_eq_false, true_and, and_true, false_and, and_false, and_self, true_implies, false_implies, implies_true, Option.toList_some, Option.toList_none, List.cons_append, List.nil_append, Nat.add_eq_zero_iff, a_nl_i, a_nl_r, a_nl_n, true_or, or_true, eq_self, a_isRA_22, a_isRA_24, a_isRA_32, a_isA_20, ok_4, ok_5, ok_6, ok_7, ok_9, ok_20, ok_21, ok_30, ok_50, ok_180, ok_192, ok_200]
  refine ⟨fun h1 => ?_, fun h1 => ?_⟩
  · simp only [q132_80, q132_81, as_nil, as_i, as_r, Nat.reduceAdd, Nat.reduceLeDiff, z_eq0, z_eq1, z_or, z_em, Classical.not_not, not_false_eq_true, not_true_eq_false, true_and, and_true, false_and, and_false, and_self, true_implies, false_implies, implies_true, Option.toList_some, Option.toList_none, List.cons_append, List.nil_append, Nat.add_eq_zero_iff, a_nl_i, a_nl_r, a_nl_n, true_or, or_true, eq_self, a_isRA_22, a_isRA_24, a_isRA_32, a_isA_20, ok_4, ok_5, ok_6, ok_7, ok_9, ok_20, ok_21, ok_30, ok_50, ok_180, ok_192, ok_200]
    exact hend _
  · have hi : i < 30 := by clear hend ih hP hN hnext; grind
    have hsame := fun u => hnext hi J R u hZ hN
    refine ⟨fun h2 => ?_, fun h2 => ?_⟩
    · simp only [q132_29, q132_31, q132_33, as_nil, as_i, as_r, Nat.reduceAdd, Nat.reduceLeDiff, z_eq0, z_eq1, z_or, z_em, Classical.not_not, not_false_eq_true, not_true_eq_false, true_and, and_true, false_and, and_false, and_self, true_implies, false_implies, implies_true, Option.toList_some, Option.toList_none, List.cons_append, List.nil_append, Nat.add_eq_zero_iff, a_nl_i, a_nl_r, a_nl_n, true_or, or_true, eq_self, a_isRA_22, a_isRA_24, a_isRA_32, a_isA_20, ok_4, ok_5, ok_6, ok_7, ok_9, ok_20, ok_21, ok_30, ok_50, ok_180, ok_192, ok_200]
      refine ⟨fun h3 => hsame _, fun h3 => ?_⟩
      have ha := gi.resolve_left h3
      simp only [q132_36, q132_37, q132_39, as_nil, as_i, as_r, Nat.reduceAdd, Nat.reduceLeDiff, z_eq0, z_eq1, z_or, z_em, Classical.not_not, not_false_eq_true, not_true_eq_false, true_and, and_true, false_and, and_false, and_self, true_implies, false_implies, implies_true, Option.toList_some, Option.toList_none, List.cons_append, List.nil_append, Nat.add_eq_zero_iff, a_nl_i, a_nl_r, a_nl_n, true_or, or_true, eq_self, a_isRA_22, a_isRA_24, a_isRA_32, a_isA_20, ok_4, ok_5, ok_6, ok_7, ok_9, ok_20, ok_21, ok_30, ok_50, ok_180, ok_192, ok_200]
      refine ck_isIn (fun v => ?_)
      simp only [q132_42, q132_45, q132_46, q132_49, q132_50, q132_53, q132_54, q132_57, q132_58, q132_61, q132_63, q132_64, q132_65, q132_66, q132_69, q132_70, q132_71, k_27 hS, z_27, r_27_1 hS, k_28 hS, l_28 hS, z_28, as_nil, as_i, as_r, Nat.reduceAdd, Nat.reduceLeDiff, z_eq0, z_eq1, z_or, z_em, Classical.not_not, not_false_eq_true, not_true_eq_false, true_and, and_true, false_and, and_false, and_self, true_implies, false_implies, implies_true, Option.toList_some, Option.toList_none, List.cons_append, List.nil_append, Nat.add_eq_zero_iff, a_nl_i, a_nl_r, a_nl_n, true_or, or_true, eq_self, a_isRA_22, a_isRA_24, a_isRA_32, a_isA_20, ok_4, ok_5, ok_6, ok_7, ok_9, ok_20, ok_21, ok_30, ok_50, ok_180, ok_192, ok_200, ui_ap, cc_ne, cc_n0, cc_0n, Nat.reduceEqDiff, reduceIte, if_true, if_false, ha]
      have h4 : ¬ 4 ≤ J (C + 27) 8 → (0 ≤ J (C + 27) 8 ∧ J (C + 27) 8 < 4) ∧ (0 ≤ J (C + 27) 8 + 1 ∧ J (C + 27) 8 + 1 ≤ 4) := fun h => by clear hend ih hP hN hnext hsame; grind
      have hput : ¬ 4 ≤ J (C + 27) 8 → ∀ u, a_at (d + 30) (a_xm a_m132) 74 [some (a_rf (C + 27)), some (.int p), some (.int q), some (.int r), some (.int i), u] [] (n, t, K, L, (a_ui J (C + 27) 8 (J (C + 27) 8 + 1)), (a_ur R (C + 28) (J (C + 27) 8).toNatClampNeg (R (C + 15) i.toNatClampNeg))) P := fun h u => by
        have z1 := cZ_R28 (j := (J (C + 27) 8).toNatClampNeg) hZ (Or.inr ha)
        have z2 := cZ_G z1 (dG_Best_size (dG_refl z1.2.1.1) (h4 h).2)
        refine hnext hi _ _ u z2 (fun j j0 j1 => ?_)
        rw [ui_ap, if_pos ⟨rfl, rfl⟩] at j1
        rw [ur_ap]
        split
        · exact h3
        · rename_i h5
          refine hN j j0 ?_
          have : ¬ j = J (C + 27) 8 := fun e => h5 ⟨rfl, by rw [e]⟩
          clear hend ih hP hN hnext hsame z1 z2
          grind
      repeat' first
        | with_reducible apply And.intro
        | with_reducible intro _
        | exact hsame _
        | (refine hput ?_ _; assumption)
        | exact (h4 (by assumption)).1.1
        | exact (h4 (by assumption)).1.2
        | (right; rfl)
        | decide
    · simp only [q132_29, q132_31, q132_33, as_nil, as_i, as_r, Nat.reduceAdd, Nat.reduceLeDiff, z_eq0, z_eq1, z_or, z_em, Classical.not_not, not_false_eq_true, not_true_eq_false, true_and, and_true, false_and, and_false, and_self, true_implies, false_implies, implies_true, Option.toList_some, Option.toList_none, List.cons_append, List.nil_append, Nat.add_eq_zero_iff, a_nl_i, a_nl_r, a_nl_n, true_or, or_true, eq_self, a_isRA_22, a_isRA_24, a_isRA_32, a_isA_20, ok_4, ok_5, ok_6, ok_7, ok_9, ok_20, ok_21, ok_30, ok_50, ok_180, ok_192, ok_200]
      first
        | exact hsame _
        | exact ⟨fun _ => hsame _, fun h => absurd rfl h⟩
theorem ck_search {p q r : Int32} (hp : 0 ≤ p ∧ p ≤ 210) (hq : q ≤ 199) (hZ : cZ C c n0 K0 L0 I0 R0 n t K L I R) (hP : ∀ J R, cZ C c n0 K0 L0 I0 R0 n t K L J R → bnP C R (J (C + 27) 8) → P none (n, t, K, L, J, R)) : a_does (d + 31) 132 [a_rf (C + 27), .int p, .int q, .int r] (n, t, K, L, I, R) P := by
  have hT := hZ.2.1.1
  have hS := hT.s
  have z := cZ_G hZ (dG_Best_size (v := 0) (dG_refl hT) (by decide))
  have hl := fun u => lk_search_8 (d := d) (r := r) hp hq hP 0 (by decide) _ R u (by decide) z (fun j j0 j1 => by
    rw [ui_ap, if_pos ⟨rfl, rfl⟩] at j1
    exact absurd j1 (Int32.not_lt.mpr j0))
  rw [a_enter1 (M := a_m132) rfl (a_cat_rf (a_cat_int (a_cat_int (a_cat_int a_cat_nil)))) (show 4 ≤ 6 by decide)]
  show a_at _ (a_xm a_m132) 0 [some (a_rf (C + 27)), some (.int p), some (.int q), some (.int r), none, none] [] _ _
  simp only [q132_0, q132_1, q132_2, q132_5, q132_6, k_27 hS, z_27, as_nil, as_i, as_r, Nat.reduceAdd, Nat.reduceLeDiff, z_eq0, z_eq1, z_or, z_em, Classical.not_not, not_false_eq_true, not_true_eq_false, true_and, and_true, false_and, and_false, and_self, true_implies, false_implies, implies_true, Option.toList_some, Option.toList_none, List.cons_append, List.nil_append, Nat.add_eq_zero_iff, a_nl_i, a_nl_r, a_nl_n, true_or, or_true, eq_self, a_isRA_22, a_isRA_24, a_isRA_32, a_isA_20, ok_4, ok_5, ok_6, ok_7, ok_9, ok_20, ok_21, ok_30, ok_50, ok_180, ok_192, ok_200, ui_ap, cc_ne, cc_n0, cc_0n, Nat.reduceEqDiff, reduceIte, if_true, if_false]
  exact hl _
end KF

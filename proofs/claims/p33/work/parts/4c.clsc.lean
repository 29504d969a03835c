/-! the class: plans, whole -/
section KE
variable {d n t C c n0 n' n'' t' : Nat} {K L K0 L0 K' L' K'' L'' : Nat → Nat} {I I0 J J0 J1 J2 : Nat → Nat → Int32} {R R0 R' R'' : Nat → Nat → Nat} {P : Option Value → AH → Prop}
theorem lk_planAll_68 {p q m : Int32} (hp : 0 ≤ p ∧ p ≤ 210) (hq : q ≤ 199) (hm : m ≤ 30) (hN : ∀ p, nnP C R m p) (hP : ∀ v J R, cZ C c n0 K0 L0 I0 R0 n t K L J R → P (some (.int v)) (n, t, K, L, J, R)) : ∀ i : Int32, i ≤ 30 → ∀ J u, 0 ≤ i → cZ C c n0 K0 L0 I0 R0 n t K L J R → J (C + 22) 6 = m → 0 ≤ J (C + 22) 7 ∧ J (C + 22) 7 ≤ i → a_at (d + 7) (a_xm a_m119) 68 [some (a_rf (C + 22)), some (.int p), some (.int q), some (.int i), u] [] (n, t, K, L, J, R) P := by
  refine up_ind 30 (fun i hk ih => ?_)
  intro J u q0 hZ h6 h7
  have hT := hZ.2.1.1
  have hS := hT.s
  have gi := hT.g_orderR i.toNatClampNeg
  have gn : i < m → ¬ R (C + 23) i.toNatClampNeg = 0 := fun h => hN (-1) i q0 h (by clear hN ih hP; grind)
  rw [q119_68]
  simp only [q119_69, q119_70, q119_73, q119_76, q119_77, q119_78, q119_81, q119_82, q119_83, q119_84, q119_85, k_22 hS, z_22, r_22_2 hS, k_23 hS, l_23 hS, z_23, as_nil, as_i, as_r, Nat.reduceAdd, Nat.reduceLeDiff, z_eq0, z_eq1, z_or, z_em, Classical.not_not, not_false_eq_true, not_true_eq_false, true_and, and_true, false_and, and_false, and_self, true_implies, false_implies, implies_true, Option.toList_some, Option.toList_none, List.cons_append, List.nil_append, Nat.add_eq_zero_iff, a_nl_i, a_nl_r, a_nl_n, true_or, or_true, eq_self, a_isRA_22, a_isRA_24, a_isRA_32, a_isA_20, ok_4, ok_5, ok_6, ok_7, ok_9, ok_20, ok_21, ok_30, ok_50, ok_180, ok_192, ok_200, h6]
  refine ⟨fun h1 => ?_, fun h1 => ?_⟩
  · simp only [q119_140, q119_141, q119_144, q119_145, q119_148, q119_149, k_22 hS, z_22, as_nil, as_i, as_r, Nat.reduceAdd, Nat.reduceLeDiff, z_eq0, z_eq1, z_or, z_em, Classical.not_not, not_false_eq_true, not_true_eq_false, true_and, and_true, false_and, and_false, and_self, true_implies, false_implies, implies_true, Option.toList_some, Option.toList_none, List.cons_append, List.nil_append, Nat.add_eq_zero_iff, a_nl_i, a_nl_r, a_nl_n, true_or, or_true, eq_self, a_isRA_22, a_isRA_24, a_isRA_32, a_isA_20, ok_4, ok_5, ok_6, ok_7, ok_9, ok_20, ok_21, ok_30, ok_50, ok_180, ok_192, ok_200]
    exact hP _ _ _ hZ
  · have h1 : i < m := Int32.not_le.mp h1
    have gn := gn h1
    have ha := gi.resolve_left gn
    have hi30 : i < 30 := by clear hN ih hP; grind
    have ih := ih hi30
    have hfail : ∀ J2, dL C K L R J J2 → a_at (d + 7) (a_xm a_m119) 106 [some (a_rf (C + 22)), some (.int p), some (.int q), some (.int i), u] [] (n, t, K, L, J2, R) P := fun J2 j2 => by
      have z2 := cZ_L hZ j2
      have hT2 := j2.1
      have e6 : J2 (C + 22) 6 = m := by rw [j2.2 _ _ (by omega) (by omega) (by omega)]; exact h6
      have e7 : J2 (C + 22) 7 = J (C + 22) 7 := j2.2 _ _ (by omega) (by omega) (by omega)
      have zz : cZ C c n0 K0 L0 I0 R0 n t K L (a_ui (a_ui J2 (C + 24) (J (C + 22) 7).toNatClampNeg (J2 (R (C + 23) i.toNatClampNeg) 4)) (C + 22) 7 (J (C + 22) 7 + 1)) R := cZ_G z2 (dG_Planner_passedCount (dG_24 (dG_refl hT2)) (by clear hN ih hP hZ z2 hT hT2 j2; grind))
      have hi := ih _ u (by clear hN ih hP hZ z2 hT hT2 j2 zz; grind) zz (by rw [ui_ap, if_neg (by omega), ui_ap, if_neg (by omega)]; exact e6) (by rw [ui_ap, if_pos ⟨rfl, rfl⟩]; clear hN ih hP hZ z2 hT hT2 j2 zz; grind)
      simp only [q119_106, q119_107, q119_110, q119_111, q119_114, q119_115, q119_118, q119_119, q119_120, q119_123, q119_124, q119_125, q119_126, q119_129, q119_130, q119_131, q119_134, q119_137, k_22 hS, z_22, r_22_3 hS, k_24 hS, l_24 hS, z_24, r_22_2 hS, k_23 hS, l_23 hS, z_23, as_nil, as_i, as_r, Nat.reduceAdd, Nat.reduceLeDiff, z_eq0, z_eq1, z_or, z_em, Classical.not_not, not_false_eq_true, not_true_eq_false, true_and, and_true, false_and, and_false, and_self, true_implies, false_implies, implies_true, Option.toList_some, Option.toList_none, List.cons_append, List.nil_append, Nat.add_eq_zero_iff, a_nl_i, a_nl_r, a_nl_n, true_or, or_true, eq_self, a_isRA_22, a_isRA_24, a_isRA_32, a_isA_20, ok_4, ok_5, ok_6, ok_7, ok_9, ok_20, ok_21, ok_30, ok_50, ok_180, ok_192, ok_200, ui_ap, cc_ne, cc_n0, cc_0n, Nat.reduceEqDiff, reduceIte, if_true, if_false, e7, ha, gn]
      repeat' first
        | with_reducible apply And.intro
        | exact hi
        | exact q0
        | exact hi30
        | exact h7.1
        | decide
      all_goals (clear hi hN ih hP hZ z2 hT hT2 j2 zz; grind)
    have hok : ∀ J2, dL C K L R J J2 → a_at (d + 7) (a_xm a_m119) 134 [some (a_rf (C + 22)), some (.int p), some (.int q), some (.int i), u] [] (n, t, K, L, J2, R) P := fun J2 j2 => by
      have z2 := cZ_L hZ j2
      have e6 : J2 (C + 22) 6 = m := by rw [j2.2 _ _ (by omega) (by omega) (by omega)]; exact h6
      have e7 : J2 (C + 22) 7 = J (C + 22) 7 := j2.2 _ _ (by omega) (by omega) (by omega)
      simp only [q119_134, q119_137, as_nil, as_i, as_r, Nat.reduceAdd, Nat.reduceLeDiff, z_eq0, z_eq1, z_or, z_em, Classical.not_not, not_false_eq_true, not_true_eq_false, true_and, and_true, false_and, and_false, and_self, true_implies, false_implies, implies_true, Option.toList_some, Option.toList_none, List.cons_append, List.nil_append, Nat.add_eq_zero_iff, a_nl_i, a_nl_r, a_nl_n, true_or, or_true, eq_self, a_isRA_22, a_isRA_24, a_isRA_32, a_isA_20, ok_4, ok_5, ok_6, ok_7, ok_9, ok_20, ok_21, ok_30, ok_50, ok_180, ok_192, ok_200]
      exact ih _ u (by clear hN ih hP; grind) z2 e6 (by rw [e7]; clear hN ih hP hZ z2 hT; grind)
    refine ⟨⟨q0, hi30⟩, ?_⟩
    refine ck_isInShare ha hT (fun v => ?_)
    simp only [q119_88, q119_91, q119_92, q119_93, q119_96, q119_97, q119_98, q119_99, q119_100, k_22 hS, z_22, r_22_2 hS, k_23 hS, l_23 hS, z_23, as_nil, as_i, as_r, Nat.reduceAdd, Nat.reduceLeDiff, z_eq0, z_eq1, z_or, z_em, Classical.not_not, not_false_eq_true, not_true_eq_false, true_and, and_true, false_and, and_false, and_self, true_implies, false_implies, implies_true, Option.toList_some, Option.toList_none, List.cons_append, List.nil_append, Nat.add_eq_zero_iff, a_nl_i, a_nl_r, a_nl_n, true_or, or_true, eq_self, a_isRA_22, a_isRA_24, a_isRA_32, a_isA_20, ok_4, ok_5, ok_6, ok_7, ok_9, ok_20, ok_21, ok_30, ok_50, ok_180, ok_192, ok_200]
    refine ⟨fun _ => hfail J (dL_refl hT), fun _ => ⟨⟨q0, hi30⟩, ?_⟩⟩
    refine ck_placeFirst ha hT hp hq (fun v2 J2 _ j2 => ?_)
    simp only [q119_103, as_nil, as_i, as_r, Nat.reduceAdd, Nat.reduceLeDiff, z_eq0, z_eq1, z_or, z_em, Classical.not_not, not_false_eq_true, not_true_eq_false, true_and, and_true, false_and, and_false, and_self, true_implies, false_implies, implies_true, Option.toList_some, Option.toList_none, List.cons_append, List.nil_append, Nat.add_eq_zero_iff, a_nl_i, a_nl_r, a_nl_n, true_or, or_true, eq_self, a_isRA_22, a_isRA_24, a_isRA_32, a_isA_20, ok_4, ok_5, ok_6, ok_7, ok_9, ok_20, ok_21, ok_30, ok_50, ok_180, ok_192, ok_200]
    refine ⟨?_, ?_⟩
    all_goals (intro _; first | exact hok J2 j2 | exact hfail J2 j2)
theorem lk_planAll_12 {p q : Int32} (hp : 0 ≤ p ∧ p ≤ 210) (hq : q ≤ 199) (hP : ∀ v J R, cZ C c n0 K0 L0 I0 R0 n t K L J R → P (some (.int v)) (n, t, K, L, J, R)) : ∀ i : Int32, i ≤ 30 → ∀ J R u, 0 ≤ i → cZ C c n0 K0 L0 I0 R0 n t K L J R → J (C + 22) 6 ≤ i → J (C + 22) 7 = 0 → (∀ p, nnP C R (J (C + 22) 6) p) → a_at (d + 7) (a_xm a_m119) 12 [some (a_rf (C + 22)), some (.int p), some (.int q), some (.int i), u] [] (n, t, K, L, J, R) P := by
  refine up_ind 30 (fun i hk ih => ?_)
  intro J R u q0 hZ h6 h7 hN
  have hT := hZ.2.1.1
  have hS := hT.s
  have gA := hT.g_asksR
  have gB := hT.g_benchesR
  have gX := hT.g_textsR
  have gc := hT.g_asks
  have gi := gA i.toNatClampNeg
  have go := hT.g_orderSize
  have hend := lk_planAll_68 (d := d) (m := J (C + 22) 6) hp hq go.2 hN hP 0 (by decide) J u (by decide) hZ rfl (by rw [h7]; decide)
  have hnext : i < 30 → ∀ J R u, cZ C c n0 K0 L0 I0 R0 n t K L J R → J (C + 22) 6 ≤ i + 1 → J (C + 22) 7 = 0 → (∀ p, nnP C R (J (C + 22) 6) p) → a_at (d + 7) (a_xm a_m119) 60 [some (a_rf (C + 22)), some (.int p), some (.int q), some (.int i), u] [] (n, t, K, L, J, R) P := fun hi J R u z a6 a7 aN => by
    simp only [q119_60, q119_63, as_nil, as_i, as_r, Nat.reduceAdd, Nat.reduceLeDiff, z_eq0, z_eq1, z_or, z_em, Classical.not_not, not_false_eq_true, not_true_eq_false, true_and, and_true, false_and, and_false, and_self, true_implies, false_implies, implies_true, Option.toList_some, Option.toList_none, List.cons_append, List.nil_append, Nat.add_eq_zero_iff, a_nl_i, a_nl_r, a_nl_n, true_or, or_true, eq_self, a_isRA_22, a_isRA_24, a_isRA_32, a_isA_20, ok_4, ok_5, ok_6, ok_7, ok_9, ok_20, ok_21, ok_30, ok_50, ok_180, ok_192, ok_200]
    exact ih hi J R u (by clear hend ih hP; grind) z a6 a7 aN
  rw [q119_12]
  simp only [q119_13, q119_14, q119_17, q119_20, q119_23, q119_24, q119_27, q119_28, k_22 hS, z_22, r_22_0 hS, k_14 hS, z_14, sp_askAt hS gA, as_nil, as_i, as_r, Nat.reduceAdd, Nat.reduceLeDiff, z_eq0, z_eq1, z_or, z_em, Classical.not_not, not_false_eq_true, not_true_eq_false, true_and, and_true, false_and, and_false, and_self, true_implies, false_implies, implies_true, Option.toList_some, Option.toList_none, List.cons_append, List.nil_append, Nat.add_eq_zero_iff, a_nl_i, a_nl_r, a_nl_n, true_or, or_true, eq_self, a_isRA_22, a_isRA_24, a_isRA_32, a_isA_20, ok_4, ok_5, ok_6, ok_7, ok_9, ok_20, ok_21, ok_30, ok_50, ok_180, ok_192, ok_200]
  refine ⟨fun h1 => ?_, fun h1 => ?_⟩
  · simp only [q119_66, q119_67, as_nil, as_i, as_r, Nat.reduceAdd, Nat.reduceLeDiff, z_eq0, z_eq1, z_or, z_em, Classical.not_not, not_false_eq_true, not_true_eq_false, true_and, and_true, false_and, and_false, and_self, true_implies, false_implies, implies_true, Option.toList_some, Option.toList_none, List.cons_append, List.nil_append, Nat.add_eq_zero_iff, a_nl_i, a_nl_r, a_nl_n, true_or, or_true, eq_self, a_isRA_22, a_isRA_24, a_isRA_32, a_isA_20, ok_4, ok_5, ok_6, ok_7, ok_9, ok_20, ok_21, ok_30, ok_50, ok_180, ok_192, ok_200]
    exact hend
  · have hi : i < 30 := by clear hend ih hP hnext hN; grind
    have hsame := fun u => hnext hi J R u hZ (by clear hend ih hP hnext hN; grind) h7 hN
    refine ⟨fun h2 => ?_, fun h2 => ?_⟩
    · simp only [q119_31, q119_33, q119_35, q119_38, q119_40, k_22 hS, z_22, sp_isPlaced, as_nil, as_i, as_r, Nat.reduceAdd, Nat.reduceLeDiff, z_eq0, z_eq1, z_or, z_em, Classical.not_not, not_false_eq_true, not_true_eq_false, true_and, and_true, false_and, and_false, and_self, true_implies, false_implies, implies_true, Option.toList_some, Option.toList_none, List.cons_append, List.nil_append, Nat.add_eq_zero_iff, a_nl_i, a_nl_r, a_nl_n, true_or, or_true, eq_self, a_isRA_22, a_isRA_24, a_isRA_32, a_isA_20, ok_4, ok_5, ok_6, ok_7, ok_9, ok_20, ok_21, ok_30, ok_50, ok_180, ok_192, ok_200]
      refine ⟨fun h3 => hsame _, fun h3 => ?_⟩
      have ha := gi.resolve_left h3
      simp only [q119_43, q119_46, q119_48, q119_51, q119_54, q119_55, q119_57, k_22 hS, z_22, as_nil, as_i, as_r, Nat.reduceAdd, Nat.reduceLeDiff, z_eq0, z_eq1, z_or, z_em, Classical.not_not, not_false_eq_true, not_true_eq_false, true_and, and_true, false_and, and_false, and_self, true_implies, false_implies, implies_true, Option.toList_some, Option.toList_none, List.cons_append, List.nil_append, Nat.add_eq_zero_iff, a_nl_i, a_nl_r, a_nl_n, true_or, or_true, eq_self, a_isRA_22, a_isRA_24, a_isRA_32, a_isA_20, ok_4, ok_5, ok_6, ok_7, ok_9, ok_20, ok_21, ok_30, ok_50, ok_180, ok_192, ok_200, ha, h3]
      repeat' first
        | with_reducible apply And.intro
        | with_reducible intro _
        | with_reducible assumption
        | exact hsame _
        | (refine ck_enter (m := J (C + 22) 6) ha hZ rfl (by clear hend ih hP hnext hN; grind) hN (fun J2 R2 z2 a6 a7 aN => ?_)
           exact hnext hi J2 R2 _ z2 (by rw [a6]; clear hend ih hP hnext hN aN; grind) (by rw [a7]; exact h7) (by rw [a6]; exact aN))
    · simp only [q119_31, q119_33, q119_35, q119_38, q119_40, k_22 hS, z_22, sp_isPlaced, as_nil, as_i, as_r, Nat.reduceAdd, Nat.reduceLeDiff, z_eq0, z_eq1, z_or, z_em, Classical.not_not, not_false_eq_true, not_true_eq_false, true_and, and_true, false_and, and_false, and_self, true_implies, false_implies, implies_true, Option.toList_some, Option.toList_none, List.cons_append, List.nil_append, Nat.add_eq_zero_iff, a_nl_i, a_nl_r, a_nl_n, true_or, or_true, eq_self, a_isRA_22, a_isRA_24, a_isRA_32, a_isA_20, ok_4, ok_5, ok_6, ok_7, ok_9, ok_20, ok_21, ok_30, ok_50, ok_180, ok_192, ok_200]
      first
        | exact hsame _
        | exact ⟨fun _ => hsame _, fun h => absurd rfl h⟩
theorem ck_planAll {p q : Int32} (hp : 0 ≤ p ∧ p ≤ 210) (hq : q ≤ 199) (hZ : cZ C c n0 K0 L0 I0 R0 n t K L I R) (hP : ∀ v J R, cZ C c n0 K0 L0 I0 R0 n t K L J R → P (some (.int v)) (n, t, K, L, J, R)) : a_does (d + 8) 119 [a_rf (C + 22), .int p, .int q] (n, t, K, L, I, R) P := by
  have hT := hZ.2.1.1
  have hS := hT.s
  have z : cZ C c n0 K0 L0 I0 R0 n t K L (a_ui (a_ui I (C + 22) 6 0) (C + 22) 7 0) R := cZ_G hZ (dG_Planner_passedCount (dG_Planner_orderSize (dG_refl hT) (by decide)) (by decide))
  have e6 : a_ui (a_ui I (C + 22) 6 0) (C + 22) 7 0 (C + 22) 6 = 0 := by rw [ui_ap, if_neg (by omega), ui_ap, if_pos ⟨rfl, rfl⟩]
  have hl := fun u => lk_planAll_12 (d := d) hp hq hP 0 (by decide) _ R u (by decide) z (by rw [e6]; decide) (by rw [ui_ap, if_pos ⟨rfl, rfl⟩]) (by rw [e6]; exact nn_0)
  rw [a_enter1 (M := a_m119) rfl (a_cat_rf (a_cat_int (a_cat_int a_cat_nil))) (show 3 ≤ 5 by decide)]
  show a_at _ (a_xm a_m119) 0 [some (a_rf (C + 22)), some (.int p), some (.int q), none, none] [] _ _
  simp only [q119_0, q119_1, q119_2, q119_5, q119_6, q119_7, q119_10, q119_11, k_22 hS, z_22, as_nil, as_i, as_r, Nat.reduceAdd, Nat.reduceLeDiff, z_eq0, z_eq1, z_or, z_em, Classical.not_not, not_false_eq_true, not_true_eq_false, true_and, and_true, false_and, and_false, and_self, true_implies, false_implies, implies_true, Option.toList_some, Option.toList_none, List.cons_append, List.nil_append, Nat.add_eq_zero_iff, a_nl_i, a_nl_r, a_nl_n, true_or, or_true, eq_self, a_isRA_22, a_isRA_24, a_isRA_32, a_isA_20, ok_4, ok_5, ok_6, ok_7, ok_9, ok_20, ok_21, ok_30, ok_50, ok_180, ok_192, ok_200]
  exact hl _
theorem now8 {v : Int32} (h : 0 ≤ v ∧ v ≤ 1600) : 0 ≤ v / 8 + 1 ∧ v / 8 + 1 ≤ 210 := by
  have c0 : (0 : Int32).toInt = 0 := rfl
  have c1 : (1 : Int32).toInt = 1 := rfl
  have c8 : (8 : Int32).toInt = 8 := rfl
  have c2 : (1600 : Int32).toInt = 1600 := rfl
  have c3 : (210 : Int32).toInt = 210 := rfl
  have e0 := Int32.le_iff_toInt_le.mp h.1
  have e1 := Int32.le_iff_toInt_le.mp h.2
  have e := ti_div h.1 (show (0 : Int32) < 8 by decide)
  rw [c8] at e
  have e2 : (v / 8 + 1).toInt = (v / 8).toInt + 1 := by rw [ti_add (by omega)]; omega
  exact ⟨by rw [Int32.le_iff_toInt_le]; omega, by rw [Int32.le_iff_toInt_le]; omega⟩
theorem lk_planAgain_77 {m : Int32} (hm : m ≤ 30) (hN : ∀ p, nnP C R m p) (hP : ∀ v J, cZ C c n0 K0 L0 I0 R0 (n + 1) t K L J R → P (some (.int v)) (n + 1, t, K, L, J, R)) : ∀ i : Int32, i ≤ 30 → ∀ J o u, 0 ≤ i → cZ C c n0 K0 L0 I0 R0 (n + 1) t K L J R → J (C + 22) 6 = m → a_at (d + 7) (a_xm a_m144) 77 [some (a_rf (C + 22)), some (.int o), some (.int i), u] [] (n + 1, t, K, L, J, R) P := by
  refine up_ind 30 (fun i hk ih => ?_)
  intro J o u q0 hZ h6
  have hT := hZ.2.1.1
  have hS := hT.s
  have gi := hT.g_orderR i.toNatClampNeg
  have gn : i < m → ¬ R (C + 23) i.toNatClampNeg = 0 := fun h => hN (-1) i q0 h (by clear hN ih hP; grind)
  have hnow := hT.g_now
  have n8 : ¬ (8 : Int32) = 0 := by decide
  rw [q144_77]
  simp only [q144_78, q144_79, q144_82, q144_85, q144_86, q144_89, q144_90, q144_91, q144_92, q144_93, q144_94, q144_95, q144_98, q144_101, q144_103, q144_104, q144_105, q144_106, q144_109, k_22 hS, z_22, r_22_2 hS, k_23 hS, l_23 hS, z_23, r_22_1 hS, k_1 hS, z_1, as_nil, as_i, as_r, Nat.reduceAdd, Nat.reduceLeDiff, z_eq0, z_eq1, z_or, z_em, Classical.not_not, not_false_eq_true, not_true_eq_false, true_and, and_true, false_and, and_false, and_self, true_implies, false_implies, implies_true, Option.toList_some, Option.toList_none, List.cons_append, List.nil_append, Nat.add_eq_zero_iff, a_nl_i, a_nl_r, a_nl_n, true_or, or_true, eq_self, a_isRA_22, a_isRA_24, a_isRA_32, a_isA_20, ok_4, ok_5, ok_6, ok_7, ok_9, ok_20, ok_21, ok_30, ok_50, ok_180, ok_192, ok_200, h6, n8]
  refine ⟨fun h1 => ?_, fun h1 => ?_⟩
  · simp only [q144_154, q144_155, as_nil, as_i, as_r, Nat.reduceAdd, Nat.reduceLeDiff, z_eq0, z_eq1, z_or, z_em, Classical.not_not, not_false_eq_true, not_true_eq_false, true_and, and_true, false_and, and_false, and_self, true_implies, false_implies, implies_true, Option.toList_some, Option.toList_none, List.cons_append, List.nil_append, Nat.add_eq_zero_iff, a_nl_i, a_nl_r, a_nl_n, true_or, or_true, eq_self, a_isRA_22, a_isRA_24, a_isRA_32, a_isA_20, ok_4, ok_5, ok_6, ok_7, ok_9, ok_20, ok_21, ok_30, ok_50, ok_180, ok_192, ok_200]
    exact hP _ _ hZ
  · have h1 : i < m := Int32.not_le.mp h1
    have gn := gn h1
    have ha := gi.resolve_left gn
    have hi30 : i < 30 := by clear hN ih hP; grind
    have ih := ih hi30
    refine ⟨⟨q0, hi30⟩, ?_⟩
    have hp : 0 ≤ J (C + 1) 6 / 8 + 1 ∧ J (C + 1) 6 / 8 + 1 ≤ 210 := now8 hnow
    refine ck_placeFirst ha hT hp (by decide) (fun v2 J2 _ j2 => ?_)
    have z2 := cZ_L hZ j2
    have hT := j2.1
    have e6 : J2 (C + 22) 6 = m := by rw [j2.2 _ _ (by omega) (by omega) (by omega)]; exact h6
    have g4 := (hT.g_ask _ ha).2.2.1
    have hi := fun o u => ih J2 o u (by clear hN ih hP; grind) z2 e6
    have g29 : J2 (R (C + 23) i.toNatClampNeg) 4 < 30 := by clear hi hN ih hP hZ hT z2; grind
    simp only [q144_112, q144_113, q144_114, q144_117, q144_118, q144_121, q144_122, q144_125, q144_126, q144_129, q144_130, q144_133, q144_134, q144_137, q144_138, q144_141, q144_142, q144_145, q144_148, q144_151, k_22 hS, z_22, r_22_4 hS, k_25 hS, l_25 hS, z_25, r_22_5 hS, k_26 hS, l_26 hS, z_26, as_nil, as_i, as_r, Nat.reduceAdd, Nat.reduceLeDiff, z_eq0, z_eq1, z_or, z_em, Classical.not_not, not_false_eq_true, not_true_eq_false, true_and, and_true, false_and, and_false, and_self, true_implies, false_implies, implies_true, Option.toList_some, Option.toList_none, List.cons_append, List.nil_append, Nat.add_eq_zero_iff, a_nl_i, a_nl_r, a_nl_n, true_or, or_true, eq_self, a_isRA_22, a_isRA_24, a_isRA_32, a_isA_20, ok_4, ok_5, ok_6, ok_7, ok_9, ok_20, ok_21, ok_30, ok_50, ok_180, ok_192, ok_200, ha, gn]
    repeat' first
      | with_reducible apply And.intro
      | with_reducible intro _
      | exact hi _ _
      | exact g4.1
      | exact g29
theorem lk_planAgain_7 (hP : ∀ v n t K L J R, cZ C c n0 K0 L0 I0 R0 (n + 1) t K L J R → P (some (.int v)) (n + 1, t, K, L, J, R)) : ∀ i : Int32, i ≤ 30 → ∀ n t K L J R u w, 0 ≤ i → cZ C c n0 K0 L0 I0 R0 (n + 1) t K L J R → J (C + 22) 6 ≤ i → (∀ p, nnP C R (J (C + 22) 6) p) → a_at (d + 7) (a_xm a_m144) 7 [some (a_rf (C + 22)), some (.int i), u, w] [] (n + 1, t, K, L, J, R) P := by
  refine up_ind 30 (fun i hk ih => ?_)
  intro n t K L J R u w q0 hZ h6 hN
  have hT := hZ.2.1.1
  have hS := hT.s
  have gA := hT.g_asksR
  have gB := hT.g_benchesR
  have gX := hT.g_textsR
  have gc := hT.g_asks
  have gi := gA i.toNatClampNeg
  have go := hT.g_orderSize
  have hend := fun w => lk_planAgain_77 (d := d) (m := J (C + 22) 6) go.2 hN (fun v J h => hP v n t K L J R h) 0 (by decide) J 0 w (by decide) hZ rfl
  have hnext : i < 30 → ∀ n t K L J R u w, cZ C c n0 K0 L0 I0 R0 (n + 1) t K L J R → J (C + 22) 6 ≤ i + 1 → (∀ p, nnP C R (J (C + 22) 6) p) → a_at (d + 7) (a_xm a_m144) 67 [some (a_rf (C + 22)), some (.int i), u, w] [] (n + 1, t, K, L, J, R) P := fun hi n t K L J R u w z a6 aN => by
    simp only [q144_67, q144_70, as_nil, as_i, as_r, Nat.reduceAdd, Nat.reduceLeDiff, z_eq0, z_eq1, z_or, z_em, Classical.not_not, not_false_eq_true, not_true_eq_false, true_and, and_true, false_and, and_false, and_self, true_implies, false_implies, implies_true, Option.toList_some, Option.toList_none, List.cons_append, List.nil_append, Nat.add_eq_zero_iff, a_nl_i, a_nl_r, a_nl_n, true_or, or_true, eq_self, a_isRA_22, a_isRA_24, a_isRA_32, a_isA_20, ok_4, ok_5, ok_6, ok_7, ok_9, ok_20, ok_21, ok_30, ok_50, ok_180, ok_192, ok_200]
    exact ih hi n t K L J R u w (by clear hend ih hP; grind) z a6 aN
  rw [q144_7]
  simp only [q144_8, q144_9, q144_12, q144_15, q144_18, q144_19, q144_22, q144_23, k_22 hS, z_22, r_22_0 hS, k_14 hS, z_14, sp_askAt hS gA, as_nil, as_i, as_r, Nat.reduceAdd, Nat.reduceLeDiff, z_eq0, z_eq1, z_or, z_em, Classical.not_not, not_false_eq_true, not_true_eq_false, true_and, and_true, false_and, and_false, and_self, true_implies, false_implies, implies_true, Option.toList_some, Option.toList_none, List.cons_append, List.nil_append, Nat.add_eq_zero_iff, a_nl_i, a_nl_r, a_nl_n, true_or, or_true, eq_self, a_isRA_22, a_isRA_24, a_isRA_32, a_isA_20, ok_4, ok_5, ok_6, ok_7, ok_9, ok_20, ok_21, ok_30, ok_50, ok_180, ok_192, ok_200]
  refine ⟨fun h1 => ?_, fun h1 => ?_⟩
  · simp only [q144_73, q144_74, q144_75, q144_76, as_nil, as_i, as_r, Nat.reduceAdd, Nat.reduceLeDiff, z_eq0, z_eq1, z_or, z_em, Classical.not_not, not_false_eq_true, not_true_eq_false, true_and, and_true, false_and, and_false, and_self, true_implies, false_implies, implies_true, Option.toList_some, Option.toList_none, List.cons_append, List.nil_append, Nat.add_eq_zero_iff, a_nl_i, a_nl_r, a_nl_n, true_or, or_true, eq_self, a_isRA_22, a_isRA_24, a_isRA_32, a_isA_20, ok_4, ok_5, ok_6, ok_7, ok_9, ok_20, ok_21, ok_30, ok_50, ok_180, ok_192, ok_200]
    exact hend _
  · have hi : i < 30 := by clear hend ih hP hnext hN; grind
    have hsame := fun u w => hnext hi n t K L J R u w hZ (by clear hend ih hP hnext hN; grind) hN
    refine ⟨fun h2 => ?_, fun h2 => ?_⟩
    · simp only [q144_26, q144_27, q144_28, as_nil, as_i, as_r, Nat.reduceAdd, Nat.reduceLeDiff, z_eq0, z_eq1, z_or, z_em, Classical.not_not, not_false_eq_true, not_true_eq_false, true_and, and_true, false_and, and_false, and_self, true_implies, false_implies, implies_true, Option.toList_some, Option.toList_none, List.cons_append, List.nil_append, Nat.add_eq_zero_iff, a_nl_i, a_nl_r, a_nl_n, true_or, or_true, eq_self, a_isRA_22, a_isRA_24, a_isRA_32, a_isA_20, ok_4, ok_5, ok_6, ok_7, ok_9, ok_20, ok_21, ok_30, ok_50, ok_180, ok_192, ok_200]
      refine ⟨fun h3 => hsame _ _, fun h3 => ?_⟩
      have ha := gi.resolve_left h3
      have ga := hT.g_ask _ ha
      have na : ¬ R (C + 15) i.toNatClampNeg = C + 25 := by omega
      have nb : ¬ R (C + 15) i.toNatClampNeg = C + 26 := by omega
      simp only [q144_31, q144_32, q144_35, q144_36, q144_37, q144_40, q144_41, q144_42, q144_45, q144_46, q144_47, q144_50, q144_51, q144_52, q144_55, q144_56, k_22 hS, z_22, r_22_4 hS, k_25 hS, l_25 hS, z_25, r_22_5 hS, k_26 hS, l_26 hS, z_26, r_22_0 hS, k_14 hS, z_14, as_nil, as_i, as_r, Nat.reduceAdd, Nat.reduceLeDiff, z_eq0, z_eq1, z_or, z_em, Classical.not_not, not_false_eq_true, not_true_eq_false, true_and, and_true, false_and, and_false, and_self, true_implies, false_implies, implies_true, Option.toList_some, Option.toList_none, List.cons_append, List.nil_append, Nat.add_eq_zero_iff, a_nl_i, a_nl_r, a_nl_n, true_or, or_true, eq_self, a_isRA_22, a_isRA_24, a_isRA_32, a_isA_20, ok_4, ok_5, ok_6, ok_7, ok_9, ok_20, ok_21, ok_30, ok_50, ok_180, ok_192, ok_200, ui_ap, cc_ne, cc_n0, cc_0n, Nat.reduceEqDiff, reduceIte, if_true, if_false, ha, h3, na, nb]
      have z1 := cZ_G hZ (dG_26 (dG_25 (dG_refl hT) (k := i.toNatClampNeg) (v := J (R (C + 15) i.toNatClampNeg) 13)) (k := i.toNatClampNeg) (v := J (R (C + 15) i.toNatClampNeg) 14))
      refine ⟨⟨q0, hi⟩, ⟨q0, hi⟩, ?_⟩
      refine ck_clearUnfit ha z1.2.1 (fun v n' t' K' L' J' R' hH' hQ => ?_)
      have al := kn_lt hZ.2.1.2.1 ha (by decide)
      have hC := hZ.2.1.2.2.1
      have z2 := cZ_Q z1 hQ hH'
      have hS := hH'.1.s
      have ha' : K' (R (C + 15) i.toNatClampNeg) = 1 := by rw [hQ.2.1 _ al]; exact ha
      have k22 : K (C + 22) = 8 := k_22 hT.s
      have k23 : K (C + 23) = 22 := k_23 hT.s
      have e6 : J' (C + 22) 6 = J (C + 22) 6 := by
        rw [hQ.2.2.2.2 _ _ (by omega) (by omega) (by omega) (by omega), ui_ap, if_neg (by omega), ui_ap, if_neg (by omega)]
      have eN : ∀ p, nnP C R' (J' (C + 22) 6) p := fun p j h0 h1 h2 => by
        rw [e6] at h1
        rw [hQ.2.2.2.1 _ _ (by omega) (by rw [k23]; decide)]
        exact hN p j h0 h1 h2
      have h6' : J' (C + 22) 6 ≤ i + 1 := by rw [e6]; clear hend ih hP hnext hN hsame z1 z2 hZ hH' hQ hT; grind
      simp only [q144_59, q144_62, q144_63, q144_64, k_22 hS, z_22, as_nil, as_i, as_r, Nat.reduceAdd, Nat.reduceLeDiff, z_eq0, z_eq1, z_or, z_em, Classical.not_not, not_false_eq_true, not_true_eq_false, true_and, and_true, false_and, and_false, and_self, true_implies, false_implies, implies_true, Option.toList_some, Option.toList_none, List.cons_append, List.nil_append, Nat.add_eq_zero_iff, a_nl_i, a_nl_r, a_nl_n, true_or, or_true, eq_self, a_isRA_22, a_isRA_24, a_isRA_32, a_isA_20, ok_4, ok_5, ok_6, ok_7, ok_9, ok_20, ok_21, ok_30, ok_50, ok_180, ok_192, ok_200, ui_ap, cc_ne, cc_n0, cc_0n, Nat.reduceEqDiff, reduceIte, if_true, if_false, ha', h3]
      refine ⟨fun _ => hnext hi n' t' K' L' J' R' _ _ z2 h6' eN, fun _ => ?_⟩
      refine ck_enter (m := J' (C + 22) 6) ha' z2 rfl (by rw [e6]; clear hend ih hP hnext hN hsame z1 z2 hZ hH' hQ hT; grind) eN (fun J2 R2 z3 a6 a7 aN => ?_)
      exact hnext hi n' t' K' L' J2 R2 _ _ z3 (by rw [a6, e6]; clear hend ih hP hnext hN hsame z1 z2 hZ hH' hQ hT; grind) (by rw [a6]; exact aN)
    · simp only [q144_26, q144_27, q144_28, as_nil, as_i, as_r, Nat.reduceAdd, Nat.reduceLeDiff, z_eq0, z_eq1, z_or, z_em, Classical.not_not, not_false_eq_true, not_true_eq_false, true_and, and_true, false_and, and_false, and_self, true_implies, false_implies, implies_true, Option.toList_some, Option.toList_none, List.cons_append, List.nil_append, Nat.add_eq_zero_iff, a_nl_i, a_nl_r, a_nl_n, true_or, or_true, eq_self, a_isRA_22, a_isRA_24, a_isRA_32, a_isA_20, ok_4, ok_5, ok_6, ok_7, ok_9, ok_20, ok_21, ok_30, ok_50, ok_180, ok_192, ok_200]
      first
        | exact hsame _ _
        | exact ⟨fun _ => hsame _ _, fun h => absurd rfl h⟩
theorem ck_planAgain (hZ : cZ C c n0 K0 L0 I0 R0 (n + 1) t K L I R) (hP : ∀ v n t K L J R, cZ C c n0 K0 L0 I0 R0 (n + 1) t K L J R → P (some (.int v)) (n + 1, t, K, L, J, R)) : a_does (d + 8) 144 [a_rf (C + 22)] (n + 1, t, K, L, I, R) P := by
  have hT := hZ.2.1.1
  have hS := hT.s
  have z : cZ C c n0 K0 L0 I0 R0 (n + 1) t K L (a_ui I (C + 22) 6 0) R := cZ_G hZ (dG_Planner_orderSize (dG_refl hT) (by decide))
  have e6 : a_ui I (C + 22) 6 0 (C + 22) 6 = 0 := by rw [ui_ap, if_pos ⟨rfl, rfl⟩]
  have hl := fun u w => lk_planAgain_7 (d := d) hP 0 (by decide) n t K L _ R u w (by decide) z (by rw [e6]; decide) (by rw [e6]; exact nn_0)
  rw [a_enter1 (M := a_m144) rfl (a_cat_rf a_cat_nil) (show 1 ≤ 4 by decide)]
  show a_at _ (a_xm a_m144) 0 [some (a_rf (C + 22)), none, none, none] [] _ _
  simp only [q144_0, q144_1, q144_2, q144_5, q144_6, k_22 hS, z_22, as_nil, as_i, as_r, Nat.reduceAdd, Nat.reduceLeDiff, z_eq0, z_eq1, z_or, z_em, Classical.not_not, not_false_eq_true, not_true_eq_false, true_and, and_true, false_and, and_false, and_self, true_implies, false_implies, implies_true, Option.toList_some, Option.toList_none, List.cons_append, List.nil_append, Nat.add_eq_zero_iff, a_nl_i, a_nl_r, a_nl_n, true_or, or_true, eq_self, a_isRA_22, a_isRA_24, a_isRA_32, a_isA_20, ok_4, ok_5, ok_6, ok_7, ok_9, ok_20, ok_21, ok_30, ok_50, ok_180, ok_192, ok_200]
  exact hl _ _
end KE
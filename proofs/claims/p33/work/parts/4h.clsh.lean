/-! the class: public methods that give -/
section KJ
variable {d n t C c n0 n' n'' t' : Nat} {K L K0 L0 K' L' K'' L'' : Nat → Nat} {I I0 J J0 J1 J2 : Nat → Nat → Int32} {R R0 R' R'' : Nat → Nat → Nat} {P : Option Value → AH → Prop}
theorem cu_mark (hH : cH C c (n + 1) t K L I R) {r q v : Int32} (hP : ∀ v n' t' K' L' J R', cZ C (c + 4) (n + 1) K L I R (n' + 1) t' K' L' J R' → P (some (.int v)) (n' + 1, t', K', L', J, R')) : a_does (d + 70) 92 [a_rf C, .int r, .int q, .int v] (n + 1, t, K, L, I, R) P := by
  have hT := hH.1
  have hS := hT.s
  have hZ := cZ_refl hH
  have hq : ∀ v J R1, cZ C c (n + 1) K L I R (n + 1) t K L J R1 → P (some (.int v)) (n + 1, t, K, L, J, R1) := fun v J R1 z => hP v n t K L J R1 (cZ_le z (by omega))
  clear hP
  have gA := hT.g_asksR
  have gB := hT.g_benchesR
  have gX := hT.g_textsR
  have gi := gA q.toNatClampNeg
  have ga := fun h => hT.g_ask (R (C + 15) q.toNatClampNeg) (gi.resolve_left h)
  rw [a_enter1 (M := a_m92) rfl (a_cat_rf (a_cat_int (a_cat_int (a_cat_int a_cat_nil)))) (show 4 ≤ 5 by decide)]
  show a_at _ (a_xm a_m92) 0 [some (a_rf C), some (.int r), some (.int q), some (.int v), none] [] _ _
  repeat' first
    | with_reducible apply And.intro
    | with_reducible assumption
    | with_reducible intro _
    | exact hq _ _ _ hZ
    | exact hq _ _ _ (by assumption)
    | exact hq _ _ _ (cZ_C hZ (by assumption))
    | exact hq _ _ _ (cZ_G hZ (by assumption))
    | exact hq _ _ _ (cZ_L hZ (by assumption))
    | refine ck_refuse hZ (fun _ _ => ?_)
    | refine ck_refuse (cZ_C hZ (by assumption)) (fun _ _ => ?_)
    | exact dC_T (by assumption)
    | exact dG_refl hT
    | exact ck_tell (gi.resolve_left (by assumption)) (dG_refl hT) (by assumption) (fun _ _ _ => by assumption)
    | refine ck_tell (gi.resolve_left (by assumption)) (dG_refl hT) (by assumption) (fun _ _ _ => ?_)
    | with_reducible apply ck_isTold hS
    | with_reducible apply ck_toldOf hS
    | simp only [q92_0, q92_1, q92_4, q92_5, q92_8, q92_10, q92_11, q92_14, q92_17, q92_19, q92_22, q92_23, q92_24, q92_27, q92_28, q92_29, q92_32, q92_33, q92_34, q92_37, q92_40, q92_41, q92_44, q92_45, q92_48, q92_49, q92_52, q92_53, q92_55, q92_58, q92_59, q92_60, q92_63, q92_64, q92_66, q92_69, q92_70, q92_71, q92_73, q92_76, q92_77, q92_79, q92_82, q92_83, q92_84, q92_87, q92_88, q92_90, q92_91, q92_94, q92_97, q92_98, q92_101, q92_102, k_0 hS, z_C hS, r_0_4 hS, k_14 hS, z_14, r_0_3 hS, k_17 hS, z_17, sp_askAt hS gA, sp_isReaderC, as_nil, as_i, as_r, Nat.reduceAdd, Nat.reduceLeDiff, z_eq0, z_eq1, z_or, z_em, Classical.not_not, not_false_eq_true, not_true_eq_false, true_and, and_true, false_and, and_false, and_self, true_implies, false_implies, implies_true, Option.toList_some, Option.toList_none, List.cons_append, List.nil_append, Nat.add_eq_zero_iff, a_nl_i, a_nl_r, a_nl_n, true_or, or_true, eq_self, a_isRA_22, a_isRA_24, a_isRA_32, a_isA_20, ok_4, ok_5, ok_6, ok_7, ok_9, ok_20, ok_21, ok_30, ok_50, ok_180, ok_192, ok_200]
  all_goals ((try clear ih); (try clear hP); (try clear hl); (try clear hq); (try clear hZ); (try clear hH); grind [ui_ap])
theorem cu_wish (hH : cH C c (n + 1) t K L I R) {q r w : Int32} (hw : w = 0 ∨ w = 1) (hP : ∀ v n' t' K' L' J R', cZ C (c + 4) (n + 1) K L I R (n' + 1) t' K' L' J R' → P (some (.int v)) (n' + 1, t', K', L', J, R')) : a_does (d + 70) 147 [a_rf C, .int q, .int r, .int w] (n + 1, t, K, L, I, R) P := by
  have hT := hH.1
  have hS := hT.s
  have hZ := cZ_refl hH
  have hq : ∀ v J R1, cZ C c (n + 1) K L I R (n + 1) t K L J R1 → P (some (.int v)) (n + 1, t, K, L, J, R1) := fun v J R1 z => hP v n t K L J R1 (cZ_le z (by omega))
  clear hP
  have gA := hT.g_asksR
  have gB := hT.g_benchesR
  have gX := hT.g_textsR
  have gi := gA q.toNatClampNeg
  have gj := gA r.toNatClampNeg
  rw [a_enter1 (M := a_m147) rfl (a_cat_rf (a_cat_int (a_cat_int (a_cat_int a_cat_nil)))) (show 4 ≤ 4 by decide)]
  show a_at _ (a_xm a_m147) 0 [some (a_rf C), some (.int q), some (.int r), some (.int w)] [] _ _
  repeat' first
    | with_reducible apply And.intro
    | with_reducible assumption
    | with_reducible intro _
    | exact hq _ _ _ hZ
    | exact hq _ _ _ (by assumption)
    | exact hq _ _ _ (cZ_C hZ (by assumption))
    | exact hq _ _ _ (cZ_G hZ (by assumption))
    | exact hq _ _ _ (cZ_L hZ (by assumption))
    | refine ck_refuse hZ (fun _ _ => ?_)
    | refine ck_refuse (cZ_C hZ (by assumption)) (fun _ _ => ?_)
    | exact dC_T (by assumption)
    | exact dG_refl hT
    | refine ck_circleTell (I0 := I) ?_ hw (dG_refl hT) (fun _ _ _ => ?_)
    | simp only [q147_0, q147_1, q147_4, q147_5, q147_8, q147_11, q147_12, q147_15, q147_16, q147_19, q147_22, q147_23, q147_24, q147_27, q147_28, q147_29, q147_32, q147_33, q147_34, q147_37, q147_38, q147_39, q147_40, q147_43, q147_46, q147_47, q147_50, q147_51, k_0 hS, z_C hS, r_0_4 hS, k_14 hS, z_14, r_0_7 hS, k_35 hS, z_35, sp_askAt hS gA, as_nil, as_i, as_r, Nat.reduceAdd, Nat.reduceLeDiff, z_eq0, z_eq1, z_or, z_em, Classical.not_not, not_false_eq_true, not_true_eq_false, true_and, and_true, false_and, and_false, and_self, true_implies, false_implies, implies_true, Option.toList_some, Option.toList_none, List.cons_append, List.nil_append, Nat.add_eq_zero_iff, a_nl_i, a_nl_r, a_nl_n, true_or, or_true, eq_self, a_isRA_22, a_isRA_24, a_isRA_32, a_isA_20, ok_4, ok_5, ok_6, ok_7, ok_9, ok_20, ok_21, ok_30, ok_50, ok_180, ok_192, ok_200]
  all_goals ((try clear ih); (try clear hP); (try clear hl); (try clear hq); (try clear hZ); (try clear hH); grind [ui_ap])
theorem cu_give (hH : cH C c (n + 1) t K L I R) {q b s : Int32} (hP : ∀ v n' t' K' L' J R', cZ C (c + 4) (n + 1) K L I R (n' + 1) t' K' L' J R' → P (some (.int v)) (n' + 1, t', K', L', J, R')) : a_does (d + 70) 112 [a_rf C, .int q, .int b, .int s] (n + 1, t, K, L, I, R) P := by
  have hT := hH.1
  have hS := hT.s
  have hZ := cZ_refl hH
  have hq : ∀ v J R1, cZ C c (n + 1) K L I R (n + 1) t K L J R1 → P (some (.int v)) (n + 1, t, K, L, J, R1) := fun v J R1 z => hP v n t K L J R1 (cZ_le z (by omega))
  clear hP
  have gA := hT.g_asksR
  have gB := hT.g_benchesR
  have gX := hT.g_textsR
  have gi := gA q.toNatClampNeg
  have ga := fun h => hT.g_ask (R (C + 15) q.toNatClampNeg) (gi.resolve_left h)
  have gb := gB b.toNatClampNeg
  have hfit : ∀ J (v : Int32), ¬ R (C + 15) q.toNatClampNeg = 0 → dC C K L R I J → (v = 0 → fitP s (I (R (C + 15) q.toNatClampNeg) 2)) → v = 0 → fitP s (J (R (C + 15) q.toNatClampNeg) 2) := fun J v h1 h2 h3 h4 => by
    rw [dC_at h2 hT (gi.resolve_left h1) 2]
    exact h3 h4
  rw [a_enter1 (M := a_m112) rfl (a_cat_rf (a_cat_int (a_cat_int (a_cat_int a_cat_nil)))) (show 4 ≤ 5 by decide)]
  show a_at _ (a_xm a_m112) 0 [some (a_rf C), some (.int q), some (.int b), some (.int s), none] [] _ _
  repeat' first
    | with_reducible apply And.intro
    | with_reducible assumption
    | with_reducible intro _
    | exact hq _ _ _ hZ
    | exact hq _ _ _ (by assumption)
    | exact hq _ _ _ (cZ_C hZ (by assumption))
    | exact hq _ _ _ (cZ_G hZ (by assumption))
    | exact hq _ _ _ (cZ_L hZ (by assumption))
    | refine ck_refuse hZ (fun _ _ => ?_)
    | refine ck_refuse (cZ_C hZ (by assumption)) (fun _ _ => ?_)
    | exact dC_T (by assumption)
    | exact dG_refl hT
    | refine ck_place (gi.resolve_left (by assumption)) (dC_T (by assumption)) (hfit _ _ (by assumption) (by assumption) (by assumption) (by assumption)) (fun _ _ => ?_)
    | exact hq _ _ _ (cZ_L (cZ_C hZ (by assumption)) (by assumption))
    | with_reducible apply ck_firstBar ?_ hT
    | simp only [q112_0, q112_1, q112_4, q112_5, q112_8, q112_10, q112_12, q112_15, q112_16, q112_19, q112_20, q112_23, q112_26, q112_27, q112_30, q112_33, q112_34, q112_35, q112_38, q112_39, q112_41, q112_44, q112_47, q112_49, q112_52, q112_55, q112_56, q112_59, q112_61, q112_62, q112_63, q112_66, q112_69, q112_70, q112_72, q112_75, q112_76, q112_77, q112_80, q112_82, q112_83, q112_84, q112_87, q112_88, k_0 hS, z_C hS, r_0_4 hS, k_14 hS, z_14, sp_askAt hS gA, sp_benchAt hS gB, sp_isShiftC, sp_isPlaced, as_nil, as_i, as_r, Nat.reduceAdd, Nat.reduceLeDiff, z_eq0, z_eq1, z_or, z_em, Classical.not_not, not_false_eq_true, not_true_eq_false, true_and, and_true, false_and, and_false, and_self, true_implies, false_implies, implies_true, Option.toList_some, Option.toList_none, List.cons_append, List.nil_append, Nat.add_eq_zero_iff, a_nl_i, a_nl_r, a_nl_n, true_or, or_true, eq_self, a_isRA_22, a_isRA_24, a_isRA_32, a_isA_20, ok_4, ok_5, ok_6, ok_7, ok_9, ok_20, ok_21, ok_30, ok_50, ok_180, ok_192, ok_200]
  all_goals ((try clear ih); (try clear hP); (try clear hl); (try clear hq); (try clear hZ); (try clear hH); grind [ui_ap])
theorem cu_plan (hH : cH C c (n + 1) t K L I R) {x y : Int32} (hP : ∀ v n' t' K' L' J R', cZ C (c + 4) (n + 1) K L I R (n' + 1) t' K' L' J R' → P (some (.int v)) (n' + 1, t', K', L', J, R')) : a_does (d + 70) 118 [a_rf C, .int x, .int y] (n + 1, t, K, L, I, R) P := by
  have hT := hH.1
  have hS := hT.s
  have hZ := cZ_refl hH
  have hq : ∀ v J R1, cZ C c (n + 1) K L I R (n + 1) t K L J R1 → P (some (.int v)) (n + 1, t, K, L, J, R1) := fun v J R1 z => hP v n t K L J R1 (cZ_le z (by omega))
  clear hP
  have gA := hT.g_asksR
  have gB := hT.g_benchesR
  have gX := hT.g_textsR
  rw [a_enter1 (M := a_m118) rfl (a_cat_rf (a_cat_int (a_cat_int a_cat_nil))) (show 3 ≤ 3 by decide)]
  show a_at _ (a_xm a_m118) 0 [some (a_rf C), some (.int x), some (.int y)] [] _ _
  repeat' first
    | with_reducible apply And.intro
    | with_reducible assumption
    | with_reducible intro _
    | exact hq _ _ _ hZ
    | exact hq _ _ _ (by assumption)
    | exact hq _ _ _ (cZ_C hZ (by assumption))
    | exact hq _ _ _ (cZ_G hZ (by assumption))
    | exact hq _ _ _ (cZ_L hZ (by assumption))
    | refine ck_refuse hZ (fun _ _ => ?_)
    | refine ck_refuse (cZ_C hZ (by assumption)) (fun _ _ => ?_)
    | exact dC_T (by assumption)
    | exact dG_refl hT
    | refine ck_planAll ?_ ?_ hZ (fun _ _ _ _ => ?_)
    | simp only [q118_0, q118_1, q118_2, q118_5, q118_8, q118_9, q118_10, q118_13, q118_14, q118_15, q118_18, q118_19, q118_20, q118_23, k_0 hS, z_C hS, r_0_5 hS, k_22 hS, z_22, sp_areShifts, as_nil, as_i, as_r, Nat.reduceAdd, Nat.reduceLeDiff, z_eq0, z_eq1, z_or, z_em, Classical.not_not, not_false_eq_true, not_true_eq_false, true_and, and_true, false_and, and_false, and_self, true_implies, false_implies, implies_true, Option.toList_some, Option.toList_none, List.cons_append, List.nil_append, Nat.add_eq_zero_iff, a_nl_i, a_nl_r, a_nl_n, true_or, or_true, eq_self, a_isRA_22, a_isRA_24, a_isRA_32, a_isA_20, ok_4, ok_5, ok_6, ok_7, ok_9, ok_20, ok_21, ok_30, ok_50, ok_180, ok_192, ok_200]
  all_goals ((try clear ih); (try clear hP); (try clear hl); (try clear hq); (try clear hZ); (try clear hH); grind [ui_ap])
theorem cu_ring (hH : cH C c (n + 1) t K L I R) {w : Int32} (hP : ∀ v n' t' K' L' J R', cZ C (c + 4) (n + 1) K L I R (n' + 1) t' K' L' J R' → P (some (.int v)) (n' + 1, t', K', L', J, R')) : a_does (d + 70) 149 [a_rf C, .int w] (n + 1, t, K, L, I, R) P := by
  have hT := hH.1
  have hS := hT.s
  have hZ := cZ_refl hH
  have hq : ∀ v J R1, cZ C c (n + 1) K L I R (n + 1) t K L J R1 → P (some (.int v)) (n + 1, t, K, L, J, R1) := fun v J R1 z => hP v n t K L J R1 (cZ_le z (by omega))
  clear hP
  rw [a_enter1 (M := a_m149) rfl (a_cat_rf (a_cat_int a_cat_nil)) (show 2 ≤ 3 by decide)]
  show a_at _ (a_xm a_m149) 0 [some (a_rf C), some (.int w), none] [] _ _
  simp only [q149_0, q149_1, q149_2, q149_5, q149_6, q149_8, q149_11, q149_12, q149_13, q149_16, q149_19, k_0 hS, z_C hS, r_0_7 hS, k_35 hS, z_35, as_nil, as_i, as_r, Nat.reduceAdd, Nat.reduceLeDiff, z_eq0, z_eq1, z_or, z_em, Classical.not_not, not_false_eq_true, not_true_eq_false, true_and, and_true, false_and, and_false, and_self, true_implies, false_implies, implies_true, Option.toList_some, Option.toList_none, List.cons_append, List.nil_append, Nat.add_eq_zero_iff, a_nl_i, a_nl_r, a_nl_n, true_or, or_true, eq_self, a_isRA_22, a_isRA_24, a_isRA_32, a_isA_20, ok_4, ok_5, ok_6, ok_7, ok_9, ok_20, ok_21, ok_30, ok_50, ok_180, ok_192, ok_200]
  refine ⟨fun _ => ?_, fun _ => ?_⟩
  all_goals
    first
      | (refine ck_refuse hZ (fun J z => ?_)
         simp only [q149_8, q149_11, k_0 hS, z_C hS, as_nil, as_i, as_r, Nat.reduceAdd, Nat.reduceLeDiff, z_eq0, z_eq1, z_or, z_em, Classical.not_not, not_false_eq_true, not_true_eq_false, true_and, and_true, false_and, and_false, and_self, true_implies, false_implies, implies_true, Option.toList_some, Option.toList_none, List.cons_append, List.nil_append, Nat.add_eq_zero_iff, a_nl_i, a_nl_r, a_nl_n, true_or, or_true, eq_self, a_isRA_22, a_isRA_24, a_isRA_32, a_isA_20, ok_4, ok_5, ok_6, ok_7, ok_9, ok_20, ok_21, ok_30, ok_50, ok_180, ok_192, ok_200]
         exact hq _ _ _ z)
      | (refine ck_find hZ (fun v J R2 z e1 e2 e3 e4 => ?_)
         have hS := z.2.1.1.s
         have hN : rnP C R2 (J (C + 35) 7) := by rw [e1]; exact e3
         simp only [q149_19, q149_20, q149_21, q149_22, q149_25, q149_26, q149_29, q149_30, q149_33, q149_34, q149_37, k_0 hS, z_C hS, r_0_7 hS, k_35 hS, z_35, as_nil, as_i, as_r, Nat.reduceAdd, Nat.reduceLeDiff, z_eq0, z_eq1, z_or, z_em, Classical.not_not, not_false_eq_true, not_true_eq_false, true_and, and_true, false_and, and_false, and_self, true_implies, false_implies, implies_true, Option.toList_some, Option.toList_none, List.cons_append, List.nil_append, Nat.add_eq_zero_iff, a_nl_i, a_nl_r, a_nl_n, true_or, or_true, eq_self, a_isRA_22, a_isRA_24, a_isRA_32, a_isA_20, ok_4, ok_5, ok_6, ok_7, ok_9, ok_20, ok_21, ok_30, ok_50, ok_180, ok_192, ok_200]
         refine ⟨fun _ => ?_, fun _ => ?_⟩
         · first
             | exact hq _ _ _ z
             | (refine ck_memberAt z.2.1.1 hN (fun v2 => ?_)
                simp only [q149_34, q149_37, k_0 hS, z_C hS, as_nil, as_i, as_r, Nat.reduceAdd, Nat.reduceLeDiff, z_eq0, z_eq1, z_or, z_em, Classical.not_not, not_false_eq_true, not_true_eq_false, true_and, and_true, false_and, and_false, and_self, true_implies, false_implies, implies_true, Option.toList_some, Option.toList_none, List.cons_append, List.nil_append, Nat.add_eq_zero_iff, a_nl_i, a_nl_r, a_nl_n, true_or, or_true, eq_self, a_isRA_22, a_isRA_24, a_isRA_32, a_isA_20, ok_4, ok_5, ok_6, ok_7, ok_9, ok_20, ok_21, ok_30, ok_50, ok_180, ok_192, ok_200]
                exact hq _ _ _ z)
         · first
             | exact hq _ _ _ z
             | (refine ck_memberAt z.2.1.1 hN (fun v2 => ?_)
                simp only [q149_34, q149_37, k_0 hS, z_C hS, as_nil, as_i, as_r, Nat.reduceAdd, Nat.reduceLeDiff, z_eq0, z_eq1, z_or, z_em, Classical.not_not, not_false_eq_true, not_true_eq_false, true_and, and_true, false_and, and_false, and_self, true_implies, false_implies, implies_true, Option.toList_some, Option.toList_none, List.cons_append, List.nil_append, Nat.add_eq_zero_iff, a_nl_i, a_nl_r, a_nl_n, true_or, or_true, eq_self, a_isRA_22, a_isRA_24, a_isRA_32, a_isA_20, ok_4, ok_5, ok_6, ok_7, ok_9, ok_20, ok_21, ok_30, ok_50, ok_180, ok_192, ok_200]
                exact hq _ _ _ z))
theorem cu_best (hH : cH C c (n + 1) t K L I R) {x y r w : Int32} (hP : ∀ v n' t' K' L' J R', cZ C (c + 4) (n + 1) K L I R (n' + 1) t' K' L' J R' → P (some (.int v)) (n' + 1, t', K', L', J, R')) : a_does (d + 70) 128 [a_rf C, .int x, .int y, .int r, .int w] (n + 1, t, K, L, I, R) P := by
  have hT := hH.1
  have hS := hT.s
  have hZ := cZ_refl hH
  have hq : ∀ v J R1, cZ C c (n + 1) K L I R (n + 1) t K L J R1 → P (some (.int v)) (n + 1, t, K, L, J, R1) := fun v J R1 z => hP v n t K L J R1 (cZ_le z (by omega))
  clear hP
  have hgo : (0 ≤ x ∧ x < 200) → (0 ≤ y ∧ y < 200) → a_at (d + 69) (a_xm a_m128) 93 [some (a_rf C), some (.int x), some (.int y), some (.int r), some (.int w)] [] (n + 1, t, K, L, I, R) P := fun hx hy => by
    simp only [q128_93, q128_94, q128_97, q128_98, q128_99, q128_100, k_0 hS, z_C hS, r_0_6 hS, k_27 hS, z_27, as_nil, as_i, as_r, Nat.reduceAdd, Nat.reduceLeDiff, z_eq0, z_eq1, z_or, z_em, Classical.not_not, not_false_eq_true, not_true_eq_false, true_and, and_true, false_and, and_false, and_self, true_implies, false_implies, implies_true, Option.toList_some, Option.toList_none, List.cons_append, List.nil_append, Nat.add_eq_zero_iff, a_nl_i, a_nl_r, a_nl_n, true_or, or_true, eq_self, a_isRA_22, a_isRA_24, a_isRA_32, a_isA_20, ok_4, ok_5, ok_6, ok_7, ok_9, ok_20, ok_21, ok_30, ok_50, ok_180, ok_192, ok_200]
    refine ck_search ⟨hx.1, by clear hq hZ hT hH hS; grind⟩ (by clear hq hZ hT hH hS; grind) hZ (fun J R2 z hN => ?_)
    have hS := z.2.1.1.s
    simp only [q128_103, q128_105, q128_106, q128_109, q128_110, q128_113, q128_116, q128_119, q128_120, q128_123, q128_125, q128_128, k_0 hS, z_C hS, r_0_6 hS, k_27 hS, z_27, as_nil, as_i, as_r, Nat.reduceAdd, Nat.reduceLeDiff, z_eq0, z_eq1, z_or, z_em, Classical.not_not, not_false_eq_true, not_true_eq_false, true_and, and_true, false_and, and_false, and_self, true_implies, false_implies, implies_true, Option.toList_some, Option.toList_none, List.cons_append, List.nil_append, Nat.add_eq_zero_iff, a_nl_i, a_nl_r, a_nl_n, true_or, or_true, eq_self, a_isRA_22, a_isRA_24, a_isRA_32, a_isA_20, ok_4, ok_5, ok_6, ok_7, ok_9, ok_20, ok_21, ok_30, ok_50, ok_180, ok_192, ok_200]
    refine ⟨fun _ => ?_, fun _ => ?_⟩
    · first
        | exact hq _ _ _ z
        | (refine ck_spotOf z.2.1.1 hN (fun v2 => ?_)
           simp only [q128_128, as_nil, as_i, as_r, Nat.reduceAdd, Nat.reduceLeDiff, z_eq0, z_eq1, z_or, z_em, Classical.not_not, not_false_eq_true, not_true_eq_false, true_and, and_true, false_and, and_false, and_self, true_implies, false_implies, implies_true, Option.toList_some, Option.toList_none, List.cons_append, List.nil_append, Nat.add_eq_zero_iff, a_nl_i, a_nl_r, a_nl_n, true_or, or_true, eq_self, a_isRA_22, a_isRA_24, a_isRA_32, a_isA_20, ok_4, ok_5, ok_6, ok_7, ok_9, ok_20, ok_21, ok_30, ok_50, ok_180, ok_192, ok_200]
           exact hq _ _ _ z)
    · first
        | exact hq _ _ _ z
        | (refine ck_spotOf z.2.1.1 hN (fun v2 => ?_)
           simp only [q128_128, as_nil, as_i, as_r, Nat.reduceAdd, Nat.reduceLeDiff, z_eq0, z_eq1, z_or, z_em, Classical.not_not, not_false_eq_true, not_true_eq_false, true_and, and_true, false_and, and_false, and_self, true_implies, false_implies, implies_true, Option.toList_some, Option.toList_none, List.cons_append, List.nil_append, Nat.add_eq_zero_iff, a_nl_i, a_nl_r, a_nl_n, true_or, or_true, eq_self, a_isRA_22, a_isRA_24, a_isRA_32, a_isA_20, ok_4, ok_5, ok_6, ok_7, ok_9, ok_20, ok_21, ok_30, ok_50, ok_180, ok_192, ok_200]
           exact hq _ _ _ z)
  rw [a_enter1 (M := a_m128) rfl (a_cat_rf (a_cat_int (a_cat_int (a_cat_int (a_cat_int a_cat_nil))))) (show 5 ≤ 5 by decide)]
  show a_at _ (a_xm a_m128) 0 [some (a_rf C), some (.int x), some (.int y), some (.int r), some (.int w)] [] _ _
  repeat' first
    | with_reducible apply And.intro
    | with_reducible assumption
    | with_reducible intro _
    | exact hq _ _ _ hZ
    | exact hq _ _ _ (by assumption)
    | exact hq _ _ _ (cZ_C hZ (by assumption))
    | exact hq _ _ _ (cZ_G hZ (by assumption))
    | exact hq _ _ _ (cZ_L hZ (by assumption))
    | refine ck_refuse hZ (fun _ _ => ?_)
    | refine ck_refuse (cZ_C hZ (by assumption)) (fun _ _ => ?_)
    | exact dC_T (by assumption)
    | exact dG_refl hT
    | with_reducible apply ck_areAsks hT
    | with_reducible apply ck_isIn
    | with_reducible apply ck_bitCount
    | with_reducible apply ck_areAllFree hT
    | with_reducible apply hgo
    | simp only [q128_0, q128_1, q128_2, q128_5, q128_8, q128_9, q128_12, q128_13, q128_16, q128_19, q128_21, q128_24, q128_25, q128_27, q128_30, q128_33, q128_34, q128_35, q128_38, q128_39, q128_41, q128_42, q128_45, q128_46, q128_48, q128_51, q128_52, q128_53, q128_54, q128_55, q128_57, q128_60, q128_61, q128_64, q128_65, q128_68, q128_69, q128_71, q128_74, q128_75, q128_76, q128_79, q128_80, q128_83, q128_86, q128_87, q128_89, q128_92, k_0 hS, z_C hS, r_0_4 hS, k_14 hS, z_14, sp_areShifts, as_nil, as_i, as_r, Nat.reduceAdd, Nat.reduceLeDiff, z_eq0, z_eq1, z_or, z_em, Classical.not_not, not_false_eq_true, not_true_eq_false, true_and, and_true, false_and, and_false, and_self, true_implies, false_implies, implies_true, Option.toList_some, Option.toList_none, List.cons_append, List.nil_append, Nat.add_eq_zero_iff, a_nl_i, a_nl_r, a_nl_n, true_or, or_true, eq_self, a_isRA_22, a_isRA_24, a_isRA_32, a_isA_20, ok_4, ok_5, ok_6, ok_7, ok_9, ok_20, ok_21, ok_30, ok_50, ok_180, ok_192, ok_200]
  all_goals ((try clear hgo); (try clear hq); (try clear hZ); (try clear hH); (try clear hT); grind [ui_ap])
end KJ
/-! calls that change nothing -/
section ZP0
variable {d n t C c : Nat} {K L : Nat → Nat} {I I0 J J0 J1 J2 : Nat → Nat → Int32} {R : Nat → Nat → Nat} {P : Option Value → AH → Prop}
variable {Y Z W : Nat → Nat → Int32}
/-- but for what is kept of facts, and the count of refusals -/
def cqP (C c n t : Nat) (K L : Nat → Nat) (I : Nat → Nat → Int32) (R : Nat → Nat → Nat) (J : Nat → Nat → Int32) : Prop := cH C c n t K L J R ∧ ∀ x j, ¬ x = C + 9 → ¬ x = C + 10 → ¬ x = C + 42 → J x j = I x j
theorem cq_refl {m : Nat} (hH : cH C c m t K L I R) : cqP C c m t K L I R I := ⟨hH, fun _ _ _ _ _ => rfl⟩
theorem cq_C {m : Nat} (h : cqP C c m t K L I0 R I) (g : dC C K L R I J) : cqP C c m t K L I0 R J := ⟨cH_J h.1 g.1, fun x j a b e => (g.2 x j a b).trans (h.2 x j a b e)⟩
theorem cq_rf (hZ : cqP C c (n + 1) t K L I0 R I) {v : Int32} (hP : ∀ J, cqP C c (n + 1) t K L I0 R J → P (some (.int v)) (n + 1, t, K, L, J, R)) : a_does (d + 1) 10 [a_rf C, .int v] (n + 1, t, K, L, I, R) P := cr_refuse hZ.1 (fun J z => hP J ⟨z.1, fun x j a b e => (z.2 x j e).trans (hZ.2 x j a b e)⟩)
theorem cu_q {m : Nat} (hH : cH C c m t K L I R) (hu : cuP C K L I R Y) (h : cqP C c m t K L I R J) : cuP C K L J R Y := by
  have hT := hH.1
  have hJ : ∀ k j, ¬ k = 9 ∧ ¬ k = 10 ∧ ¬ k = 42 → J (C + k) j = I (C + k) j := fun k j hk => h.2 _ _ (by omega) (by omega) (by omega)
  have hX : ∀ x j, C + 43 < x → J x j = I x j := fun x j hx => h.2 _ _ (by omega) (by omega) (by omega)
  have hz : ∀ k j : Nat, ¬ (k = 0 ∧ j = 1000) → Y k j = Y k j := fun _ _ _ => rfl
  exact cu_gen hT hu ⟨fun k hk => funext (fun j => hz k j (by omega)), fun j hj => hz 0 j (by omega)⟩ (fE_of hH hX ⟨hJ 14 4 (by omega), hJ 14 5 (by omega)⟩ (hJ 7 3 (by omega))) (by rw [hJ 1 6 (by omega), hz 0 0 (by omega)]; exact hu.1.1.1) (fun j => by rw [hJ 2 j (by omega), hz 1 j (by omega)]; exact hu.1.1.2.1 j) (lsP_e hu.1.1.2.2 (fun j => hJ 3 j (by omega)) (fun k j hk => hz k j (by unfold kL at hk; omega))) ⟨by rw [hJ 14 6 (by omega), hz 0 9 (by omega)]; exact hu.1.2.1.2.1, by rw [hz 0 9 (by omega)]; exact hu.1.2.2.2.2.2.2.2.1⟩ (mr_e hu.1.2.2.1.2.1 hu.1.2.2.1.2.2.1 (fun x kx => hX _ _ (by have := (hT.g_ask x kx).1; omega)) (fun k j hk => hz k j (by unfold kK at hk; omega))) (mk_e hu.1.2.2.2.2.2.2.2.2.2.2.2.1 (fun k j hk => hz k j (by unfold kK at hk; omega))) (siM_e hu.2.2.1.1 (fun k j hk => hJ k j (by omega)) (fun k j hk => hz k j (by unfold kM at hk; omega))) (siT_e hu.2.2.1.2.1 (fun k j hk => hJ k j (by omega)) (fun k j hk => hz k j (by unfold kT at hk; omega))) (siY_e hu.2.2.1.2.2.2 (fun k j hk => hz k j (by unfold kY at hk; omega))) (fun e => hX _ _ (by have := (hT.g_ask _ (hu.2.2.1.2.2.1.2 e).1).1; omega))
theorem cq_habit (hH : cH C c (n + 1) t K L I R) {q w : Int32} (hP : ∀ v J, cqP C c (n + 1) t K L I R J → P (some (.int v)) (n + 1, t, K, L, J, R)) : a_does (d + 70) 97 [a_rf C, .int q, .int w] (n + 1, t, K, L, I, R) P := by
  have hT := hH.1
  have hS := hT.s
  have hZ : cqP C c (n + 1) t K L I R I := cq_refl hH
  have gA := hT.g_asksR
  have gB := hT.g_benchesR
  have gX := hT.g_textsR
  rw [a_enter1 (M := a_m97) rfl (a_cat_rf (a_cat_int (a_cat_int a_cat_nil))) (show 3 ≤ 3 by decide)]
  show a_at _ (a_xm a_m97) 0 [some (a_rf C), some (.int q), some (.int w)] [] _ _
  repeat' first
    | with_reducible apply And.intro
    | with_reducible assumption
    | with_reducible intro _
    | exact hP _ _ hZ
    | exact hP _ _ (by assumption)
    | exact hP _ _ (cq_C hZ (by assumption))
    | refine cq_rf hZ (fun _ _ => ?_)
    | refine cq_rf (cq_C hZ (by assumption)) (fun _ _ => ?_)
    | exact dC_T (by assumption)
    | with_reducible apply ck_habitOf hT
    | with_reducible apply ck_doubtOf hT
    | simp only [q97_0, q97_1, q97_4, q97_7, q97_10, q97_11, q97_12, q97_15, q97_16, q97_17, q97_18, q97_21, q97_22, q97_23, q97_26, q97_29, q97_30, q97_32, q97_35, q97_36, q97_37, q97_38, q97_41, q97_42, q97_45, q97_46, q97_49, q97_52, q97_53, q97_56, q97_57, q97_60, k_0 hS, z_C hS, r_0_3 hS, k_17 hS, z_17, sp_isReaderC, as_nil, as_i, as_r, Nat.reduceAdd, Nat.reduceLeDiff, z_eq0, z_eq1, z_or, z_em, Classical.not_not, not_false_eq_true, not_true_eq_false, true_and, and_true, false_and, and_false, and_self, true_implies, false_implies, implies_true, Option.toList_some, Option.toList_none, List.cons_append, List.nil_append, Nat.add_eq_zero_iff, a_nl_i, a_nl_r, a_nl_n, true_or, or_true, eq_self, a_isRA_22, a_isRA_24, a_isRA_32, a_isA_20, ok_4, ok_5, ok_6, ok_7, ok_9, ok_20, ok_21, ok_30, ok_50, ok_180, ok_192, ok_200]
  all_goals ((try clear ih); (try clear hP); (try clear hl); (try clear hq); (try clear hZ); (try clear hH); grind [ui_ap])
theorem cq_passed (hH : cH C c (n + 1) t K L I R) {w : Int32} (hP : ∀ v J, cqP C c (n + 1) t K L I R J → P (some (.int v)) (n + 1, t, K, L, J, R)) : a_does (d + 70) 125 [a_rf C, .int w] (n + 1, t, K, L, I, R) P := by
  have hT := hH.1
  have hS := hT.s
  have hZ : cqP C c (n + 1) t K L I R I := cq_refl hH
  have gA := hT.g_asksR
  have gB := hT.g_benchesR
  have gX := hT.g_textsR
  rw [a_enter1 (M := a_m125) rfl (a_cat_rf (a_cat_int a_cat_nil)) (show 2 ≤ 2 by decide)]
  show a_at _ (a_xm a_m125) 0 [some (a_rf C), some (.int w)] [] _ _
  repeat' first
    | with_reducible apply And.intro
    | with_reducible assumption
    | with_reducible intro _
    | exact hP _ _ hZ
    | exact hP _ _ (by assumption)
    | exact hP _ _ (cq_C hZ (by assumption))
    | refine cq_rf hZ (fun _ _ => ?_)
    | refine cq_rf (cq_C hZ (by assumption)) (fun _ _ => ?_)
    | exact dC_T (by assumption)
    | with_reducible apply ck_passedAt hT
    | simp only [q125_0, q125_1, q125_2, q125_5, q125_6, q125_8, q125_11, q125_12, q125_13, q125_14, q125_17, q125_18, q125_21, q125_24, q125_27, q125_28, q125_31, q125_32, q125_35, k_0 hS, z_C hS, r_0_5 hS, k_22 hS, z_22, as_nil, as_i, as_r, Nat.reduceAdd, Nat.reduceLeDiff, z_eq0, z_eq1, z_or, z_em, Classical.not_not, not_false_eq_true, not_true_eq_false, true_and, and_true, false_and, and_false, and_self, true_implies, false_implies, implies_true, Option.toList_some, Option.toList_none, List.cons_append, List.nil_append, Nat.add_eq_zero_iff, a_nl_i, a_nl_r, a_nl_n, true_or, or_true, eq_self, a_isRA_22, a_isRA_24, a_isRA_32, a_isA_20, ok_4, ok_5, ok_6, ok_7, ok_9, ok_20, ok_21, ok_30, ok_50, ok_180, ok_192, ok_200]
  all_goals ((try clear ih); (try clear hP); (try clear hl); (try clear hq); (try clear hZ); (try clear hH); grind [ui_ap])
theorem cq_hosts (hH : cH C c (n + 1) t K L I R) {b s : Int32} (hP : ∀ v J, cqP C c (n + 1) t K L I R J → P (some (.int v)) (n + 1, t, K, L, J, R)) : a_does (d + 70) 140 [a_rf C, .int b, .int s] (n + 1, t, K, L, I, R) P := by
  have hT := hH.1
  have hS := hT.s
  have hZ : cqP C c (n + 1) t K L I R I := cq_refl hH
  have gA := hT.g_asksR
  have gB := hT.g_benchesR
  have gX := hT.g_textsR
  have gb := gB b.toNatClampNeg
  have hw : K (R (C + 16) b.toNatClampNeg) = 3 → K (R (R (C + 16) b.toNatClampNeg) 3) = 20 ∧ L (R (R (C + 16) b.toNatClampNeg) 3) = 200 ∧ ¬ R (R (C + 16) b.toNatClampNeg) 3 = 0 := fun hb => by
    obtain ⟨b1, -, ⟨w1, w2, w3⟩, -⟩ := hT.g_bnc _ hb
    exact ⟨w2, w3, by omega⟩
  have ho : 0 ≤ s ∧ s < 200 → K (R (C + 16) b.toNatClampNeg) = 3 → a_ok s (L (R (R (C + 16) b.toNatClampNeg) 3)) := fun h1 h2 => by rw [(hw h2).2.1, ok_200]; exact h1
  rw [a_enter1 (M := a_m140) rfl (a_cat_rf (a_cat_int (a_cat_int a_cat_nil))) (show 3 ≤ 4 by decide)]
  show a_at _ (a_xm a_m140) 0 [some (a_rf C), some (.int b), some (.int s), none] [] _ _
  repeat' first
    | with_reducible apply And.intro
    | with_reducible assumption
    | with_reducible intro _
    | exact hP _ _ hZ
    | exact hP _ _ (by assumption)
    | exact hP _ _ (cq_C hZ (by assumption))
    | refine cq_rf hZ (fun _ _ => ?_)
    | refine cq_rf (cq_C hZ (by assumption)) (fun _ _ => ?_)
    | exact dC_T (by assumption)
    | simp only [q140_0, q140_1, q140_4, q140_5, q140_8, q140_9, q140_10, q140_13, q140_14, q140_17, q140_20, q140_21, q140_22, q140_25, q140_26, q140_27, q140_30, q140_31, q140_32, k_0 hS, z_C hS, r_0_4 hS, k_14 hS, z_14, sp_benchAt hS gB, sp_isShiftC, as_nil, as_i, as_r, Nat.reduceAdd, Nat.reduceLeDiff, z_eq0, z_eq1, z_or, z_em, Classical.not_not, not_false_eq_true, not_true_eq_false, true_and, and_true, false_and, and_false, and_self, true_implies, false_implies, implies_true, Option.toList_some, Option.toList_none, List.cons_append, List.nil_append, Nat.add_eq_zero_iff, a_nl_i, a_nl_r, a_nl_n, true_or, or_true, eq_self, a_isRA_22, a_isRA_24, a_isRA_32, a_isA_20, ok_4, ok_5, ok_6, ok_7, ok_9, ok_20, ok_21, ok_30, ok_50, ok_180, ok_192, ok_200]
  all_goals ((try clear ih); (try clear hP); (try clear hl); (try clear hq); (try clear hZ); (try clear hH); grind [ui_ap])
theorem cq_lead (hH : cH C c (n + 1) t K L I R) {b s : Int32} (hP : ∀ v J, cqP C c (n + 1) t K L I R J → P (some (.int v)) (n + 1, t, K, L, J, R)) : a_does (d + 70) 162 [a_rf C, .int b, .int s] (n + 1, t, K, L, I, R) P := by
  have hT := hH.1
  have hS := hT.s
  have hZ : cqP C c (n + 1) t K L I R I := cq_refl hH
  have gA := hT.g_asksR
  have gB := hT.g_benchesR
  have gX := hT.g_textsR
  have gb := gB b.toNatClampNeg
  have hw : K (R (C + 16) b.toNatClampNeg) = 3 → K (R (R (C + 16) b.toNatClampNeg) 4) = 20 ∧ L (R (R (C + 16) b.toNatClampNeg) 4) = 200 ∧ ¬ R (R (C + 16) b.toNatClampNeg) 4 = 0 := fun hb => by
    obtain ⟨b1, -, -, ⟨w1, w2, w3⟩, -⟩ := hT.g_bnc _ hb
    exact ⟨w2, w3, by omega⟩
  have ho : 0 ≤ s ∧ s < 200 → K (R (C + 16) b.toNatClampNeg) = 3 → a_ok s (L (R (R (C + 16) b.toNatClampNeg) 4)) := fun h1 h2 => by rw [(hw h2).2.1, ok_200]; exact h1
  rw [a_enter1 (M := a_m162) rfl (a_cat_rf (a_cat_int (a_cat_int a_cat_nil))) (show 3 ≤ 4 by decide)]
  show a_at _ (a_xm a_m162) 0 [some (a_rf C), some (.int b), some (.int s), none] [] _ _
  repeat' first
    | with_reducible apply And.intro
    | with_reducible assumption
    | with_reducible intro _
    | exact hP _ _ hZ
    | exact hP _ _ (by assumption)
    | exact hP _ _ (cq_C hZ (by assumption))
    | refine cq_rf hZ (fun _ _ => ?_)
    | refine cq_rf (cq_C hZ (by assumption)) (fun _ _ => ?_)
    | exact dC_T (by assumption)
    | simp only [q162_0, q162_1, q162_4, q162_5, q162_8, q162_9, q162_10, q162_13, q162_14, q162_17, q162_20, q162_21, q162_22, q162_25, q162_26, q162_27, q162_30, q162_31, q162_32, k_0 hS, z_C hS, r_0_4 hS, k_14 hS, z_14, sp_benchAt hS gB, sp_isShiftC, as_nil, as_i, as_r, Nat.reduceAdd, Nat.reduceLeDiff, z_eq0, z_eq1, z_or, z_em, Classical.not_not, not_false_eq_true, not_true_eq_false, true_and, and_true, false_and, and_false, and_self, true_implies, false_implies, implies_true, Option.toList_some, Option.toList_none, List.cons_append, List.nil_append, Nat.add_eq_zero_iff, a_nl_i, a_nl_r, a_nl_n, true_or, or_true, eq_self, a_isRA_22, a_isRA_24, a_isRA_32, a_isA_20, ok_4, ok_5, ok_6, ok_7, ok_9, ok_20, ok_21, ok_30, ok_50, ok_180, ok_192, ok_200]
  all_goals ((try clear ih); (try clear hP); (try clear hl); (try clear hq); (try clear hZ); (try clear hH); grind [ui_ap])
theorem cq_had (hH : cH C c (n + 1) t K L I R) {b s k : Int32} (hP : ∀ v J, cqP C c (n + 1) t K L I R J → P (some (.int v)) (n + 1, t, K, L, J, R)) : a_does (d + 70) 160 [a_rf C, .int b, .int s, .int k] (n + 1, t, K, L, I, R) P := by
  have hT := hH.1
  have hS := hT.s
  have hZ : cqP C c (n + 1) t K L I R I := cq_refl hH
  have gA := hT.g_asksR
  have gB := hT.g_benchesR
  have gX := hT.g_textsR
  have gb := gB b.toNatClampNeg
  rw [a_enter1 (M := a_m160) rfl (a_cat_rf (a_cat_int (a_cat_int (a_cat_int a_cat_nil)))) (show 4 ≤ 5 by decide)]
  show a_at _ (a_xm a_m160) 0 [some (a_rf C), some (.int b), some (.int s), some (.int k), none] [] _ _
  repeat' first
    | with_reducible apply And.intro
    | with_reducible assumption
    | with_reducible intro _
    | exact hP _ _ hZ
    | exact hP _ _ (by assumption)
    | exact hP _ _ (cq_C hZ (by assumption))
    | refine cq_rf hZ (fun _ _ => ?_)
    | refine cq_rf (cq_C hZ (by assumption)) (fun _ _ => ?_)
    | exact dC_T (by assumption)
    | with_reducible apply ck_knownOn
    | simp only [q160_0, q160_1, q160_4, q160_5, q160_8, q160_10, q160_12, q160_15, q160_16, q160_19, q160_22, q160_23, q160_24, q160_27, q160_28, q160_29, q160_32, q160_33, q160_35, q160_38, q160_39, q160_40, q160_41, q160_44, q160_47, q160_50, q160_51, q160_53, q160_56, q160_57, q160_59, q160_60, q160_61, q160_64, k_0 hS, z_C hS, r_0_4 hS, k_14 hS, z_14, r_0_0 hS, k_1 hS, z_1, sp_benchAt hS gB, sp_isShiftC, as_nil, as_i, as_r, Nat.reduceAdd, Nat.reduceLeDiff, z_eq0, z_eq1, z_or, z_em, Classical.not_not, not_false_eq_true, not_true_eq_false, true_and, and_true, false_and, and_false, and_self, true_implies, false_implies, implies_true, Option.toList_some, Option.toList_none, List.cons_append, List.nil_append, Nat.add_eq_zero_iff, a_nl_i, a_nl_r, a_nl_n, true_or, or_true, eq_self, a_isRA_22, a_isRA_24, a_isRA_32, a_isA_20, ok_4, ok_5, ok_6, ok_7, ok_9, ok_20, ok_21, ok_30, ok_50, ok_180, ok_192, ok_200]
  all_goals ((try clear ih); (try clear hP); (try clear hl); (try clear hq); (try clear hZ); (try clear hH); grind [ui_ap])
theorem cq_count (hH : cH C c (n + 1) t K L I R) {w : Int32} (hP : ∀ v J, cqP C c (n + 1) t K L I R J → P (some (.int v)) (n + 1, t, K, L, J, R)) : a_does (d + 70) 166 [a_rf C, .int w] (n + 1, t, K, L, I, R) P := by
  have hT := hH.1
  have hS := hT.s
  have hZ : cqP C c (n + 1) t K L I R I := cq_refl hH
  have gA := hT.g_asksR
  have gB := hT.g_benchesR
  have gX := hT.g_textsR
  rw [a_enter1 (M := a_m166) rfl (a_cat_rf (a_cat_int a_cat_nil)) (show 2 ≤ 2 by decide)]
  show a_at _ (a_xm a_m166) 0 [some (a_rf C), some (.int w)] [] _ _
  repeat' first
    | with_reducible apply And.intro
    | with_reducible assumption
    | with_reducible intro _
    | exact hP _ _ hZ
    | exact hP _ _ (by assumption)
    | exact hP _ _ (cq_C hZ (by assumption))
    | refine cq_rf hZ (fun _ _ => ?_)
    | refine cq_rf (cq_C hZ (by assumption)) (fun _ _ => ?_)
    | exact dC_T (by assumption)
    | with_reducible apply ck_placedAsks hT
    | with_reducible apply ck_placedShifts hT
    | simp only [q166_0, q166_1, q166_52, q166_53, q166_56, q166_59, q166_60, q166_61, q166_64, q166_67, q166_68, q166_69, q166_72, q166_75, q166_76, q166_77, q166_80, q166_83, q166_84, q166_85, q166_88, q166_91, q166_92, q166_93, q166_96, q166_99, q166_100, q166_101, q166_104, q166_107, q166_108, q166_109, q166_112, q166_115, q166_116, q166_117, q166_120, q166_121, q166_122, q166_124, q166_127, q166_128, q166_130, q166_133, q166_134, q166_137, q166_138, q166_140, q166_141, q166_142, q166_145, q166_147, k_0 hS, z_C hS, r_0_0 hS, k_1 hS, z_1, r_0_4 hS, k_14 hS, z_14, r_0_1 hS, k_7 hS, z_7, r_0_2 hS, k_11 hS, z_11, r_0_8 hS, k_42 hS, l_42 hS, z_42, as_nil, as_i, as_r, Nat.reduceAdd, Nat.reduceLeDiff, z_eq0, z_eq1, z_or, z_em, Classical.not_not, not_false_eq_true, not_true_eq_false, true_and, and_true, false_and, and_false, and_self, true_implies, false_implies, implies_true, Option.toList_some, Option.toList_none, List.cons_append, List.nil_append, Nat.add_eq_zero_iff, a_nl_i, a_nl_r, a_nl_n, true_or, or_true, eq_self, a_isRA_22, a_isRA_24, a_isRA_32, a_isA_20, ok_4, ok_5, ok_6, ok_7, ok_9, ok_20, ok_21, ok_30, ok_50, ok_180, ok_192, ok_200, a_sw, ti_0, ti_1, ti_2, ti_3, ti_4, ti_5, ti_6, ti_7, ti_8, ti_9, ti_10, ti_11, ti_12, ti_13, ti_14, ti_15, ti_16, ti_17, ti_18, ti_19, ti_98, ti_99, ti_100, ti_101, ti_102, ti_103, ti_104, ti_105, ti_106, ti_107, ti_108, ti_109, ti_110, ti_111, ti_112, ti_113, ti_114, ti_115, ti_116]
  all_goals ((try clear ih); (try clear hP); (try clear hl); (try clear hq); (try clear hZ); (try clear hH); grind [ui_ap])
theorem cq_askOf (hH : cH C c (n + 1) t K L I R) {q w : Int32} (hP : ∀ v J, cqP C c (n + 1) t K L I R J → P (some (.int v)) (n + 1, t, K, L, J, R)) : a_does (d + 70) 53 [a_rf C, .int q, .int w] (n + 1, t, K, L, I, R) P := by
  have hT := hH.1
  have hS := hT.s
  have hZ : cqP C c (n + 1) t K L I R I := cq_refl hH
  have gA := hT.g_asksR
  have gB := hT.g_benchesR
  have gX := hT.g_textsR
  have gi := gA q.toNatClampNeg
  have ga := fun h => hT.g_ask (R (C + 15) q.toNatClampNeg) (gi.resolve_left h)
  rw [a_enter1 (M := a_m53) rfl (a_cat_rf (a_cat_int (a_cat_int a_cat_nil))) (show 3 ≤ 4 by decide)]
  show a_at _ (a_xm a_m53) 0 [some (a_rf C), some (.int q), some (.int w), none] [] _ _
  repeat' first
    | with_reducible apply And.intro
    | with_reducible assumption
    | with_reducible intro _
    | exact hP _ _ hZ
    | exact hP _ _ (by assumption)
    | exact hP _ _ (cq_C hZ (by assumption))
    | refine cq_rf hZ (fun _ _ => ?_)
    | refine cq_rf (cq_C hZ (by assumption)) (fun _ _ => ?_)
    | exact dC_T (by assumption)
    | with_reducible apply ck_loss ?_ hT
    | with_reducible apply ck_hallOwed ?_ hT
    | simp only [q53_0, q53_1, q53_4, q53_5, q53_8, q53_9, q53_10, q53_13, q53_14, q53_15, q53_18, q53_19, q53_20, q53_76, q53_77, q53_80, q53_81, q53_82, q53_85, q53_86, q53_87, q53_90, q53_91, q53_92, q53_95, q53_96, q53_97, q53_100, q53_101, q53_102, q53_105, q53_106, q53_107, q53_110, q53_111, q53_112, q53_115, q53_118, q53_119, q53_122, q53_123, q53_124, q53_125, q53_128, q53_129, q53_132, q53_133, q53_134, q53_137, q53_138, q53_141, q53_142, q53_143, q53_145, q53_148, k_0 hS, z_C hS, r_0_4 hS, k_14 hS, z_14, sp_askAt hS gA, as_nil, as_i, as_r, Nat.reduceAdd, Nat.reduceLeDiff, z_eq0, z_eq1, z_or, z_em, Classical.not_not, not_false_eq_true, not_true_eq_false, true_and, and_true, false_and, and_false, and_self, true_implies, false_implies, implies_true, Option.toList_some, Option.toList_none, List.cons_append, List.nil_append, Nat.add_eq_zero_iff, a_nl_i, a_nl_r, a_nl_n, true_or, or_true, eq_self, a_isRA_22, a_isRA_24, a_isRA_32, a_isA_20, ok_4, ok_5, ok_6, ok_7, ok_9, ok_20, ok_21, ok_30, ok_50, ok_180, ok_192, ok_200, a_sw, ti_0, ti_1, ti_2, ti_3, ti_4, ti_5, ti_6, ti_7, ti_8, ti_9, ti_10, ti_11, ti_12, ti_13, ti_14, ti_15, ti_16, ti_17, ti_18, ti_19, ti_98, ti_99, ti_100, ti_101, ti_102, ti_103, ti_104, ti_105, ti_106, ti_107, ti_108, ti_109, ti_110, ti_111, ti_112, ti_113, ti_114, ti_115, ti_116]
  all_goals ((try clear ih); (try clear hP); (try clear hl); (try clear hq); (try clear hZ); (try clear hH); grind [ui_ap])
theorem cq_barred (hH : cH C c (n + 1) t K L I R) {q b s w : Int32} (hP : ∀ v J, cqP C c (n + 1) t K L I R J → P (some (.int v)) (n + 1, t, K, L, J, R)) : a_does (d + 70) 85 [a_rf C, .int q, .int b, .int s, .int w] (n + 1, t, K, L, I, R) P := by
  have hT := hH.1
  have hS := hT.s
  have hZ : cqP C c (n + 1) t K L I R I := cq_refl hH
  have gA := hT.g_asksR
  have gB := hT.g_benchesR
  have gX := hT.g_textsR
  have gi := gA q.toNatClampNeg
  have ga := fun h => hT.g_ask (R (C + 15) q.toNatClampNeg) (gi.resolve_left h)
  have gb := gB b.toNatClampNeg
  rw [a_enter1 (M := a_m85) rfl (a_cat_rf (a_cat_int (a_cat_int (a_cat_int (a_cat_int a_cat_nil))))) (show 5 ≤ 6 by decide)]
  show a_at _ (a_xm a_m85) 0 [some (a_rf C), some (.int q), some (.int b), some (.int s), some (.int w), none] [] _ _
  repeat' first
    | with_reducible apply And.intro
    | with_reducible assumption
    | with_reducible intro _
    | exact hP _ _ hZ
    | exact hP _ _ (by assumption)
    | exact hP _ _ (cq_C hZ (by assumption))
    | refine cq_rf hZ (fun _ _ => ?_)
    | refine cq_rf (cq_C hZ (by assumption)) (fun _ _ => ?_)
    | exact dC_T (by assumption)
    | with_reducible apply ck_least ?_ hT
    | with_reducible apply ck_quarrel ?_ hT
    | simp only [q85_0, q85_1, q85_4, q85_5, q85_8, q85_10, q85_12, q85_15, q85_16, q85_19, q85_20, q85_23, q85_26, q85_27, q85_30, q85_33, q85_34, q85_35, q85_38, q85_39, q85_41, q85_76, q85_77, q85_80, q85_82, q85_84, q85_85, q85_86, q85_89, q85_91, q85_94, q85_95, q85_98, q85_99, q85_100, q85_101, q85_104, q85_106, q85_108, q85_109, q85_110, q85_113, q85_115, q85_118, q85_119, q85_122, q85_123, q85_124, q85_125, q85_128, q85_130, q85_132, q85_133, q85_134, q85_137, q85_138, q85_139, q85_142, q85_144, q85_145, q85_146, q85_147, q85_150, q85_151, q85_152, q85_155, q85_157, q85_158, q85_159, q85_160, q85_163, q85_164, q85_165, q85_167, q85_170, k_0 hS, z_C hS, r_0_4 hS, k_14 hS, z_14, r_0_1 hS, k_7 hS, z_7, sp_askAt hS gA, sp_benchAt hS gB, sp_isShiftC, as_nil, as_i, as_r, Nat.reduceAdd, Nat.reduceLeDiff, z_eq0, z_eq1, z_or, z_em, Classical.not_not, not_false_eq_true, not_true_eq_false, true_and, and_true, false_and, and_false, and_self, true_implies, false_implies, implies_true, Option.toList_some, Option.toList_none, List.cons_append, List.nil_append, Nat.add_eq_zero_iff, a_nl_i, a_nl_r, a_nl_n, true_or, or_true, eq_self, a_isRA_22, a_isRA_24, a_isRA_32, a_isA_20, ok_4, ok_5, ok_6, ok_7, ok_9, ok_20, ok_21, ok_30, ok_50, ok_180, ok_192, ok_200, a_sw, ti_0, ti_1, ti_2, ti_3, ti_4, ti_5, ti_6, ti_7, ti_8, ti_9, ti_10, ti_11, ti_12, ti_13, ti_14, ti_15, ti_16, ti_17, ti_18, ti_19, ti_98, ti_99, ti_100, ti_101, ti_102, ti_103, ti_104, ti_105, ti_106, ti_107, ti_108, ti_109, ti_110, ti_111, ti_112, ti_113, ti_114, ti_115, ti_116]
  all_goals ((try clear ih); (try clear hP); (try clear hl); (try clear hq); (try clear hZ); (try clear hH); grind [ui_ap])
end ZP0
section ZP1
variable {d n t M : Nat} {K L : Nat → Nat} {I I0 J J0 J1 J2 : Nat → Nat → Int32} {R : Nat → Nat → Nat} {P : Option Value → AH → Prop} {f : Nat → Int32} {e : Int32}
variable {Y Z W : Nat → Nat → Int32}
/-- but for what is read, and the count of refusals -/
def mQ (M : Nat) (I J : Nat → Nat → Int32) : Prop := mR M J ∧ ∀ x j, ¬ sC M x j → ¬ x = M + 23 → J x j = I x j
theorem mQ_refl (h : mR M I) : mQ M I I := ⟨h, fun _ _ _ _ => rfl⟩
theorem mQ_ui (h : mQ M I J) {k : Nat} {v : Int32} : mQ M I (a_ui J (M + 23) k v) := ⟨sR_refused h.1, fun x j a b => by rw [ui_ap, if_neg (fun q => b q.1)]; exact h.2 x j a b⟩
theorem mQ_C (h : mC M I J) : mQ M I J := ⟨h.1, fun x j a _ => h.2 x j a⟩
theorem gs_Q (hg : gs M I0 I Y) (h : mQ M I J) : gs M I0 J Y := ⟨h.1, fun x j p => (h.2 x j (by unfold sC; omega) (by omega)).trans (hg.2.1 x j p), psE_tr hg.2.2 (psE_of (fun k j p => h.2 _ _ (by unfold sC; unfold ps1 at p; omega) (by unfold ps1 at p; omega)))⟩

theorem xq_askOf (hS : m_S M K L R) (hR : mR M I) {a w : Int32} (hP : ∀ v J, mQ M I J → P (some (.int v)) (n, t, K, L, J, R)) : a_does (d + 16) 188 [a_rf M, .int a, .int w] (n, t, K, L, I, R) P := by
  have g3 := mC_refl hR
  have hQ0 : mQ M I I := mQ_refl hR
  have g1 := rg_asks hR
  rw [a_enter1 (M := a_m188) rfl (a_cat_rf (a_cat_int (a_cat_int a_cat_nil))) (show 3 ≤ 3 by decide)]
  show a_at _ (a_xm a_m188) 0 [some (a_rf M), some (.int a), some (.int w)] [] _ _
  repeat' first
    | with_reducible apply And.intro
    | with_reducible assumption
    | with_reducible intro _
    | with_reducible apply hP
    | with_reducible apply mQ_ui
    | with_reducible apply mQ_C
    | with_reducible apply ct_lossOf hS hR
    | with_reducible apply ct_owedOf hS g3
    | simp only [q188_0, q188_1, q188_2, q188_5, q188_8, q188_9, q188_10, q188_13, q188_14, q188_15, q188_16, q188_18, q188_21, q188_24, q188_25, q188_27, q188_30, q188_31, q188_32, q188_84, q188_85, q188_88, q188_89, q188_90, q188_91, q188_92, q188_95, q188_96, q188_97, q188_98, q188_99, q188_102, q188_103, q188_104, q188_105, q188_106, q188_109, q188_110, q188_111, q188_112, q188_113, q188_116, q188_117, q188_118, q188_119, q188_120, q188_123, q188_124, q188_125, q188_126, q188_127, q188_130, q188_131, q188_132, q188_133, q188_134, q188_137, q188_138, q188_139, q188_142, q188_143, q188_146, q188_147, q188_148, q188_149, q188_150, q188_153, q188_154, q188_155, q188_156, q188_159, m_0 hS, m_K hS, mR_kind hS, mK_kind hS, mL_kind hS, mR_group hS, mK_group hS, mL_group hS, mR_land hS, mK_land hS, mL_land hS, mR_length hS, mK_length hS, mL_length hS, mR_danger hS, mK_danger hS, mL_danger hS, mR_atBench hS, mK_atBench hS, mL_atBench hS, mR_atShift hS, mK_atShift hS, mL_atShift hS, mR_isGone hS, mK_isGone hS, mL_isGone hS, sp_isAsk hS, sp_refuse_1 hS, sp_refuse_2 hS, sp_refuse_3 hS, sp_refuse_4 hS, sp_refuse_5 hS, sp_refuse_6 hS, sp_in, as_nil, as_i, as_r, Nat.reduceAdd, Nat.reduceLeDiff, z_eq0, z_eq1, z_or, z_em, Classical.not_not, not_false_eq_true, not_true_eq_false, true_and, and_true, false_and, and_false, and_self, true_implies, false_implies, implies_true, Option.toList_some, Option.toList_none, List.cons_append, List.nil_append, Nat.add_eq_zero_iff, a_nl_i, a_nl_r, a_nl_n, true_or, or_true, eq_self, ok_4, ok_5, ok_6, ok_7, ok_9, ok_10, ok_20, ok_21, ok_24, ok_30, ok_48, ok_50, ok_60, ok_80, ok_120, ok_180, ok_192, ok_200, ok_900, ok_1000, ok_84000, a_sw, ti_0, ti_1, ti_2, ti_3, ti_4, ti_5, ti_6, ti_7, ti_8, ti_9, ti_10, ti_11, ti_12, ti_13, ti_14, ti_15, ti_16, ti_17, ti_18, ti_19, ti_98, ti_99, ti_100, ti_101, ti_102, ti_103, ti_104, ti_105, ti_106, ti_107, ti_108, ti_109, ti_110, ti_111, ti_112, ti_113, ti_114, ti_115, ti_116]
  all_goals grind [ui_ap]
theorem xq_barred (hS : m_S M K L R) (hR : mR M I) {a b s w : Int32} (hP : ∀ v J, mQ M I J → P (some (.int v)) (n, t, K, L, J, R)) : a_does (d + 16) 208 [a_rf M, .int a, .int b, .int s, .int w] (n, t, K, L, I, R) P := by
  have g3 := mC_refl hR
  have hQ0 : mQ M I I := mQ_refl hR
  have g1 := rg_asks hR
  rw [a_enter1 (M := a_m208) rfl (a_cat_rf (a_cat_int (a_cat_int (a_cat_int (a_cat_int a_cat_nil))))) (show 5 ≤ 5 by decide)]
  show a_at _ (a_xm a_m208) 0 [some (a_rf M), some (.int a), some (.int b), some (.int s), some (.int w)] [] _ _
  repeat' first
    | with_reducible apply And.intro
    | with_reducible assumption
    | with_reducible intro _
    | with_reducible apply hP
    | with_reducible apply mQ_ui
    | with_reducible apply mQ_C
    | with_reducible apply ct_holding hS g3
    | with_reducible apply ct_quarrel hS g3
    | simp only [q208_0, q208_1, q208_2, q208_5, q208_8, q208_9, q208_10, q208_13, q208_16, q208_17, q208_20, q208_23, q208_24, q208_25, q208_28, q208_29, q208_31, q208_32, q208_33, q208_36, q208_39, q208_40, q208_42, q208_45, q208_46, q208_48, q208_76, q208_77, q208_79, q208_80, q208_81, q208_82, q208_85, q208_88, q208_89, q208_92, q208_93, q208_94, q208_95, q208_97, q208_98, q208_99, q208_100, q208_103, q208_106, q208_107, q208_110, q208_111, q208_112, q208_113, q208_115, q208_116, q208_117, q208_118, q208_121, q208_122, q208_123, q208_124, q208_125, q208_126, q208_128, q208_129, q208_132, q208_133, q208_136, q208_137, q208_140, m_0 hS, m_K hS, sp_isAsk hS, sp_isBench hS, sp_isShift, sp_refuse_1 hS, sp_refuse_2 hS, sp_refuse_3 hS, sp_refuse_4 hS, sp_refuse_5 hS, sp_refuse_6 hS, sp_in, as_nil, as_i, as_r, Nat.reduceAdd, Nat.reduceLeDiff, z_eq0, z_eq1, z_or, z_em, Classical.not_not, not_false_eq_true, not_true_eq_false, true_and, and_true, false_and, and_false, and_self, true_implies, false_implies, implies_true, Option.toList_some, Option.toList_none, List.cons_append, List.nil_append, Nat.add_eq_zero_iff, a_nl_i, a_nl_r, a_nl_n, true_or, or_true, eq_self, ok_4, ok_5, ok_6, ok_7, ok_9, ok_10, ok_20, ok_21, ok_24, ok_30, ok_48, ok_50, ok_60, ok_80, ok_120, ok_180, ok_192, ok_200, ok_900, ok_1000, ok_84000, a_sw, ti_0, ti_1, ti_2, ti_3, ti_4, ti_5, ti_6, ti_7, ti_8, ti_9, ti_10, ti_11, ti_12, ti_13, ti_14, ti_15, ti_16, ti_17, ti_18, ti_19, ti_98, ti_99, ti_100, ti_101, ti_102, ti_103, ti_104, ti_105, ti_106, ti_107, ti_108, ti_109, ti_110, ti_111, ti_112, ti_113, ti_114, ti_115, ti_116]
  all_goals grind [ui_ap]
theorem xq_habit (hS : m_S M K L R) (hR : mR M I) {r w : Int32} (hP : ∀ v J, mQ M I J → P (some (.int v)) (n, t, K, L, J, R)) : a_does (d + 16) 217 [a_rf M, .int r, .int w] (n, t, K, L, I, R) P := by
  have g3 := mC_refl hR
  have hQ0 : mQ M I I := mQ_refl hR
  rw [a_enter1 (M := a_m217) rfl (a_cat_rf (a_cat_int (a_cat_int a_cat_nil))) (show 3 ≤ 3 by decide)]
  show a_at _ (a_xm a_m217) 0 [some (a_rf M), some (.int r), some (.int w)] [] _ _
  repeat' first
    | with_reducible apply And.intro
    | with_reducible assumption
    | with_reducible intro _
    | with_reducible apply hP
    | with_reducible apply mQ_ui
    | with_reducible apply mQ_C
    | with_reducible apply ct_habitOf hS hR
    | with_reducible apply ct_doubtOf hS hR
    | simp only [q217_0, q217_1, q217_4, q217_7, q217_8, q217_9, q217_12, q217_13, q217_14, q217_15, q217_16, q217_19, q217_22, q217_23, q217_25, q217_28, q217_29, q217_30, q217_33, q217_34, q217_35, q217_38, q217_41, q217_42, q217_43, q217_46, m_0 hS, m_K hS, sp_isReader, sp_refuseFar_1 hS, sp_refuseFar_2 hS, sp_in, as_nil, as_i, as_r, Nat.reduceAdd, Nat.reduceLeDiff, z_eq0, z_eq1, z_or, z_em, Classical.not_not, not_false_eq_true, not_true_eq_false, true_and, and_true, false_and, and_false, and_self, true_implies, false_implies, implies_true, Option.toList_some, Option.toList_none, List.cons_append, List.nil_append, Nat.add_eq_zero_iff, a_nl_i, a_nl_r, a_nl_n, true_or, or_true, eq_self, ok_4, ok_5, ok_6, ok_7, ok_9, ok_10, ok_20, ok_21, ok_24, ok_30, ok_48, ok_50, ok_60, ok_80, ok_120, ok_180, ok_192, ok_200, ok_900, ok_1000, ok_84000, a_sw, ti_0, ti_1, ti_2, ti_3, ti_4, ti_5, ti_6, ti_7, ti_8, ti_9, ti_10, ti_11, ti_12, ti_13, ti_14, ti_15, ti_16, ti_17, ti_18, ti_19, ti_98, ti_99, ti_100, ti_101, ti_102, ti_103, ti_104, ti_105, ti_106, ti_107, ti_108, ti_109, ti_110, ti_111, ti_112, ti_113, ti_114, ti_115, ti_116]
  all_goals grind [ui_ap]
theorem xq_passed (hS : m_S M K L R) (hR : mR M I) {w : Int32} (hP : ∀ v J, mQ M I J → P (some (.int v)) (n, t, K, L, J, R)) : a_does (d + 16) 240 [a_rf M, .int w] (n, t, K, L, I, R) P := by
  have g3 := mC_refl hR
  have hQ0 : mQ M I I := mQ_refl hR
  have g1 := rg_passedMany hR
  rw [a_enter1 (M := a_m240) rfl (a_cat_rf (a_cat_int a_cat_nil)) (show 2 ≤ 2 by decide)]
  show a_at _ (a_xm a_m240) 0 [some (a_rf M), some (.int w)] [] _ _
  repeat' first
    | with_reducible apply And.intro
    | with_reducible assumption
    | with_reducible intro _
    | with_reducible apply hP
    | with_reducible apply mQ_ui
    | with_reducible apply mQ_C
    | simp only [q240_0, q240_1, q240_2, q240_5, q240_6, q240_8, q240_11, q240_12, q240_13, q240_14, q240_17, q240_18, q240_21, q240_24, q240_25, q240_26, q240_29, q240_32, q240_33, q240_36, q240_37, q240_38, q240_41, q240_43, m_0 hS, m_K hS, mR_passedAsk hS, mK_passedAsk hS, mL_passedAsk hS, sp_refuse_1 hS, sp_refuse_2 hS, sp_refuse_3 hS, sp_refuse_4 hS, sp_refuse_5 hS, sp_refuse_6 hS, as_nil, as_i, as_r, Nat.reduceAdd, Nat.reduceLeDiff, z_eq0, z_eq1, z_or, z_em, Classical.not_not, not_false_eq_true, not_true_eq_false, true_and, and_true, false_and, and_false, and_self, true_implies, false_implies, implies_true, Option.toList_some, Option.toList_none, List.cons_append, List.nil_append, Nat.add_eq_zero_iff, a_nl_i, a_nl_r, a_nl_n, true_or, or_true, eq_self, ok_4, ok_5, ok_6, ok_7, ok_9, ok_10, ok_20, ok_21, ok_24, ok_30, ok_48, ok_50, ok_60, ok_80, ok_120, ok_180, ok_192, ok_200, ok_900, ok_1000, ok_84000, a_sw, ti_0, ti_1, ti_2, ti_3, ti_4, ti_5, ti_6, ti_7, ti_8, ti_9, ti_10, ti_11, ti_12, ti_13, ti_14, ti_15, ti_16, ti_17, ti_18, ti_19, ti_98, ti_99, ti_100, ti_101, ti_102, ti_103, ti_104, ti_105, ti_106, ti_107, ti_108, ti_109, ti_110, ti_111, ti_112, ti_113, ti_114, ti_115, ti_116]
  all_goals grind [ui_ap]
theorem xq_had (hS : m_S M K L R) (hR : mR M I) {b s k : Int32} (hP : ∀ v J, mQ M I J → P (some (.int v)) (n, t, K, L, J, R)) : a_does (d + 16) 256 [a_rf M, .int b, .int s, .int k] (n, t, K, L, I, R) P := by
  have g3 := mC_refl hR
  have hQ0 : mQ M I I := mQ_refl hR
  rw [a_enter1 (M := a_m256) rfl (a_cat_rf (a_cat_int (a_cat_int (a_cat_int a_cat_nil)))) (show 4 ≤ 4 by decide)]
  show a_at _ (a_xm a_m256) 0 [some (a_rf M), some (.int b), some (.int s), some (.int k)] [] _ _
  repeat' first
    | with_reducible apply And.intro
    | with_reducible assumption
    | with_reducible intro _
    | with_reducible apply hP
    | with_reducible apply mQ_ui
    | with_reducible apply mQ_C
    | with_reducible apply ct_hadAt hS hR
    | simp only [q256_0, q256_1, q256_2, q256_5, q256_8, q256_9, q256_12, q256_15, q256_16, q256_17, q256_20, q256_21, q256_22, q256_25, q256_26, q256_28, q256_31, q256_32, q256_33, q256_34, q256_37, q256_40, q256_41, q256_43, q256_46, q256_49, q256_50, q256_51, q256_52, q256_53, q256_56, m_0 hS, m_K hS, sp_isBench hS, sp_isShift, sp_refuse_1 hS, sp_refuse_2 hS, sp_refuse_3 hS, sp_refuse_4 hS, sp_refuse_5 hS, sp_refuse_6 hS, as_nil, as_i, as_r, Nat.reduceAdd, Nat.reduceLeDiff, z_eq0, z_eq1, z_or, z_em, Classical.not_not, not_false_eq_true, not_true_eq_false, true_and, and_true, false_and, and_false, and_self, true_implies, false_implies, implies_true, Option.toList_some, Option.toList_none, List.cons_append, List.nil_append, Nat.add_eq_zero_iff, a_nl_i, a_nl_r, a_nl_n, true_or, or_true, eq_self, ok_4, ok_5, ok_6, ok_7, ok_9, ok_10, ok_20, ok_21, ok_24, ok_30, ok_48, ok_50, ok_60, ok_80, ok_120, ok_180, ok_192, ok_200, ok_900, ok_1000, ok_84000, a_sw, ti_0, ti_1, ti_2, ti_3, ti_4, ti_5, ti_6, ti_7, ti_8, ti_9, ti_10, ti_11, ti_12, ti_13, ti_14, ti_15, ti_16, ti_17, ti_18, ti_19, ti_98, ti_99, ti_100, ti_101, ti_102, ti_103, ti_104, ti_105, ti_106, ti_107, ti_108, ti_109, ti_110, ti_111, ti_112, ti_113, ti_114, ti_115, ti_116]
  all_goals grind [ui_ap]
theorem xq_shiftOf (hS : m_S M K L R) (hR : mR M I) {s w k : Int32} (hP : ∀ v J, mQ M I J → P (some (.int v)) (n, t, K, L, J, R)) : a_does (d + 16) 176 [a_rf M, .int s, .int w, .int k] (n, t, K, L, I, R) P := by
  have g3 := mC_refl hR
  have hQ0 : mQ M I I := mQ_refl hR
  rw [a_enter1 (M := a_m176) rfl (a_cat_rf (a_cat_int (a_cat_int (a_cat_int a_cat_nil)))) (show 4 ≤ 4 by decide)]
  show a_at _ (a_xm a_m176) 0 [some (a_rf M), some (.int s), some (.int w), some (.int k)] [] _ _
  repeat' first
    | with_reducible apply And.intro
    | with_reducible assumption
    | with_reducible intro _
    | with_reducible apply hP
    | with_reducible apply mQ_ui
    | with_reducible apply mQ_C
    | with_reducible apply ct_lostIn hS hR
    | simp only [q176_0, q176_1, q176_4, q176_7, q176_8, q176_9, q176_12, q176_13, q176_14, q176_15, q176_16, q176_19, q176_22, q176_23, q176_25, q176_28, q176_29, q176_30, q176_33, q176_34, q176_36, q176_39, q176_40, q176_41, q176_42, q176_45, q176_48, q176_49, q176_51, q176_54, q176_55, q176_56, q176_59, q176_60, q176_63, q176_64, q176_65, q176_68, q176_69, q176_70, q176_71, q176_74, m_0 hS, m_K hS, mR_modes hS, mK_modes hS, mL_modes hS, sp_isShift, sp_refuse_1 hS, sp_refuse_2 hS, sp_refuse_3 hS, sp_refuse_4 hS, sp_refuse_5 hS, sp_refuse_6 hS, sp_in, as_nil, as_i, as_r, Nat.reduceAdd, Nat.reduceLeDiff, z_eq0, z_eq1, z_or, z_em, Classical.not_not, not_false_eq_true, not_true_eq_false, true_and, and_true, false_and, and_false, and_self, true_implies, false_implies, implies_true, Option.toList_some, Option.toList_none, List.cons_append, List.nil_append, Nat.add_eq_zero_iff, a_nl_i, a_nl_r, a_nl_n, true_or, or_true, eq_self, ok_4, ok_5, ok_6, ok_7, ok_9, ok_10, ok_20, ok_21, ok_24, ok_30, ok_48, ok_50, ok_60, ok_80, ok_120, ok_180, ok_192, ok_200, ok_900, ok_1000, ok_84000, a_sw, ti_0, ti_1, ti_2, ti_3, ti_4, ti_5, ti_6, ti_7, ti_8, ti_9, ti_10, ti_11, ti_12, ti_13, ti_14, ti_15, ti_16, ti_17, ti_18, ti_19, ti_98, ti_99, ti_100, ti_101, ti_102, ti_103, ti_104, ti_105, ti_106, ti_107, ti_108, ti_109, ti_110, ti_111, ti_112, ti_113, ti_114, ti_115, ti_116]
  all_goals grind [ui_ap]
theorem xq_hosts (hS : m_S M K L R) (hR : mR M I) {b s : Int32} (hP : ∀ v J, mQ M I J → P (some (.int v)) (n, t, K, L, J, R)) : a_does (d + 16) 245 [a_rf M, .int b, .int s] (n, t, K, L, I, R) P := by
  have g3 := mC_refl hR
  have hQ0 : mQ M I I := mQ_refl hR
  have g1 := rg_benches hR
  rw [a_enter1 (M := a_m245) rfl (a_cat_rf (a_cat_int (a_cat_int a_cat_nil))) (show 3 ≤ 5 by decide)]
  show a_at _ (a_xm a_m245) 0 [some (a_rf M), some (.int b), some (.int s), none, none] [] _ _
  repeat' first
    | with_reducible apply And.intro
    | with_reducible assumption
    | with_reducible intro _
    | with_reducible apply hP
    | with_reducible apply mQ_ui
    | with_reducible apply mQ_C
    | with_reducible apply lp_hosts_26 hS hR
    | simp only [q245_0, q245_1, q245_2, q245_5, q245_8, q245_9, q245_12, q245_15, q245_16, q245_17, q245_20, q245_21, q245_22, q245_23, q245_24, m_0 hS, m_K hS, sp_isBench hS, sp_isShift, sp_refuse_1 hS, sp_refuse_2 hS, sp_refuse_3 hS, sp_refuse_4 hS, sp_refuse_5 hS, sp_refuse_6 hS, as_nil, as_i, as_r, Nat.reduceAdd, Nat.reduceLeDiff, z_eq0, z_eq1, z_or, z_em, Classical.not_not, not_false_eq_true, not_true_eq_false, true_and, and_true, false_and, and_false, and_self, true_implies, false_implies, implies_true, Option.toList_some, Option.toList_none, List.cons_append, List.nil_append, Nat.add_eq_zero_iff, a_nl_i, a_nl_r, a_nl_n, true_or, or_true, eq_self, ok_4, ok_5, ok_6, ok_7, ok_9, ok_10, ok_20, ok_21, ok_24, ok_30, ok_48, ok_50, ok_60, ok_80, ok_120, ok_180, ok_192, ok_200, ok_900, ok_1000, ok_84000, a_sw, ti_0, ti_1, ti_2, ti_3, ti_4, ti_5, ti_6, ti_7, ti_8, ti_9, ti_10, ti_11, ti_12, ti_13, ti_14, ti_15, ti_16, ti_17, ti_18, ti_19, ti_98, ti_99, ti_100, ti_101, ti_102, ti_103, ti_104, ti_105, ti_106, ti_107, ti_108, ti_109, ti_110, ti_111, ti_112, ti_113, ti_114, ti_115, ti_116]
  all_goals grind [ui_ap]
theorem xq_count (hS : m_S M K L R) (hR : mR M I) {w : Int32} (hP : ∀ v J, mQ M I J → P (some (.int v)) (n, t, K, L, J, R)) : a_does (d + 16) 261 [a_rf M, .int w] (n, t, K, L, I, R) P := by
  have g3 := mC_refl hR
  have hQ0 : mQ M I I := mQ_refl hR
  rw [a_enter1 (M := a_m261) rfl (a_cat_rf (a_cat_int a_cat_nil)) (show 2 ≤ 4 by decide)]
  show a_at _ (a_xm a_m261) 0 [some (a_rf M), some (.int w), none, none] [] _ _
  repeat' first
    | with_reducible apply And.intro
    | with_reducible assumption
    | with_reducible intro _
    | with_reducible apply hP
    | with_reducible apply mQ_ui
    | with_reducible apply mQ_C
    | with_reducible apply lp_count_69 hS hR
    | with_reducible apply lp_count_113 hS hR
    | simp only [q261_0, q261_1, q261_2, q261_3, q261_52, q261_53, q261_56, q261_57, q261_58, q261_61, q261_62, q261_63, q261_66, q261_67, q261_68, q261_101, q261_102, q261_105, q261_106, q261_107, q261_110, q261_111, q261_112, q261_150, q261_151, q261_154, q261_155, q261_156, q261_159, q261_160, q261_161, q261_163, q261_165, q261_168, q261_171, q261_172, q261_175, q261_176, q261_178, q261_179, q261_180, q261_183, q261_185, m_0 hS, m_K hS, mR_refused hS, mK_refused hS, mL_refused hS, sp_in, as_nil, as_i, as_r, Nat.reduceAdd, Nat.reduceLeDiff, z_eq0, z_eq1, z_or, z_em, Classical.not_not, not_false_eq_true, not_true_eq_false, true_and, and_true, false_and, and_false, and_self, true_implies, false_implies, implies_true, Option.toList_some, Option.toList_none, List.cons_append, List.nil_append, Nat.add_eq_zero_iff, a_nl_i, a_nl_r, a_nl_n, true_or, or_true, eq_self, ok_4, ok_5, ok_6, ok_7, ok_9, ok_10, ok_20, ok_21, ok_24, ok_30, ok_48, ok_50, ok_60, ok_80, ok_120, ok_180, ok_192, ok_200, ok_900, ok_1000, ok_84000, a_sw, ti_0, ti_1, ti_2, ti_3, ti_4, ti_5, ti_6, ti_7, ti_8, ti_9, ti_10, ti_11, ti_12, ti_13, ti_14, ti_15, ti_16, ti_17, ti_18, ti_19, ti_98, ti_99, ti_100, ti_101, ti_102, ti_103, ti_104, ti_105, ti_106, ti_107, ti_108, ti_109, ti_110, ti_111, ti_112, ti_113, ti_114, ti_115, ti_116]
  all_goals grind [ui_ap]
theorem xq_lead (hS : m_S M K L R) (hR : mR M I) {b s : Int32} (hP : ∀ v J, mQ M I J → P (some (.int v)) (n, t, K, L, J, R)) : a_does (d + 16) 258 [a_rf M, .int b, .int s] (n, t, K, L, I, R) P := by
  have g3 := mC_refl hR
  have hQ0 : mQ M I I := mQ_refl hR
  rw [a_enter1 (M := a_m258) rfl (a_cat_rf (a_cat_int (a_cat_int a_cat_nil))) (show 3 ≤ 5 by decide)]
  show a_at _ (a_xm a_m258) 0 [some (a_rf M), some (.int b), some (.int s), none, none] [] _ _
  repeat' first
    | with_reducible apply And.intro
    | with_reducible assumption
    | with_reducible intro _
    | with_reducible apply hP
    | with_reducible apply mQ_ui
    | with_reducible apply mQ_C
    | with_reducible apply lp_lead_27 hS hR
    | simp only [q258_0, q258_1, q258_2, q258_5, q258_8, q258_9, q258_12, q258_15, q258_16, q258_17, q258_20, q258_21, q258_23, q258_24, q258_25, m_0 hS, m_K hS, sp_isBench hS, sp_isShift, sp_refuse_1 hS, sp_refuse_2 hS, sp_refuse_3 hS, sp_refuse_4 hS, sp_refuse_5 hS, sp_refuse_6 hS, as_nil, as_i, as_r, Nat.reduceAdd, Nat.reduceLeDiff, z_eq0, z_eq1, z_or, z_em, Classical.not_not, not_false_eq_true, not_true_eq_false, true_and, and_true, false_and, and_false, and_self, true_implies, false_implies, implies_true, Option.toList_some, Option.toList_none, List.cons_append, List.nil_append, Nat.add_eq_zero_iff, a_nl_i, a_nl_r, a_nl_n, true_or, or_true, eq_self, ok_4, ok_5, ok_6, ok_7, ok_9, ok_10, ok_20, ok_21, ok_24, ok_30, ok_48, ok_50, ok_60, ok_80, ok_120, ok_180, ok_192, ok_200, ok_900, ok_1000, ok_84000, a_sw, ti_0, ti_1, ti_2, ti_3, ti_4, ti_5, ti_6, ti_7, ti_8, ti_9, ti_10, ti_11, ti_12, ti_13, ti_14, ti_15, ti_16, ti_17, ti_18, ti_19, ti_98, ti_99, ti_100, ti_101, ti_102, ti_103, ti_104, ti_105, ti_106, ti_107, ti_108, ti_109, ti_110, ti_111, ti_112, ti_113, ti_114, ti_115, ti_116]
  all_goals grind [ui_ap]
end ZP1
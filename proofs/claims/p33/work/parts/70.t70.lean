/-! set -/
section ZD0
variable {d n t C c n0 n' n'' t' : Nat} {K L K0 L0 K' L' K'' L'' : Nat → Nat} {I I0 J J0 J1 J2 : Nat → Nat → Int32} {R R0 R' R'' : Nat → Nat → Nat} {P : Option Value → AH → Prop}
variable {Y Z : Nat → Nat → Int32}
theorem ce_changeScaled (hT : cT C K L I R) {v : Int32} (hA : akP C K I R Z) (hm : cmP C I Z) (hY : mkP Z) (hs : v = Z 0 11) (hP : ∀ J, cT C K L J R → frM C K R Z (a_ui I (C + 17) 5 v) J → mrP C J R Z → P (some (.int (I (C + 17) 5))) (n, t, K, L, J, R)) : a_does (d + 5) 26 [a_rf (C + 17), .int v] (n, t, K, L, I, R) P := by
  have hS := hT.s
  have hA2 : akP C K (a_ui I (C + 17) 5 v) R Z := fun i i0 i1 => by
    obtain ⟨k1, k2, k3⟩ := hA i i0 i1
    have := (hT.g_ask _ k1).1
    exact ⟨k1, k2, by rw [ui_ap, if_neg (by omega)]; exact k3⟩
  have hm2 : cmP C (a_ui I (C + 17) 5 v) Z := ⟨fun k hk => by rw [ui_ap, if_neg (by omega)]; exact hm.1 k hk, by rw [ui_ap, if_neg (by omega)]; exact hm.2⟩
  have hcl : a_does (d + 4) 27 [a_rf (C + 17)] (n, t, K, L, (a_ui I (C + 17) 5 v), R) (fun r h' => a_at (d + 4) (a_xm a_m26) 14 [some (a_rf (C + 17)), some (.int v), some (.int (I (C + 17) 5))] (r.toList ++ []) h' P) := by
    refine ce_reckonMarks (sT_Panel_scaled hT) hA2 hm2 hY (by rw [ui_ap, if_pos ⟨rfl, rfl⟩]; exact hs) (fun J g1 g2 g3 => ?_)
    have hp := hP J g1 g2 g3
    clear hP hA hm hY hA2 hm2 g2 g3
    simp only [q26_14, q26_15, as_nil, as_i, as_r, Nat.reduceAdd, Nat.reduceLeDiff, z_eq0, z_eq1, z_or, z_em, Classical.not_not, not_false_eq_true, not_true_eq_false, true_and, and_true, false_and, and_false, and_self, true_implies, false_implies, implies_true, Option.toList_some, Option.toList_none, List.cons_append, List.nil_append, Nat.add_eq_zero_iff, a_nl_i, a_nl_r, a_nl_n, true_or, or_true, eq_self, a_isRA_22, a_isRA_24, a_isRA_32, a_isA_20, ok_4, ok_5, ok_6, ok_7, ok_9, ok_20, ok_21, ok_30, ok_50, ok_180, ok_192, ok_200]
    exact hp
  clear hP hA hm hY hA2 hm2
  rw [a_enter1 (M := a_m26) rfl (a_cat_rf (a_cat_int a_cat_nil)) (show 2 ≤ 3 by decide)]
  show a_at _ (a_xm a_m26) 0 [some (a_rf (C + 17)), some (.int v), none] [] _ _
  simp only [q26_0, q26_1, q26_4, q26_5, q26_6, q26_7, q26_10, q26_11, k_17 hS, z_17, as_nil, as_i, as_r, Nat.reduceAdd, Nat.reduceLeDiff, z_eq0, z_eq1, z_or, z_em, Classical.not_not, not_false_eq_true, not_true_eq_false, true_and, and_true, false_and, and_false, and_self, true_implies, false_implies, implies_true, Option.toList_some, Option.toList_none, List.cons_append, List.nil_append, Nat.add_eq_zero_iff, a_nl_i, a_nl_r, a_nl_n, true_or, or_true, eq_self, a_isRA_22, a_isRA_24, a_isRA_32, a_isA_20, ok_4, ok_5, ok_6, ok_7, ok_9, ok_20, ok_21, ok_30, ok_50, ok_180, ok_192, ok_200, ui_ap, cc_ne, cc_n0, cc_0n, Nat.reduceEqDiff, reduceIte, if_true, if_false]
  exact hcl
theorem ky_set {v : Int32} (h511 : v = Z 0 11) (hA : akP C K I R Z) (hm : cmP C I Z) (hY : mkP Z) (hH : cH C c (n + 1) t K L I R) {w : Int32} (h0 : ¬ (0 ≤ w ∧ w ≤ 2) → ∀ J, rfQ C c (n + 1) t K L I R J → P (some (.int (-2))) (n + 1, t, K, L, J, R)) (h1 : (0 ≤ w ∧ w ≤ 2) → v < 0 → ∀ J, rfQ C c (n + 1) t K L I R J → P (some (.int (-4))) (n + 1, t, K, L, J, R)) (h2 : (0 ≤ w ∧ w ≤ 2) → ¬ v < 0 → ((w = 0 ∧ 3 < v) ∨ (w = 1 ∧ 100 < v) ∨ (w = 2 ∧ 1 < v)) → ∀ J, rfQ C c (n + 1) t K L I R J → P (some (.int (-6))) (n + 1, t, K, L, J, R)) (h3 : w = 0 → ¬ v < 0 → ¬ 3 < v → cT C K L (a_ui I (C + 14) 6 v) R → P (some (.int (I (C + 14) 6))) (n + 1, t, K, L, (a_ui I (C + 14) 6 v), R)) (h4 : w = 1 → ¬ v < 0 → ¬ 100 < v → cT C K L (a_ui I (C + 22) 8 v) R → P (some (.int (I (C + 22) 8))) (n + 1, t, K, L, (a_ui I (C + 22) 8 v), R)) (h5 : w = 2 → ¬ v < 0 → ¬ 1 < v → ∀ J, cT C K L J R → frM C K R Z (a_ui I (C + 17) 5 v) J → mrP C J R Z → P (some (.int (I (C + 17) 5))) (n + 1, t, K, L, J, R)) : a_does (d + 70) 23 [a_rf C, .int w, .int v] (n + 1, t, K, L, I, R) P := by
  have hT := hH.1
  have hS := hT.s
  have hZ := cZ_refl hH
  have hr : w = 0 → 0 ≤ v → v ≤ 3 → ∀ u, a_at (d + 69) (a_xm a_m23) 63 [some (a_rf C), some (.int w), some (.int v), u] [] (n + 1, t, K, L, I, R) P := fun hw a b u => by
    have hP := h3 hw (Int32.not_lt.mpr a) (Int32.not_lt.mpr b) (sT_Hall_rest hT ⟨a, b⟩)
    simp only [q23_63, q23_64, q23_67, q23_68, k_0 hS, z_C hS, r_0_4 hS, k_14 hS, z_14, as_nil, as_i, as_r, Nat.reduceAdd, Nat.reduceLeDiff, z_eq0, z_eq1, z_or, z_em, Classical.not_not, not_false_eq_true, not_true_eq_false, true_and, and_true, false_and, and_false, and_self, true_implies, false_implies, implies_true, Option.toList_some, Option.toList_none, List.cons_append, List.nil_append, Nat.add_eq_zero_iff, a_nl_i, a_nl_r, a_nl_n, true_or, or_true, eq_self, a_isRA_22, a_isRA_24, a_isRA_32, a_isA_20, ok_4, ok_5, ok_6, ok_7, ok_9, ok_20, ok_21, ok_30, ok_50, ok_180, ok_192, ok_200]
    rw [a_enter1 (M := a_m24) rfl (a_cat_rf (a_cat_int a_cat_nil)) (show 2 ≤ 3 by decide)]
    show a_at _ (a_xm a_m24) 0 [some (a_rf (C + 14)), some (.int v), none] [] _ _
    simp only [q24_0, q24_1, q24_4, q24_5, q24_6, q24_7, q24_10, q24_11, k_14 hS, z_14, as_nil, as_i, as_r, Nat.reduceAdd, Nat.reduceLeDiff, z_eq0, z_eq1, z_or, z_em, Classical.not_not, not_false_eq_true, not_true_eq_false, true_and, and_true, false_and, and_false, and_self, true_implies, false_implies, implies_true, Option.toList_some, Option.toList_none, List.cons_append, List.nil_append, Nat.add_eq_zero_iff, a_nl_i, a_nl_r, a_nl_n, true_or, or_true, eq_self, a_isRA_22, a_isRA_24, a_isRA_32, a_isA_20, ok_4, ok_5, ok_6, ok_7, ok_9, ok_20, ok_21, ok_30, ok_50, ok_180, ok_192, ok_200, ui_ap, cc_ne, cc_n0, cc_0n, Nat.reduceEqDiff, reduceIte, if_true, if_false, q23_71]
    exact hP
  have hs : w = 1 → 0 ≤ v → v ≤ 100 → ∀ u, a_at (d + 69) (a_xm a_m23) 77 [some (a_rf C), some (.int w), some (.int v), u] [] (n + 1, t, K, L, I, R) P := fun hw a b u => by
    have hP := h4 hw (Int32.not_lt.mpr a) (Int32.not_lt.mpr b) (sT_Planner_share hT)
    simp only [q23_77, q23_78, q23_81, q23_82, k_0 hS, z_C hS, r_0_5 hS, k_22 hS, z_22, as_nil, as_i, as_r, Nat.reduceAdd, Nat.reduceLeDiff, z_eq0, z_eq1, z_or, z_em, Classical.not_not, not_false_eq_true, not_true_eq_false, true_and, and_true, false_and, and_false, and_self, true_implies, false_implies, implies_true, Option.toList_some, Option.toList_none, List.cons_append, List.nil_append, Nat.add_eq_zero_iff, a_nl_i, a_nl_r, a_nl_n, true_or, or_true, eq_self, a_isRA_22, a_isRA_24, a_isRA_32, a_isA_20, ok_4, ok_5, ok_6, ok_7, ok_9, ok_20, ok_21, ok_30, ok_50, ok_180, ok_192, ok_200]
    rw [a_enter1 (M := a_m25) rfl (a_cat_rf (a_cat_int a_cat_nil)) (show 2 ≤ 3 by decide)]
    show a_at _ (a_xm a_m25) 0 [some (a_rf (C + 22)), some (.int v), none] [] _ _
    simp only [q25_0, q25_1, q25_4, q25_5, q25_6, q25_7, q25_10, q25_11, k_22 hS, z_22, as_nil, as_i, as_r, Nat.reduceAdd, Nat.reduceLeDiff, z_eq0, z_eq1, z_or, z_em, Classical.not_not, not_false_eq_true, not_true_eq_false, true_and, and_true, false_and, and_false, and_self, true_implies, false_implies, implies_true, Option.toList_some, Option.toList_none, List.cons_append, List.nil_append, Nat.add_eq_zero_iff, a_nl_i, a_nl_r, a_nl_n, true_or, or_true, eq_self, a_isRA_22, a_isRA_24, a_isRA_32, a_isA_20, ok_4, ok_5, ok_6, ok_7, ok_9, ok_20, ok_21, ok_30, ok_50, ok_180, ok_192, ok_200, ui_ap, cc_ne, cc_n0, cc_0n, Nat.reduceEqDiff, reduceIte, if_true, if_false, q23_85, q23_88, q23_89, q23_92, q23_93, q23_96, k_0 hS, z_C hS, r_0_3 hS, k_17 hS, z_17]
    exact hP
  have hc : 0 ≤ w → w ≤ 2 → ¬ w = 0 → ¬ w = 1 → 0 ≤ v → v ≤ 1 → ∀ u, a_at (d + 69) (a_xm a_m23) 88 [some (a_rf C), some (.int w), some (.int v), u] [] (n + 1, t, K, L, I, R) P := fun w0 w2 n0 n1 a b u => by
    have hs11 : v = Z 0 11 := h511
    have hP := h5 (by clear h0 h1 h2 h3 h4 h5 hr hs hZ hH hT hS hA hm hY hs11 h511; grind) (Int32.not_lt.mpr a) (Int32.not_lt.mpr b)
    simp only [q23_88, q23_89, q23_92, q23_93, k_0 hS, z_C hS, r_0_3 hS, k_17 hS, z_17, as_nil, as_i, as_r, Nat.reduceAdd, Nat.reduceLeDiff, z_eq0, z_eq1, z_or, z_em, Classical.not_not, not_false_eq_true, not_true_eq_false, true_and, and_true, false_and, and_false, and_self, true_implies, false_implies, implies_true, Option.toList_some, Option.toList_none, List.cons_append, List.nil_append, Nat.add_eq_zero_iff, a_nl_i, a_nl_r, a_nl_n, true_or, or_true, eq_self, a_isRA_22, a_isRA_24, a_isRA_32, a_isA_20, ok_4, ok_5, ok_6, ok_7, ok_9, ok_20, ok_21, ok_30, ok_50, ok_180, ok_192, ok_200]
    refine ce_changeScaled hT hA hm hY hs11 (fun J g g2 g3 => ?_)
    simp only [q23_96, as_nil, as_i, as_r, Nat.reduceAdd, Nat.reduceLeDiff, z_eq0, z_eq1, z_or, z_em, Classical.not_not, not_false_eq_true, not_true_eq_false, true_and, and_true, false_and, and_false, and_self, true_implies, false_implies, implies_true, Option.toList_some, Option.toList_none, List.cons_append, List.nil_append, Nat.add_eq_zero_iff, a_nl_i, a_nl_r, a_nl_n, true_or, or_true, eq_self, a_isRA_22, a_isRA_24, a_isRA_32, a_isA_20, ok_4, ok_5, ok_6, ok_7, ok_9, ok_20, ok_21, ok_30, ok_50, ok_180, ok_192, ok_200]
    exact hP J g g2 g3
  have q0 : ∀ {m : Int32}, ¬ v ≤ m → m < v := fun h => Int32.not_le.mp h
  have hr0 : w < 0 → ∀ J, rfQ C c (n + 1) t K L I R J → P (some (.int (-2))) (n + 1, t, K, L, J, R) := fun a J z => h0 (fun e => absurd a (Int32.not_lt.mpr e.1)) J z
  have hr0b : ¬ w ≤ 2 → ∀ J, rfQ C c (n + 1) t K L I R J → P (some (.int (-2))) (n + 1, t, K, L, J, R) := fun a J z => h0 (fun e => a e.2) J z
  have hr1 : ¬ w < 0 → w ≤ 2 → ¬ 0 ≤ v → ∀ J, rfQ C c (n + 1) t K L I R J → P (some (.int (-4))) (n + 1, t, K, L, J, R) := fun a b c1 J z => h1 ⟨Int32.not_lt.mp a, b⟩ (Int32.not_le.mp c1) J z
  have hr2 : ¬ w < 0 → w ≤ 2 → 0 ≤ v → ∀ m : Int32, ¬ v ≤ m → ((w = 0 ∧ m = 3) ∨ (w = 1 ∧ m = 100) ∨ (¬ w = 0 ∧ ¬ w = 1 ∧ m = 1)) → ∀ J, rfQ C c (n + 1) t K L I R J → P (some (.int (-6))) (n + 1, t, K, L, J, R) := fun a b c1 m e1 e2 J z => h2 ⟨Int32.not_lt.mp a, b⟩ (Int32.not_lt.mpr c1) (by clear h0 h1 h2 h3 h4 h5 hr hs hc hr0 hr0b hr1 hZ hH hT hS; grind) J z
  rw [a_enter1 (M := a_m23) rfl (a_cat_rf (a_cat_int (a_cat_int a_cat_nil))) (show 3 ≤ 4 by decide)]
  show a_at _ (a_xm a_m23) 0 [some (a_rf C), some (.int w), some (.int v), none] [] _ _
  repeat' first
    | with_reducible apply And.intro
    | with_reducible assumption
    | with_reducible intro _
    | contradiction
    | refine cr_refuse hH (fun _ _ => ?_)
    | exact hr0 (by assumption) _ (by assumption)
    | exact hr0b (by assumption) _ (by assumption)
    | exact hr1 (by assumption) (by assumption) (by assumption) _ (by assumption)
    | exact hr2 (by assumption) (by assumption) (by assumption) 3 (by assumption) (Or.inl ⟨by assumption, rfl⟩) _ (by assumption)
    | exact hr2 (by assumption) (by assumption) (by assumption) 100 (by assumption) (Or.inr (Or.inl ⟨by assumption, rfl⟩)) _ (by assumption)
    | exact hr2 (by assumption) (by assumption) (by assumption) 1 (by assumption) (Or.inr (Or.inr ⟨by assumption, by assumption, rfl⟩)) _ (by assumption)
    | exact hr (by assumption) (by assumption) (by assumption) _
    | exact hs (by assumption) (by assumption) (by assumption) _
    | exact hc (Int32.not_lt.mp (by assumption)) (by assumption) (by assumption) (by assumption) (by assumption) (by assumption) _
    | simp only [q23_0, q23_1, q23_4, q23_5, q23_6, q23_9, q23_10, q23_12, q23_15, q23_16, q23_17, q23_20, q23_21, q23_23, q23_26, q23_27, q23_28, q23_31, q23_32, q23_35, q23_36, q23_37, q23_40, q23_42, q23_45, q23_46, q23_47, q23_48, q23_49, q23_52, q23_53, q23_55, q23_58, q23_59, q23_60, q23_72, q23_73, q23_74, k_0 hS, z_C hS, as_nil, as_i, as_r, Nat.reduceAdd, Nat.reduceLeDiff, z_eq0, z_eq1, z_or, z_em, Classical.not_not, not_false_eq_true, not_true_eq_false, true_and, and_true, false_and, and_false, and_self, true_implies, false_implies, implies_true, Option.toList_some, Option.toList_none, List.cons_append, List.nil_append, Nat.add_eq_zero_iff, a_nl_i, a_nl_r, a_nl_n, true_or, or_true, eq_self, a_isRA_22, a_isRA_24, a_isRA_32, a_isA_20, ok_4, ok_5, ok_6, ok_7, ok_9, ok_20, ok_21, ok_30, ok_50, ok_180, ok_192, ok_200]
  all_goals ((try clear hr); (try clear hs); (try clear hc); (try clear hr0); (try clear hr0b); (try clear hr1); (try clear hr2); (try clear hgo); (try clear hr); (try clear hs); (try clear hc); (try clear h0); (try clear h1); (try clear h2); (try clear h3); (try clear h4); (try clear h5); (try clear hP); (try clear hZ); (try clear hH); (try clear hT); (try clear hS); grind [ui_ap])
end ZD0
section ZD1
variable {d n t C c : Nat} {K L : Nat → Nat} {I I0 J J0 J1 J2 : Nat → Nat → Int32} {R : Nat → Nat → Nat} {P : Option Value → AH → Prop}
variable {Y Z W : Nat → Nat → Int32} {R' R1 : Nat → Nat → Nat} {K' L' : Nat → Nat}
def seY (Y : Nat → Nat → Int32) (w v : Int32) : Nat → Nat → Int32 := if ¬ (0 ≤ w ∧ w ≤ 2) ∨ v < 0 ∨ ((w = 0 ∧ 3 < v) ∨ (w = 1 ∧ 100 < v) ∨ (w = 2 ∧ 1 < v)) then Y else if w = 0 then upY Y 0 9 v else if w = 1 then upY Y 0 10 v else upY Y 0 11 v
/-- marks reckoned anew: the rest stays -/
theorem cu_mks {m : Nat} (hH : cH C c m t K L I R) (hu : cuP C K L I R Y) (hTJ : cT C K L J R) {I1 : Nat → Nat → Int32} (hF : frM C K R Y I1 J) (hJ1 : ∀ x j, C + 43 < x → I1 x j = I x j) : (∀ x j, K x = 1 → ¬ j = 12 → J x j = I x j) ∧ (∀ x j, (K x = 3 ∨ K x = 11 ∨ (C + 96 < x ∧ K x = 20)) → J x j = I x j) ∧ (∀ k j, k ≤ 43 → ¬ k = 21 → J (C + k) j = I1 (C + k) j) ∧ (¬ R C 11 = 0 → J (R C 11) 12 = I (R C 11) 12) := by
  have hT := hH.1
  have hn : ∀ k, k ≤ 43 → ¬ K (C + k) = 1 := fun k hk e => by
    have := (hT.g_ask _ e).1
    omega
  refine ⟨fun x j kx hj => ?_, fun x j kx => ?_, fun k j hk h21 => hF _ _ (by omega) (fun q => hn k hk q.1.1), fun hd => ?_⟩
  · have := (hT.g_ask x kx).1
    rw [hF _ _ (by omega) (fun q => hj q.1.2), hJ1 _ _ (by omega)]
  · have h43 : C + 43 < x := by
      rcases kx with kx | kx | kx
      · have := (hT.g_bnc x kx).1
        omega
      · have := (hT.g_txt x kx).1
        omega
      · omega
    rw [hF _ _ (by omega) (fun q => ?_), hJ1 _ _ h43]
    have := q.1.1
    rcases kx with kx | kx | kx
    · rw [kx] at this; cases this
    · rw [kx] at this; cases this
    · rw [kx.2] at this; cases this
  · obtain ⟨e1, -, -, e4⟩ := hu.2.2.1.2.2.1.2 hd
    have := (hT.g_ask _ e1).1
    rw [hF _ _ (by omega) (fun q => ?_), hJ1 _ _ (by omega)]
    obtain ⟨i, i0, i1, e⟩ := q.2
    exact e4 i i0 i1 e
theorem ge_set (hH : cH C c (n + 1) t K L I R) (hu : cuP C K L I R Y) {w v : Int32} (hP : ∀ u n' t' K' L' J R', cH C c (n' + 1) t' K' L' J R' → cuP C K' L' J R' (seY Y w v) → P (some (.int u)) (n' + 1, t', K', L', J, R')) : a_does (d + 70) 23 [a_rf C, .int w, .int v] (n + 1, t, K, L, I, R) P := by
  have hT := hH.1
  have hS := hT.s
  have hc := hu.1
  have hz : ∀ q : Nat, (q = 9 ∨ q = 10 ∨ q = 11) → ∀ k j, ¬ (k = 0 ∧ j = q) → upY Y 0 q v k j = Y k j := fun q _ k j hk => up_no hk
  have hA : akP C K I R (upY Y 0 11 v) := fun i i0 i1 => hc.2.2.1.2.1 i i0 (by rw [hz 11 (by omega) 0 17 (by omega)] at i1; exact i1)
  have hm : cmP C I (upY Y 0 11 v) := ⟨fun k hk => by rw [hz 11 (by omega) 38 _ (by omega), hz 11 (by omega) 36 _ (by omega)]; exact hu.2.2.1.1.2.1 k hk, by rw [hz 11 (by omega) 0 17 (by omega)]; exact hc.2.2.1.1⟩
  have hY : mkP (upY Y 0 11 v) := fun k q => by
    rw [hz 11 (by omega) 38 _ (by omega)] at q
    rw [hz 11 (by omega) 36 _ (by omega)]
    exact hc.2.2.2.2.2.2.2.2.2.2.2.1 k q
  unfold seY at hP
  refine ky_set (Z := upY Y 0 11 v) up_at.symm hA hm hY hH (fun q J z => ?_) (fun q q2 J z => ?_) (fun q q2 q3 J z => ?_) (fun q q2 q3 g => ?_) (fun q q2 q3 g => ?_) (fun q q2 q3 J g g2 g3 => ?_)
  · rw [if_pos (Or.inl q)] at hP
    exact hP _ n t K L J R z.1 (cu_re hH hu z)
  · rw [if_pos (Or.inr (Or.inl q2))] at hP
    exact hP _ n t K L J R z.1 (cu_re hH hu z)
  · rw [if_pos (Or.inr (Or.inr q3))] at hP
    exact hP _ n t K L J R z.1 (cu_re hH hu z)
  · rw [if_neg (by rw [q]; intro e; rcases e with e | e | e | e | e; exact e (by decide); exact q2 e; exact q3 e.2; exact absurd e.1 (by decide); exact absurd e.1 (by decide)), if_pos q] at hP
    refine hP _ n t K L _ R (cH_J hH g) ?_
    have hJ : ∀ k j, ¬ (k = 14 ∧ j = 6) → a_ui I (C + 14) 6 v (C + k) j = I (C + k) j := fun k j hk => by rw [ui_ap, if_neg (by omega)]
    have hX : ∀ x j, C + 43 < x → a_ui I (C + 14) 6 v x j = I x j := fun x j hx => by rw [ui_ap, if_neg (by omega)]
    have hz := hz 9 (by omega)
    exact cu_gen hT hu ⟨fun k hk => funext (fun j => hz k j (by omega)), fun j hj => hz 0 j (by omega)⟩ (fE_of hH hX ⟨hJ 14 4 (by omega), hJ 14 5 (by omega)⟩ (hJ 7 3 (by omega))) (by rw [hJ 1 6 (by omega), hz 0 0 (by omega)]; exact hu.1.1.1) (fun j => by rw [hJ 2 j (by omega), hz 1 j (by omega)]; exact hu.1.1.2.1 j) (lsP_e hu.1.1.2.2 (fun j => hJ 3 j (by omega)) (fun k j hk => hz k j (by unfold kL at hk; omega))) ⟨by rw [ui_ap, if_pos ⟨rfl, rfl⟩, up_at], by rw [up_at]; exact ⟨Int32.not_lt.mp q2, Int32.not_lt.mp q3⟩⟩ (mr_e hu.1.2.2.1.2.1 hu.1.2.2.1.2.2.1 (fun x kx => hX _ _ (by have := (hT.g_ask x kx).1; omega)) (fun k j hk => hz k j (by unfold kK at hk; omega))) (mk_e hu.1.2.2.2.2.2.2.2.2.2.2.2.1 (fun k j hk => hz k j (by unfold kK at hk; omega))) (siM_e hu.2.2.1.1 (fun k j hk => hJ k j (by omega)) (fun k j hk => hz k j (by unfold kM at hk; omega))) (siT_e hu.2.2.1.2.1 (fun k j hk => hJ k j (by omega)) (fun k j hk => hz k j (by unfold kT at hk; omega))) (siY_e hu.2.2.1.2.2.2 (fun k j hk => hz k j (by unfold kY at hk; omega))) (fun e => hX _ _ (by have := (hT.g_ask _ (hu.2.2.1.2.2.1.2 e).1).1; omega))
  · rw [if_neg (by rw [q]; intro e; rcases e with e | e | e | e | e; exact e (by decide); exact q2 e; exact absurd e.1 (by decide); exact q3 e.2; exact absurd e.1 (by decide)), if_neg (by rw [q]; decide), if_pos q] at hP
    refine hP _ n t K L _ R (cH_J hH g) ?_
    have hJ : ∀ k j, ¬ (k = 22 ∧ j = 8) → a_ui I (C + 22) 8 v (C + k) j = I (C + k) j := fun k j hk => by rw [ui_ap, if_neg (by omega)]
    have hX : ∀ x j, C + 43 < x → a_ui I (C + 22) 8 v x j = I x j := fun x j hx => by rw [ui_ap, if_neg (by omega)]
    have hz := hz 10 (by omega)
    refine cu_gen hT hu ⟨fun k hk => funext (fun j => hz k j (by omega)), fun j hj => hz 0 j (by omega)⟩ (fE_of hH hX ⟨hJ 14 4 (by omega), hJ 14 5 (by omega)⟩ (hJ 7 3 (by omega))) (by rw [hJ 1 6 (by omega), hz 0 0 (by omega)]; exact hu.1.1.1) (fun j => by rw [hJ 2 j (by omega), hz 1 j (by omega)]; exact hu.1.1.2.1 j) (lsP_e hu.1.1.2.2 (fun j => hJ 3 j (by omega)) (fun k j hk => hz k j (by unfold kL at hk; omega))) ⟨by rw [hJ 14 6 (by omega), hz 0 9 (by omega)]; exact hu.1.2.1.2.1, by rw [hz 0 9 (by omega)]; exact hu.1.2.2.2.2.2.2.2.1⟩ (mr_e hu.1.2.2.1.2.1 hu.1.2.2.1.2.2.1 (fun x kx => hX _ _ (by have := (hT.g_ask x kx).1; omega)) (fun k j hk => hz k j (by unfold kK at hk; omega))) (mk_e hu.1.2.2.2.2.2.2.2.2.2.2.2.1 (fun k j hk => hz k j (by unfold kK at hk; omega))) ?_ (siT_e hu.2.2.1.2.1 (fun k j hk => hJ k j (by omega)) (fun k j hk => hz k j (by unfold kT at hk; omega))) (siY_e hu.2.2.1.2.2.2 (fun k j hk => hz k j (by unfold kY at hk; omega))) (fun e => hX _ _ (by have := (hT.g_ask _ (hu.2.2.1.2.2.1.2 e).1).1; omega))
    obtain ⟨⟨m1, m2⟩, m3, m4, m5, m6⟩ := hu.2.2.1.1
    exact ⟨⟨by rw [ui_ap, if_pos ⟨rfl, rfl⟩, up_at], by rw [hJ _ _ (by omega), hz _ _ (by omega)]; exact m2⟩, fun k hk => by rw [hJ _ _ (by omega), hz 38 _ (by omega), hz 36 _ (by omega)]; exact m3 k hk, fun x y hx hy => by rw [hJ _ _ (by omega), hz 35 _ (by omega)]; exact m4 x y hx hy, fun x y hx hy => by rw [hJ _ _ (by omega), hz 37 _ (by omega)]; exact m5 x y hx hy, fun x y hx hy => by rw [hJ _ _ (by omega), hz 47 _ (by omega)]; exact m6 x y hx hy⟩
  · rw [if_neg (by rw [q]; intro e; rcases e with e | e | e | e | e; exact e (by decide); exact q2 e; exact absurd e.1 (by decide); exact absurd e.1 (by decide); exact q3 e.2), if_neg (by rw [q]; decide), if_neg (by rw [q]; decide)] at hP
    refine hP _ n t K L J R (cH_J hH g) ?_
    have hz := hz 11 (by omega)
    obtain ⟨f1, f2, f3, f4⟩ := cu_mks (Y := Y) hH hu g (I1 := a_ui I (C + 17) 5 v) (fun x j p1 p2 => g2 x j p1 (fun w => p2 ⟨w.1, by obtain ⟨i, i0, i1, e⟩ := w.2; exact ⟨i, i0, by rw [hz 0 17 (by omega)] at i1; exact i1, e⟩⟩)) (fun x j hx => by rw [ui_ap, if_neg (by omega)])
    have hJ : ∀ k j, k ≤ 43 ∧ ¬ k = 21 ∧ ¬ (k = 17 ∧ j = 5) → J (C + k) j = I (C + k) j := fun k j hk => by
      rw [f3 k j hk.1 hk.2.1, ui_ap, if_neg (by omega)]
    refine cu_gen hT hu ⟨fun k hk => funext (fun j => hz k j (by omega)), fun j hj => hz 0 j (by omega)⟩ ⟨f1, f2, hJ 14 4 (by omega), hJ 14 5 (by omega), hJ 7 3 (by omega)⟩ (by rw [hJ 1 6 (by omega), hz 0 0 (by omega)]; exact hu.1.1.1) (fun j => by rw [hJ 2 j (by omega), hz 1 j (by omega)]; exact hu.1.1.2.1 j) (lsP_e hu.1.1.2.2 (fun j => hJ 3 j (by omega)) (fun k j hk => hz k j (by unfold kL at hk; omega))) ⟨by rw [hJ 14 6 (by omega), hz 0 9 (by omega)]; exact hu.1.2.1.2.1, by rw [hz 0 9 (by omega)]; exact hu.1.2.2.2.2.2.2.2.1⟩ g3 hY ?_ (siT_e hu.2.2.1.2.1 (fun k j hk => hJ k j (by omega)) (fun k j hk => hz k j (by unfold kT at hk; omega))) (siY_e hu.2.2.1.2.2.2 (fun k j hk => hz k j (by unfold kY at hk; omega))) f4
    obtain ⟨⟨m1, m2⟩, m3, m4, m5, m6⟩ := hu.2.2.1.1
    exact ⟨⟨by rw [hJ _ _ (by omega), hz _ _ (by omega)]; exact m1, by rw [f3 _ _ (by omega) (by omega), ui_ap, if_pos ⟨rfl, rfl⟩, up_at]⟩, fun k hk => by rw [hJ _ _ (by omega), hz 38 _ (by omega), hz 36 _ (by omega)]; exact m3 k hk, fun x y hx hy => by rw [hJ _ _ (by omega), hz 35 _ (by omega)]; exact m4 x y hx hy, fun x y hx hy => by rw [hJ _ _ (by omega), hz 37 _ (by omega)]; exact m5 x y hx hy, fun x y hx hy => by rw [hJ _ _ (by omega), hz 47 _ (by omega)]; exact m6 x y hx hy⟩
end ZD1
section ZD2
variable {d n t M : Nat} {K L : Nat → Nat} {I I0 J J0 J1 J2 : Nat → Nat → Int32} {R : Nat → Nat → Nat} {P : Option Value → AH → Prop} {f : Nat → Int32} {e : Int32}
variable {Y Z W : Nat → Nat → Int32}
theorem xp_set (hS : m_S M K L R) {I1 : Nat → Nat → Int32} (hm : okY Y) {c : Nat} (hc : c + 130 ≤ 84000) (hF : mF M c I1 I) (hg : gs M I0 I Y) {w v : Int32} (hP : ∀ u J, J M 35 = I M 35 → gs M I0 J (seY Y w v) → P (some (.int u)) (n, t, K, L, J, R)) : a_does (d + 13) 179 [a_rf M, .int w, .int v] (n, t, K, L, I, R) P := by
  have hy := hm.1
  have h17 := hy.2.2.2.2.1
  have h10 := hy.2.1
  have h6 := hy.2.2.2.2.2.1
  have hl := hy.2.2.1
  have hrf : ∀ k : Nat, mF M (c + 120) I1 (a_ui I (M + 23) k (I (M + 23) k + 1)) ∧ gs M I0 (a_ui I (M + 23) k (I (M + 23) k + 1)) Y := fun k => ⟨mF_le (sF_refused hF) (by omega), gs_ui hg (sR_refused hg.1) (by omega) ⟨by unfold ps1; omega, by omega⟩⟩
  have e17 : I M 17 = Y 0 17 := hg.2.2.1 0 17 (by unfold ps1; omega)
  have e6 : I M 6 = Y 0 6 := hg.2.2.1 0 6 (by unfold ps1; omega)
  have e0 : I M 0 = Y 0 0 := hg.2.2.1 0 0 (by unfold ps1; omega)
  have m17 : ∀ x : Int32, (x ≤ Y 0 17 - 1) = (x < Y 0 17) := fun x => le_m1 h17
  have m6 : ∀ x : Int32, (x ≤ Y 0 6 - 1) = (x < Y 0 6) := fun x => le_m1 ⟨h6.1, Int32.le_trans h6.2 (by decide)⟩
  have m199 : ∀ x : Int32, (x ≤ 199) = (x < 200) := fun x => propext ⟨fun q => Int32.lt_of_le_of_lt q (by decide), fun q => by clear hP hrf hm hg hF; grind⟩
  have g9 := rg_rest hg.1
  have e9 : I M 9 = Y 0 9 := hg.2.2.1 0 9 (by unfold ps1; omega)
  have e10 : I M 10 = Y 0 10 := hg.2.2.1 0 10 (by unfold ps1; omega)
  have e11 : I M 11 = Y 0 11 := hg.2.2.1 0 11 (by unfold ps1; omega)
  have hup : ∀ x y z : Int32, (0 ≤ x ∧ x ≤ 3) → ∀ Z, Z = upY (upY (upY Y 0 9 x) 0 10 y) 0 11 z → gs M I0 (a_ui (a_ui (a_ui I M 9 x) M 10 y) M 11 z) Z := fun x y z hx Z hZ => by
    rw [hZ]
    have s1 := gs_up2 hg (k := 0) (j := 9) (v := x) (by omega) (by omega) (sR_rest hg.1 hx)
    have s2 := gs_up2 s1 (k := 0) (j := 10) (v := y) (by omega) (by omega) (sR_share s1.1)
    exact gs_up2 s2 (k := 0) (j := 11) (v := z) (by omega) (by omega) (sR_scaled s2.1)
  have hev : ∀ x y z : Int32, a_ui (a_ui (a_ui I M 9 x) M 10 y) M 11 z M 35 = I M 35 := fun x y z => by rw [ui_ap, if_neg (by omega), ui_ap, if_neg (by omega), ui_ap, if_neg (by omega)]
  unfold seY at hP
  refine pe_set (d := d + 11) hS (fun q => ?_) (fun q q2 => ?_) (fun q q2 q3 => ?_) (fun q q2 q3 => ?_) (fun q q2 q3 => ?_) (fun q q2 q3 => ?_)
  · rw [if_pos (Or.inl q)] at hP
    exact hP _ _ (by rw [ui_ap, if_neg (by omega)]) (hrf 2).2
  · rw [if_pos (Or.inr (Or.inl q2))] at hP
    exact hP _ _ (by rw [ui_ap, if_neg (by omega)]) (hrf 4).2
  · rw [if_pos (Or.inr (Or.inr q3))] at hP
    exact hP _ _ (by rw [ui_ap, if_neg (by omega)]) (hrf 6).2
  · rw [if_neg (by rw [q]; intro e; rcases e with e | e | e | e | e; exact e (by decide); exact q2 e; exact q3 e.2; exact absurd e.1 (by decide); exact absurd e.1 (by decide)), if_pos q] at hP
    refine hP _ _ (hev _ _ _) (hup _ _ _ ⟨Int32.not_lt.mp q2, Int32.not_lt.mp q3⟩ _ ?_)
    rw [up_same (Y := upY (upY Y 0 9 v) 0 10 (I M 10)) (by rw [up_no (by omega), up_no (by omega)]; exact e11.symm), up_same (Y := upY Y 0 9 v) (by rw [up_no (by omega)]; exact e10.symm)]
  · rw [if_neg (by rw [q]; intro e; rcases e with e | e | e | e | e; exact e (by decide); exact q2 e; exact absurd e.1 (by decide); exact q3 e.2; exact absurd e.1 (by decide)), if_neg (by rw [q]; decide), if_pos q] at hP
    refine hP _ _ (hev _ _ _) (hup _ _ _ g9 _ ?_)
    rw [up_same (Y := Y) e9.symm, up_same (Y := upY Y 0 10 v) (by rw [up_no (by omega)]; exact e11.symm)]
  · rw [if_neg (by rw [q]; intro e; rcases e with e | e | e | e | e; exact e (by decide); exact q2 e; exact absurd e.1 (by decide); exact absurd e.1 (by decide); exact q3 e.2), if_neg (by rw [q]; decide), if_neg (by rw [q]; decide)] at hP
    refine hP _ _ (hev _ _ _) (hup _ _ _ g9 _ ?_)
    rw [up_same (Y := Y) e9.symm, up_same (Y := Y) e10.symm]
end ZD2
/-! the class: feed, just so -/
section KZ
variable {d n t C c n0 n' n'' t' : Nat} {K L K0 L0 K' L' K'' L'' : Nat → Nat} {I I0 J J0 J1 J2 : Nat → Nat → Int32} {R R0 R' R'' : Nat → Nat → Nat} {P : Option Value → AH → Prop}
theorem le_append_3 {m t0 : Int32} {w : Int64} (h0 : 0 ≤ t0) (h1 : 1 ≤ m ∧ m ≤ 8) (h2 : t0 + m ≤ 50) (h3 : t0 ≤ 50) (hP : ∀ J, cT C K L J R → (∀ x j, ¬ x = C + 12 → ¬ (x = C + 11 ∧ j = 2) → J x j = I x j) → J (C + 11) 2 = t0 + m → byP (J (C + 12)) (I (C + 12)) w t0 m → P (some (.int (t0 + m))) (n, t, K, L, J, R)) : ∀ i : Int32, i ≤ 8 → ∀ J, 0 ≤ i → i ≤ m → cT C K L J R → (∀ x j, ¬ x = C + 12 → ¬ (x = C + 11 ∧ j = 2) → J x j = I x j) → J (C + 11) 2 = t0 + i → byP (J (C + 12)) (I (C + 12)) w t0 i → a_at d (a_xm a_m67) 3 [some (a_rf (C + 11)), some (.int m), some (.long w), none, some (.int i)] [] (n, t, K, L, J, R) P := by
  refine up_ind 8 (fun i hk ih => ?_)
  intro J q0 q1 hT hF q2 hB
  have hS := hT.s
  have hend : ¬ i < m → P (some (.int (J (C + 11) 2))) (n, t, K, L, J, R) := fun e => by
    have : i = m := by clear ih hP hF hB hT hS; grind
    subst this
    rw [q2]
    exact hP J hT hF q2 hB
  have g : 0 ≤ J (C + 11) 2 ∧ (i < m → J (C + 11) 2 < 50) := by rw [q2]; clear ih hP hF hB hend hT hS; grind
  have hgo : i < m → a_at d (a_xm a_m67) 3 [some (a_rf (C + 11)), some (.int m), some (.long w), none, some (.int (i + 1))] [] (n, t, K, L, (a_ui (a_ui J (C + 12) (J (C + 11) 2).toNatClampNeg (bX w i)) (C + 11) 2 (J (C + 11) 2 + 1)), R) P := fun e => by
    have gi := g.2 e
    refine ih (by clear ih hP hF hB hT hS; grind) _ (by clear ih hP hF hB hT hS; grind) (by clear ih hP hF hB hT hS; grind) (sT_Tape_size (sT_Tape_bytes hT) (by clear ih hP hF hB hT hS; grind)) (fun x j p r => by rw [ui_ap, if_neg r, ui_ap, if_neg (fun z => p z.1)]; exact hF x j p r) (by rw [ui_ap, if_pos ⟨rfl, rfl⟩, q2, Int32.add_assoc]) (byP_s hB ⟨h0, h3⟩ ⟨q0, hk⟩ (fun j => by rw [ui_ap, if_neg (by omega), ui_ap, q2]; simp only [true_and]))
  clear ih hP hF hB q2
  rw [q67_3]
  unfold bX at hgo
  repeat' first
    | with_reducible apply And.intro
    | with_reducible assumption
    | with_reducible intro _
    | refine hend ?_
    | refine hgo ?_
    | simp only [q67_5, q67_6, q67_9, q67_10, q67_13, q67_15, q67_18, q67_19, q67_22, q67_23, q67_26, q67_27, q67_29, q67_31, q67_32, q67_33, q67_36, q67_37, q67_38, q67_39, q67_40, q67_41, q67_44, q67_45, q67_46, q67_49, q67_52, q67_55, q67_56, q67_59, k_11 hS, z_11, r_11_0 hS, k_12 hS, l_12 hS, z_12, as_nil, as_i, as_r, Nat.reduceAdd, Nat.reduceLeDiff, z_eq0, z_eq1, z_or, z_em, Classical.not_not, not_false_eq_true, not_true_eq_false, true_and, and_true, false_and, and_false, and_self, true_implies, false_implies, implies_true, Option.toList_some, Option.toList_none, List.cons_append, List.nil_append, Nat.add_eq_zero_iff, a_nl_i, a_nl_r, a_nl_n, true_or, or_true, eq_self, a_isRA_22, a_isRA_24, a_isRA_32, a_isA_20, ok_4, ok_5, ok_6, ok_7, ok_9, ok_20, ok_21, ok_30, ok_50, ok_180, ok_192, ok_200, ui_ap, cc_ne, cc_n0, cc_0n, Nat.reduceEqDiff, reduceIte, if_true, if_false]
  all_goals ((try clear hend); (try clear hgo); (try clear hT); (try clear hS); grind [ui_ap])
theorem ke_feed (hH : cH C c (n + 1) t K L I R) {m : Int32} {w : Int64} (h1 : m < 1 → ∀ J, cZ C c (n + 1) K L I R (n + 1) t K L J R → P (some (.int (-4))) (n + 1, t, K, L, J, R)) (h2 : ¬ m < 1 → (8 < m ∨ 50 < (I (C + 11) 2) + m) → ∀ J, cZ C c (n + 1) K L I R (n + 1) t K L J R → P (some (.int (-6))) (n + 1, t, K, L, J, R)) (hP : ¬ m < 1 → ¬ (8 < m ∨ 50 < (I (C + 11) 2) + m) → ∀ J, cT C K L J R → (∀ x j, ¬ x = C + 12 → ¬ (x = C + 11 ∧ j = 2) → J x j = I x j) → J (C + 11) 2 = (I (C + 11) 2) + m → byP (J (C + 12)) (I (C + 12)) w (I (C + 11) 2) m → P (some (.int ((I (C + 11) 2) + m))) (n + 1, t, K, L, J, R)) : a_does (d + 70) 66 [a_rf C, .int m, .long w] (n + 1, t, K, L, I, R) P := by
  have hT := hH.1
  have hS := hT.s
  have hZ := cZ_refl hH
  have g := hT.g_size
  have h2' : ¬ m < 1 → (¬ m ≤ 8 ∨ ¬ m ≤ 50 - (I (C + 11) 2)) → ∀ J, cZ C c (n + 1) K L I R (n + 1) t K L J R → P (some (.int (-6))) (n + 1, t, K, L, J, R) := fun q1 q2 => h2 q1 (by clear hP h1 h2 hH hT hS hZ; grind)
  have hg : ¬ m < 1 → m ≤ 8 → m ≤ 50 - (I (C + 11) 2) → a_does (d + 69) 67 [a_rf (C + 11), .int m, .long w] (n + 1, t, K, L, I, R) (fun r h' => a_at (d + 69) (a_xm a_m66) 48 [some (a_rf C), some (.int m), some (.long w), none] (r.toList ++ []) h' P) := fun q1 q2 q3 => by
    have q4 : (I (C + 11) 2) + m ≤ 50 := by clear hP h1 h2 hH hT hS hZ; grind
    have hp := hP q1 (fun z => z.elim (fun z => absurd q2 (Int32.not_le.mpr z)) (fun z => absurd q4 (Int32.not_le.mpr z)))
    have hl := le_append_3 (d := d + 68) (w := w) (P := fun r h' => a_at (d + 69) (a_xm a_m66) 48 [some (a_rf C), some (.int m), some (.long w), none] (r.toList ++ []) h' P) g.1 ⟨Int32.not_lt.mp q1, q2⟩ q4 g.2 (fun J j1 j2 j3 j4 => by
      have hf := hp J j1 j2 j3 j4
      simp only [q66_48, as_nil, as_i, as_r, Nat.reduceAdd, Nat.reduceLeDiff, z_eq0, z_eq1, z_or, z_em, Classical.not_not, not_false_eq_true, not_true_eq_false, true_and, and_true, false_and, and_false, and_self, true_implies, false_implies, implies_true, Option.toList_some, Option.toList_none, List.cons_append, List.nil_append, Nat.add_eq_zero_iff, a_nl_i, a_nl_r, a_nl_n, true_or, or_true, eq_self, a_isRA_22, a_isRA_24, a_isRA_32, a_isA_20, ok_4, ok_5, ok_6, ok_7, ok_9, ok_20, ok_21, ok_30, ok_50, ok_180, ok_192, ok_200]
      exact hf) 0 (by decide) I (by decide) (by clear hP h1 h2 hH hT hS hZ; grind) hT (fun _ _ _ _ => rfl) (by rw [Int32.add_zero]) byP_0
    rw [a_enter (M := a_m67) rfl (by rw [a_len_ril]; decide)]
    show a_at _ (a_xm a_m67) 0 (a_init [a_rf (C + 11), .int m, .long w] 5) [] _ _
    rw [a_init_ril]
    simp only [q67_0, q67_1, as_nil, as_i, as_r, Nat.reduceAdd, Nat.reduceLeDiff, z_eq0, z_eq1, z_or, z_em, Classical.not_not, not_false_eq_true, not_true_eq_false, true_and, and_true, false_and, and_false, and_self, true_implies, false_implies, implies_true, Option.toList_some, Option.toList_none, List.cons_append, List.nil_append, Nat.add_eq_zero_iff, a_nl_i, a_nl_r, a_nl_n, true_or, or_true, eq_self, a_isRA_22, a_isRA_24, a_isRA_32, a_isA_20, ok_4, ok_5, ok_6, ok_7, ok_9, ok_20, ok_21, ok_30, ok_50, ok_180, ok_192, ok_200]
    exact hl
  clear hP h2
  rw [a_enter (M := a_m66) rfl (by rw [a_len_ril]; decide)]
  show a_at _ (a_xm a_m66) 0 (a_init [a_rf C, .int m, .long w] 4) [] _ _
  rw [a_init_ril4]
  repeat' first
    | with_reducible apply And.intro
    | with_reducible assumption
    | with_reducible intro _
    | refine ck_refuse hZ (fun _ _ => ?_)
    | refine h1 ?_ _ (by assumption)
    | refine h2' ?_ ?_ _ (by assumption)
    | refine hg ?_ ?_ ?_
    | simp only [q66_0, q66_1, q66_2, q66_5, q66_6, q66_8, q66_11, q66_12, q66_13, q66_15, q66_18, q66_19, q66_21, q66_22, q66_25, q66_28, q66_29, q66_32, q66_33, q66_35, q66_38, q66_39, q66_40, q66_43, q66_44, q66_45, q66_48, k_0 hS, z_C hS, r_0_2 hS, k_11 hS, z_11, as_nil, as_i, as_r, Nat.reduceAdd, Nat.reduceLeDiff, z_eq0, z_eq1, z_or, z_em, Classical.not_not, not_false_eq_true, not_true_eq_false, true_and, and_true, false_and, and_false, and_self, true_implies, false_implies, implies_true, Option.toList_some, Option.toList_none, List.cons_append, List.nil_append, Nat.add_eq_zero_iff, a_nl_i, a_nl_r, a_nl_n, true_or, or_true, eq_self, a_isRA_22, a_isRA_24, a_isRA_32, a_isA_20, ok_4, ok_5, ok_6, ok_7, ok_9, ok_20, ok_21, ok_30, ok_50, ok_180, ok_192, ok_200]
  all_goals ((try clear h1); (try clear h2'); (try clear hg); (try clear hP); (try clear hZ); (try clear hH); (try clear hT); (try clear hS); grind [ui_ap])

theorem ke_text (hH : cH C c (n + 1) t K L I R) {s : Int32} (h1 : ¬ (0 ≤ s ∧ s ≤ 199) → ∀ J, cZ C c (n + 1) K L I R (n + 1) t K L J R → P (some (.int (-1))) (n + 1, t, K, L, J, R)) (h2 : (0 ≤ s ∧ s ≤ 199) → 20 ≤ I (C + 7) 3 → ∀ J, cZ C c (n + 1) K L I R (n + 1) t K L J R → P (some (.int (-6))) (n + 1, t, K, L, J, R)) (h3 : (0 ≤ s ∧ s ≤ 199) → ¬ 20 ≤ I (C + 7) 3 → (xT (I (C + 12)) (I (C + 11) 2)).1 = false → ∀ J, tq C K L R I J → cT C K L (a_ui J (C + 11) 2 0) R → P (some (.int (-20 - (xT (I (C + 12)) (I (C + 11) 2)).2.1))) (n + 1, t, K, L, (a_ui J (C + 11) 2 0), R)) (h4 : (0 ≤ s ∧ s ≤ 199) → ¬ 20 ≤ I (C + 7) 3 → (xT (I (C + 12)) (I (C + 11) 2)).1 = true → ∀ n' t' K' L' J R', cZ C (c + 2) (n + 1) K L I R (n' + 1) t' K' L' J R' → J (C + 7) 3 = I (C + 7) 3 → n + 1 ≤ n' → K' n' = 11 → J n' 4 = 0 → cH C (c + 2) (n' + 1) t' K' L' (a_ui (a_ui J (C + 7) 3 (I (C + 7) 3 + 1)) (C + 11) 2 0) (a_ur R' (C + 8) (I (C + 7) 3).toNatClampNeg n') → P (some (.int (I (C + 7) 3 + 1 - 1))) (n' + 1, t', K', L', (a_ui (a_ui J (C + 7) 3 (I (C + 7) 3 + 1)) (C + 11) 2 0), a_ur R' (C + 8) (I (C + 7) 3).toNatClampNeg n')) : a_does (d + 70) 68 [a_rf C, .int s] (n + 1, t, K, L, I, R) P := by
  have hT := hH.1
  have hS := hT.s
  have hZ := cZ_refl hH
  have g7 := hT.g_texts
  have hC := hH.2.2.1
  have hr1 : ¬ (0 ≤ s ∧ s ≤ 199) → ∀ J, cZ C c (n + 1) K L I R (n + 1) t K L J R → P (some (.int (-1))) (n + 1, t, K, L, J, R) := h1
  have hgo : (0 ≤ s ∧ s ≤ 199) → ¬ 20 ≤ I (C + 7) 3 → a_at (d + 69) (a_xm a_m68) 32 [some (a_rf C), some (.int s), none, none] [] (n + 1, t, K, L, I, R) P := fun q1 q2 => by
    have h3 := h3 q1 q2
    have h4 := h4 q1 q2
    simp only [q68_32, q68_33, q68_36, k_0 hS, z_C hS, r_0_2 hS, k_11 hS, z_11, as_nil, as_i, as_r, Nat.reduceAdd, Nat.reduceLeDiff, z_eq0, z_eq1, z_or, z_em, Classical.not_not, not_false_eq_true, not_true_eq_false, true_and, and_true, false_and, and_false, and_self, true_implies, false_implies, implies_true, Option.toList_some, Option.toList_none, List.cons_append, List.nil_append, Nat.add_eq_zero_iff, a_nl_i, a_nl_r, a_nl_n, true_or, or_true, eq_self, a_isRA_22, a_isRA_24, a_isRA_32, a_isA_20, ok_4, ok_5, ok_6, ok_7, ok_9, ok_20, ok_21, ok_30, ok_50, ok_180, ok_192, ok_200]
    refine ce_read (d := d + 8) hT (fun J t1 t2 t3 => ?_)
    have hS := t1.1.s
    by_cases ok : (xT (I (C + 12)) (I (C + 11) 2)).1 = true
    · rw [if_pos ok]
      have n10 : ¬ (1 : Int32) = 0 := by decide
      have z := cZ_G hZ (tq_dG t1 hT)
      have e7 : J (C + 7) 3 = I (C + 7) 3 := t1.2 _ _ (by omega) (by omega)
      have h4 := h4 ok
      clear h1 h2 h3 hr1 t3
      simp only [q68_39, q68_40, q68_41, q68_44, q68_45, q68_48, q68_49, q68_52, k_0 hS, z_C hS, r_0_1 hS, k_7 hS, z_7, r_0_2 hS, k_11 hS, z_11, as_nil, as_i, as_r, Nat.reduceAdd, Nat.reduceLeDiff, z_eq0, z_eq1, z_or, z_em, Classical.not_not, not_false_eq_true, not_true_eq_false, true_and, and_true, false_and, and_false, and_self, true_implies, false_implies, implies_true, Option.toList_some, Option.toList_none, List.cons_append, List.nil_append, Nat.add_eq_zero_iff, a_nl_i, a_nl_r, a_nl_n, true_or, or_true, eq_self, a_isRA_22, a_isRA_24, a_isRA_32, a_isA_20, ok_4, ok_5, ok_6, ok_7, ok_9, ok_20, ok_21, ok_30, ok_50, ok_180, ok_192, ok_200, n10]
      try simp only [true_and, and_true, true_implies, false_implies, implies_true, not_true_eq_false, not_false_eq_true]
      refine ck_letter t1.1 (fun v2 => ?_)
      simp only [q68_55, q68_56, q68_57, q68_60, k_0 hS, z_C hS, r_0_2 hS, k_11 hS, z_11, as_nil, as_i, as_r, Nat.reduceAdd, Nat.reduceLeDiff, z_eq0, z_eq1, z_or, z_em, Classical.not_not, not_false_eq_true, not_true_eq_false, true_and, and_true, false_and, and_false, and_self, true_implies, false_implies, implies_true, Option.toList_some, Option.toList_none, List.cons_append, List.nil_append, Nat.add_eq_zero_iff, a_nl_i, a_nl_r, a_nl_n, true_or, or_true, eq_self, a_isRA_22, a_isRA_24, a_isRA_32, a_isA_20, ok_4, ok_5, ok_6, ok_7, ok_9, ok_20, ok_21, ok_30, ok_50, ok_180, ok_192, ok_200]
      refine ck_written z (fun t' K' L' J' R' z3 k1 l1 => ?_)
      have hS := z3.2.1.1.s
      have e7' : J' (C + 7) 3 = I (C + 7) 3 := z3.2.2.2.2.2.2 _ _ (by unfold eD; omega) (by omega)
      simp only [q68_63, k_0 hS, z_C hS, as_nil, as_i, as_r, Nat.reduceAdd, Nat.reduceLeDiff, z_eq0, z_eq1, z_or, z_em, Classical.not_not, not_false_eq_true, not_true_eq_false, true_and, and_true, false_and, and_false, and_self, true_implies, false_implies, implies_true, Option.toList_some, Option.toList_none, List.cons_append, List.nil_append, Nat.add_eq_zero_iff, a_nl_i, a_nl_r, a_nl_n, true_or, or_true, eq_self, a_isRA_22, a_isRA_24, a_isRA_32, a_isA_20, ok_4, ok_5, ok_6, ok_7, ok_9, ok_20, ok_21, ok_30, ok_50, ok_180, ok_192, ok_200]
      refine ⟨k_7 hS, ck_addText z3 k1 (by omega) l1 (by rw [e7']; exact q2) (fun t' K' L' J2 R' z4 e8 k11 e4 g8 => ?_)⟩
      have hS := z4.2.1.1.s
      rw [e7'] at e8 g8 ⊢
      have hT2 : cT C K' L' (a_ui (a_ui J2 (C + 7) 3 (I (C + 7) 3 + 1)) (C + 11) 2 0) (a_ur R' (C + 8) (I (C + 7) 3).toNatClampNeg (n + 1 + 1)) := sT_Tape_size (sT_Rules_count g8.1 (by clear h4 z z3 z4 g8 hH hT hZ hS t1; grind)) (by decide)
      have hS := hT2.s
      have hf := h4 _ _ _ _ _ _ (cZ_le z4 (by omega)) e8 (by omega) k11 e4 (cH_le (cH_J g8 hT2) (by omega))
      simp only [q68_66, q68_69, q68_71, q68_72, q68_75, q68_78, q68_79, q68_80, q68_81, q68_84, q68_85, q68_88, q68_89, k_0 hS, z_C hS, r_0_2 hS, k_11 hS, z_11, as_nil, as_i, as_r, Nat.reduceAdd, Nat.reduceLeDiff, z_eq0, z_eq1, z_or, z_em, Classical.not_not, not_false_eq_true, not_true_eq_false, true_and, and_true, false_and, and_false, and_self, true_implies, false_implies, implies_true, Option.toList_some, Option.toList_none, List.cons_append, List.nil_append, Nat.add_eq_zero_iff, a_nl_i, a_nl_r, a_nl_n, true_or, or_true, eq_self, a_isRA_22, a_isRA_24, a_isRA_32, a_isA_20, ok_4, ok_5, ok_6, ok_7, ok_9, ok_20, ok_21, ok_30, ok_50, ok_180, ok_192, ok_200, ui_ap, cc_ne, cc_n0, cc_0n, Nat.reduceEqDiff, reduceIte, if_true, if_false]
      exact hf
    · have ok2 : (xT (I (C + 12)) (I (C + 11) 2)).1 = false := by cases q : (xT (I (C + 12)) (I (C + 11) 2)).1; rfl; exact absurd q ok
      rw [if_neg ok]
      have hf := h3 ok2 J t1 (sT_Tape_size t1.1 (by decide))
      have hS := t1.1.s
      rw [← t2] at hf
      clear h1 h2 h3 h4 hr1 t3
      simp only [q68_39, q68_40, q68_41, q68_69, q68_71, q68_72, q68_75, q68_78, q68_79, q68_80, q68_81, q68_84, q68_85, q68_88, q68_89, k_0 hS, z_C hS, r_0_2 hS, k_11 hS, z_11, as_nil, as_i, as_r, Nat.reduceAdd, Nat.reduceLeDiff, z_eq0, z_eq1, z_or, z_em, Classical.not_not, not_false_eq_true, not_true_eq_false, true_and, and_true, false_and, and_false, and_self, true_implies, false_implies, implies_true, Option.toList_some, Option.toList_none, List.cons_append, List.nil_append, Nat.add_eq_zero_iff, a_nl_i, a_nl_r, a_nl_n, true_or, or_true, eq_self, a_isRA_22, a_isRA_24, a_isRA_32, a_isA_20, ok_4, ok_5, ok_6, ok_7, ok_9, ok_20, ok_21, ok_30, ok_50, ok_180, ok_192, ok_200, ui_ap, cc_ne, cc_n0, cc_0n, Nat.reduceEqDiff, reduceIte, if_true, if_false]
      try simp only [true_and, and_true, true_implies, false_implies, implies_true, not_true_eq_false, not_false_eq_true]
      exact hf
  clear h3 h4
  rw [a_enter1 (M := a_m68) rfl (a_cat_rf (a_cat_int a_cat_nil)) (show 2 ≤ 4 by decide)]
  show a_at _ (a_xm a_m68) 0 [some (a_rf C), some (.int s), none, none] [] _ _
  repeat' first
    | with_reducible apply And.intro
    | with_reducible assumption
    | with_reducible intro _
    | refine ck_refuse hZ (fun _ _ => ?_)
    | refine hr1 ?_ _ (by assumption)
    | refine h2 ?_ ?_ _ (by assumption)
    | refine hgo ?_ ?_
    | simp only [q68_0, q68_1, q68_4, q68_7, q68_8, q68_9, q68_12, q68_13, q68_14, q68_17, q68_20, q68_22, q68_25, q68_26, q68_28, q68_31, k_0 hS, z_C hS, r_0_1 hS, k_7 hS, z_7, sp_isShiftC, as_nil, as_i, as_r, Nat.reduceAdd, Nat.reduceLeDiff, z_eq0, z_eq1, z_or, z_em, Classical.not_not, not_false_eq_true, not_true_eq_false, true_and, and_true, false_and, and_false, and_self, true_implies, false_implies, implies_true, Option.toList_some, Option.toList_none, List.cons_append, List.nil_append, Nat.add_eq_zero_iff, a_nl_i, a_nl_r, a_nl_n, true_or, or_true, eq_self, a_isRA_22, a_isRA_24, a_isRA_32, a_isA_20, ok_4, ok_5, ok_6, ok_7, ok_9, ok_20, ok_21, ok_30, ok_50, ok_180, ok_192, ok_200]
  all_goals ((try clear h1); (try clear h2); (try clear hr1); (try clear hgo); (try clear hZ); (try clear hH); (try clear hT); (try clear hS); grind [ui_ap])
end KZ
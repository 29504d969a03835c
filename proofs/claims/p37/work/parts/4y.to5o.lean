section
/-! the class: feed, just so -/
section KZ
variable {d n t C c n0 n' n'' t' : Nat} {K L K0 L0 K' L' K'' L'' : Nat → Nat} {I I0 J J0 J1 J2 : Nat → Nat → Int32} {R R0 R' R'' : Nat → Nat → Nat} {P : Option Value → AH → Prop}
theorem le_append_3 {m t0 : Int32} {w : Int64} (h0 : 0 ≤ t0) (h1 : 1 ≤ m ∧ m ≤ 8) (h2 : t0 + m ≤ 50) (h3 : t0 ≤ 50) (hP : ∀ J, cT C K L J R → (∀ x j, ¬ x = C + 12 → ¬ (x = C + 11 ∧ j = 2) → J x j = I x j) → J (C + 11) 2 = t0 + m → byP (J (C + 12)) (I (C + 12)) w t0 m → P (some (.int (t0 + m))) (n, t, K, L, J, R)) : ∀ i : Int32, i ≤ 8 → ∀ J, 0 ≤ i → i ≤ m → cT C K L J R → (∀ x j, ¬ x = C + 12 → ¬ (x = C + 11 ∧ j = 2) → J x j = I x j) → J (C + 11) 2 = t0 + i → byP (J (C + 12)) (I (C + 12)) w t0 i → a_at d (a_xm a_m67) 3 [some (a_rf (C + 11)), some (.int m), some (.long w), none, some (.int i)] [] (n, t, K, L, J, R) P := by
  refine up_ind 8 (fun i hk ih => ?_)
  intro J q0 q1 hT hF q2 hB
  have hS := hT.s
  have hend : ¬ i < m → P (some (.int (J (C + 11) 2))) (n, t, K, L, J, R) := fun e => by
    have : i = m := by clear ih hP hF hB hT hS; grind
    subst this
    rw [q2]
    exact hP J hT hF q2 hB
  have g : 0 ≤ J (C + 11) 2 ∧ (i < m → J (C + 11) 2 < 50) := by rw [q2]; clear ih hP hF hB hend hT hS; grind
  have hgo : i < m → a_at d (a_xm a_m67) 3 [some (a_rf (C + 11)), some (.int m), some (.long w), none, some (.int (i + 1))] [] (n, t, K, L, (a_ui (a_ui J (C + 12) (J (C + 11) 2).toNatClampNeg (bX w i)) (C + 11) 2 (J (C + 11) 2 + 1)), R) P := fun e => by
    have gi := g.2 e
    refine ih (by clear ih hP hF hB hT hS; grind) _ (by clear ih hP hF hB hT hS; grind) (by clear ih hP hF hB hT hS; grind) (sT_Tape_size (sT_Tape_bytes hT) (by clear ih hP hF hB hT hS; grind)) (fun x j p r => by rw [ui_ap, if_neg r, ui_ap, if_neg (fun z => p z.1)]; exact hF x j p r) (by rw [ui_ap, if_pos ⟨rfl, rfl⟩, q2, Int32.add_assoc]) (byP_s hB ⟨h0, h3⟩ ⟨q0, hk⟩ (fun j => by rw [ui_ap, if_neg (by omega), ui_ap, q2]; simp only [true_and]))
  clear ih hP hF hB q2
  rw [q67_3]
  unfold bX at hgo
  repeat' first
    | with_reducible apply And.intro
    | with_reducible assumption
    | with_reducible intro _
    | refine hend ?_
    | refine hgo ?_
    | simp only [q67_5, q67_6, q67_9, q67_10, q67_13, q67_15, q67_18, q67_19, q67_22, q67_23, q67_26, q67_27, q67_29, q67_31, q67_32, q67_33, q67_36, q67_37, q67_38, q67_39, q67_40, q67_41, q67_44, q67_45, q67_46, q67_49, q67_52, q67_55, q67_56, q67_59, k_11 hS, z_11, r_11_0 hS, k_12 hS, l_12 hS, z_12, as_nil, as_i, as_r, Nat.reduceAdd, Nat.reduceLeDiff, z_eq0, z_eq1, z_or, z_em, Classical.not_not, not_false_eq_true, not_true_eq_false, true_and, and_true, false_and, and_false, and_self, true_implies, false_implies, implies_true, Option.toList_some, Option.toList_none, List.cons_append, List.nil_append, Nat.add_eq_zero_iff, a_nl_i, a_nl_r, a_nl_n, true_or, or_true, eq_self, a_isRA_22, a_isRA_24, a_isRA_32, a_isA_20, ok_4, ok_5, ok_6, ok_7, ok_9, ok_20, ok_21, ok_30, ok_50, ok_180, ok_192, ok_200, ui_ap, cc_ne, cc_n0, cc_0n, Nat.reduceEqDiff, reduceIte, if_true, if_false]
  all_goals ((try clear hend); (try clear hgo); (try clear hT); (try clear hS); grind [ui_ap])
theorem ke_feed (hH : cH C c (n + 1) t K L I R) {m : Int32} {w : Int64} (h1 : m < 1 → ∀ J, cZ C c (n + 1) K L I R (n + 1) t K L J R → P (some (.int (-4))) (n + 1, t, K, L, J, R)) (h2 : ¬ m < 1 → (8 < m ∨ 50 < (I (C + 11) 2) + m) → ∀ J, cZ C c (n + 1) K L I R (n + 1) t K L J R → P (some (.int (-6))) (n + 1, t, K, L, J, R)) (hP : ¬ m < 1 → ¬ (8 < m ∨ 50 < (I (C + 11) 2) + m) → ∀ J, cT C K L J R → (∀ x j, ¬ x = C + 12 → ¬ (x = C + 11 ∧ j = 2) → J x j = I x j) → J (C + 11) 2 = (I (C + 11) 2) + m → byP (J (C + 12)) (I (C + 12)) w (I (C + 11) 2) m → P (some (.int ((I (C + 11) 2) + m))) (n + 1, t, K, L, J, R)) : a_does (d + 70) 66 [a_rf C, .int m, .long w] (n + 1, t, K, L, I, R) P := by
  have hT := hH.1
  have hS := hT.s
  have hZ := cZ_refl hH
  have g := hT.g_size
  have h2' : ¬ m < 1 → (¬ m ≤ 8 ∨ ¬ m ≤ 50 - (I (C + 11) 2)) → ∀ J, cZ C c (n + 1) K L I R (n + 1) t K L J R → P (some (.int (-6))) (n + 1, t, K, L, J, R) := fun q1 q2 => h2 q1 (by clear hP h1 h2 hH hT hS hZ; grind)
  have hg : ¬ m < 1 → m ≤ 8 → m ≤ 50 - (I (C + 11) 2) → a_does (d + 69) 67 [a_rf (C + 11), .int m, .long w] (n + 1, t, K, L, I, R) (fun r h' => a_at (d + 69) (a_xm a_m66) 48 [some (a_rf C), some (.int m), some (.long w), none] (r.toList ++ []) h' P) := fun q1 q2 q3 => by
    have q4 : (I (C + 11) 2) + m ≤ 50 := by clear hP h1 h2 hH hT hS hZ; grind
    have hp := hP q1 (fun z => z.elim (fun z => absurd q2 (Int32.not_le.mpr z)) (fun z => absurd q4 (Int32.not_le.mpr z)))
    have hl := le_append_3 (d := d + 68) (w := w) (P := fun r h' => a_at (d + 69) (a_xm a_m66) 48 [some (a_rf C), some (.int m), some (.long w), none] (r.toList ++ []) h' P) g.1 ⟨Int32.not_lt.mp q1, q2⟩ q4 g.2 (fun J j1 j2 j3 j4 => by
      have hf := hp J j1 j2 j3 j4
      simp only [q66_48, as_nil, as_i, as_r, Nat.reduceAdd, Nat.reduceLeDiff, z_eq0, z_eq1, z_or, z_em, Classical.not_not, not_false_eq_true, not_true_eq_false, true_and, and_true, false_and, and_false, and_self, true_implies, false_implies, implies_true, Option.toList_some, Option.toList_none, List.cons_append, List.nil_append, Nat.add_eq_zero_iff, a_nl_i, a_nl_r, a_nl_n, true_or, or_true, eq_self, a_isRA_22, a_isRA_24, a_isRA_32, a_isA_20, ok_4, ok_5, ok_6, ok_7, ok_9, ok_20, ok_21, ok_30, ok_50, ok_180, ok_192, ok_200]
      exact hf) 0 (by decide) I (by decide) (by clear hP h1 h2 hH hT hS hZ; grind) hT (fun _ _ _ _ => rfl) (by rw [Int32.add_zero]) byP_0
    rw [a_enter (M := a_m67) rfl (by rw [a_len_ril]; decide)]
    show a_at _ (a_xm a_m67) 0 (a_init [a_rf (C + 11), .int m, .long w] 5) [] _ _
    rw [a_init_ril]
    simp only [q67_0, q67_1, as_nil, as_i, as_r, Nat.reduceAdd, Nat.reduceLeDiff, z_eq0, z_eq1, z_or, z_em, Classical.not_not, not_false_eq_true, not_true_eq_false, true_and, and_true, false_and, and_false, and_self, true_implies, false_implies, implies_true, Option.toList_some, Option.toList_none, List.cons_append, List.nil_append, Nat.add_eq_zero_iff, a_nl_i, a_nl_r, a_nl_n, true_or, or_true, eq_self, a_isRA_22, a_isRA_24, a_isRA_32, a_isA_20, ok_4, ok_5, ok_6, ok_7, ok_9, ok_20, ok_21, ok_30, ok_50, ok_180, ok_192, ok_200]
    exact hl
  clear hP h2
  rw [a_enter (M := a_m66) rfl (by rw [a_len_ril]; decide)]
  show a_at _ (a_xm a_m66) 0 (a_init [a_rf C, .int m, .long w] 4) [] _ _
  rw [a_init_ril4]
  repeat' first
    | with_reducible apply And.intro
    | with_reducible assumption
    | with_reducible intro _
    | refine ck_refuse hZ (fun _ _ => ?_)
    | refine h1 ?_ _ (by assumption)
    | refine h2' ?_ ?_ _ (by assumption)
    | refine hg ?_ ?_ ?_
    | simp only [q66_0, q66_1, q66_2, q66_5, q66_6, q66_8, q66_11, q66_12, q66_13, q66_15, q66_18, q66_19, q66_21, q66_22, q66_25, q66_28, q66_29, q66_32, q66_33, q66_35, q66_38, q66_39, q66_40, q66_43, q66_44, q66_45, q66_48, k_0 hS, z_C hS, r_0_2 hS, k_11 hS, z_11, as_nil, as_i, as_r, Nat.reduceAdd, Nat.reduceLeDiff, z_eq0, z_eq1, z_or, z_em, Classical.not_not, not_false_eq_true, not_true_eq_false, true_and, and_true, false_and, and_false, and_self, true_implies, false_implies, implies_true, Option.toList_some, Option.toList_none, List.cons_append, List.nil_append, Nat.add_eq_zero_iff, a_nl_i, a_nl_r, a_nl_n, true_or, or_true, eq_self, a_isRA_22, a_isRA_24, a_isRA_32, a_isA_20, ok_4, ok_5, ok_6, ok_7, ok_9, ok_20, ok_21, ok_30, ok_50, ok_180, ok_192, ok_200]
  all_goals ((try clear h1); (try clear h2'); (try clear hg); (try clear hP); (try clear hZ); (try clear hH); (try clear hT); (try clear hS); grind [ui_ap])

theorem ke_text (hH : cH C c (n + 1) t K L I R) {s : Int32} (h1 : ¬ (0 ≤ s ∧ s ≤ 199) → ∀ J, cZ C c (n + 1) K L I R (n + 1) t K L J R → P (some (.int (-1))) (n + 1, t, K, L, J, R)) (h2 : (0 ≤ s ∧ s ≤ 199) → 20 ≤ I (C + 7) 3 → ∀ J, cZ C c (n + 1) K L I R (n + 1) t K L J R → P (some (.int (-6))) (n + 1, t, K, L, J, R)) (h3 : (0 ≤ s ∧ s ≤ 199) → ¬ 20 ≤ I (C + 7) 3 → (xT (I (C + 12)) (I (C + 11) 2)).1 = false → ∀ J, tq C K L R I J → cT C K L (a_ui J (C + 11) 2 0) R → P (some (.int (-20 - (xT (I (C + 12)) (I (C + 11) 2)).2.1))) (n + 1, t, K, L, (a_ui J (C + 11) 2 0), R)) (h4 : (0 ≤ s ∧ s ≤ 199) → ¬ 20 ≤ I (C + 7) 3 → (xT (I (C + 12)) (I (C + 11) 2)).1 = true → ∀ n' t' K' L' J R', cZ C (c + 2) (n + 1) K L I R (n' + 1) t' K' L' J R' → J (C + 7) 3 = I (C + 7) 3 → n + 1 ≤ n' → K' n' = 11 → J n' 4 = 0 → cH C (c + 2) (n' + 1) t' K' L' (a_ui (a_ui J (C + 7) 3 (I (C + 7) 3 + 1)) (C + 11) 2 0) (a_ur R' (C + 8) (I (C + 7) 3).toNatClampNeg n') → P (some (.int (I (C + 7) 3 + 1 - 1))) (n' + 1, t', K', L', (a_ui (a_ui J (C + 7) 3 (I (C + 7) 3 + 1)) (C + 11) 2 0), a_ur R' (C + 8) (I (C + 7) 3).toNatClampNeg n')) : a_does (d + 70) 68 [a_rf C, .int s] (n + 1, t, K, L, I, R) P := by
  have hT := hH.1
  have hS := hT.s
  have hZ := cZ_refl hH
  have g7 := hT.g_texts
  have hC := hH.2.2.1
  have hr1 : ¬ (0 ≤ s ∧ s ≤ 199) → ∀ J, cZ C c (n + 1) K L I R (n + 1) t K L J R → P (some (.int (-1))) (n + 1, t, K, L, J, R) := h1
  have hgo : (0 ≤ s ∧ s ≤ 199) → ¬ 20 ≤ I (C + 7) 3 → a_at (d + 69) (a_xm a_m68) 32 [some (a_rf C), some (.int s), none, none] [] (n + 1, t, K, L, I, R) P := fun q1 q2 => by
    have h3 := h3 q1 q2
    have h4 := h4 q1 q2
    simp only [q68_32, q68_33, q68_36, k_0 hS, z_C hS, r_0_2 hS, k_11 hS, z_11, as_nil, as_i, as_r, Nat.reduceAdd, Nat.reduceLeDiff, z_eq0, z_eq1, z_or, z_em, Classical.not_not, not_false_eq_true, not_true_eq_false, true_and, and_true, false_and, and_false, and_self, true_implies, false_implies, implies_true, Option.toList_some, Option.toList_none, List.cons_append, List.nil_append, Nat.add_eq_zero_iff, a_nl_i, a_nl_r, a_nl_n, true_or, or_true, eq_self, a_isRA_22, a_isRA_24, a_isRA_32, a_isA_20, ok_4, ok_5, ok_6, ok_7, ok_9, ok_20, ok_21, ok_30, ok_50, ok_180, ok_192, ok_200]
    refine ce_read (d := d + 8) hT (fun J t1 t2 t3 => ?_)
    have hS := t1.1.s
    by_cases ok : (xT (I (C + 12)) (I (C + 11) 2)).1 = true
    · rw [if_pos ok]
      have n10 : ¬ (1 : Int32) = 0 := by decide
      have z := cZ_G hZ (tq_dG t1 hT)
      have e7 : J (C + 7) 3 = I (C + 7) 3 := t1.2 _ _ (by omega) (by omega)
      have h4 := h4 ok
      clear h1 h2 h3 hr1 t3
      simp only [q68_39, q68_40, q68_41, q68_44, q68_45, q68_48, q68_49, q68_52, k_0 hS, z_C hS, r_0_1 hS, k_7 hS, z_7, r_0_2 hS, k_11 hS, z_11, as_nil, as_i, as_r, Nat.reduceAdd, Nat.reduceLeDiff, z_eq0, z_eq1, z_or, z_em, Classical.not_not, not_false_eq_true, not_true_eq_false, true_and, and_true, false_and, and_false, and_self, true_implies, false_implies, implies_true, Option.toList_some, Option.toList_none, List.cons_append, List.nil_append, Nat.add_eq_zero_iff, a_nl_i, a_nl_r, a_nl_n, true_or, or_true, eq_self, a_isRA_22, a_isRA_24, a_isRA_32, a_isA_20, ok_4, ok_5, ok_6, ok_7, ok_9, ok_20, ok_21, ok_30, ok_50, ok_180, ok_192, ok_200, n10]
      try simp only [true_and, and_true, true_implies, false_implies, implies_true, not_true_eq_false, not_false_eq_true]
      refine ck_letter t1.1 (fun v2 => ?_)
      simp only [q68_55, q68_56, q68_57, q68_60, k_0 hS, z_C hS, r_0_2 hS, k_11 hS, z_11, as_nil, as_i, as_r, Nat.reduceAdd, Nat.reduceLeDiff, z_eq0, z_eq1, z_or, z_em, Classical.not_not, not_false_eq_true, not_true_eq_false, true_and, and_true, false_and, and_false, and_self, true_implies, false_implies, implies_true, Option.toList_some, Option.toList_none, List.cons_append, List.nil_append, Nat.add_eq_zero_iff, a_nl_i, a_nl_r, a_nl_n, true_or, or_true, eq_self, a_isRA_22, a_isRA_24, a_isRA_32, a_isA_20, ok_4, ok_5, ok_6, ok_7, ok_9, ok_20, ok_21, ok_30, ok_50, ok_180, ok_192, ok_200]
      refine ck_written z (fun t' K' L' J' R' z3 k1 l1 => ?_)
      have hS := z3.2.1.1.s
      have e7' : J' (C + 7) 3 = I (C + 7) 3 := z3.2.2.2.2.2.2 _ _ (by unfold eD; omega) (by omega)
      simp only [q68_63, k_0 hS, z_C hS, as_nil, as_i, as_r, Nat.reduceAdd, Nat.reduceLeDiff, z_eq0, z_eq1, z_or, z_em, Classical.not_not, not_false_eq_true, not_true_eq_false, true_and, and_true, false_and, and_false, and_self, true_implies, false_implies, implies_true, Option.toList_some, Option.toList_none, List.cons_append, List.nil_append, Nat.add_eq_zero_iff, a_nl_i, a_nl_r, a_nl_n, true_or, or_true, eq_self, a_isRA_22, a_isRA_24, a_isRA_32, a_isA_20, ok_4, ok_5, ok_6, ok_7, ok_9, ok_20, ok_21, ok_30, ok_50, ok_180, ok_192, ok_200]
      refine ⟨k_7 hS, ck_addText z3 k1 (by omega) l1 (by rw [e7']; exact q2) (fun t' K' L' J2 R' z4 e8 k11 e4 g8 => ?_)⟩
      have hS := z4.2.1.1.s
      rw [e7'] at e8 g8 ⊢
      have hT2 : cT C K' L' (a_ui (a_ui J2 (C + 7) 3 (I (C + 7) 3 + 1)) (C + 11) 2 0) (a_ur R' (C + 8) (I (C + 7) 3).toNatClampNeg (n + 1 + 1)) := sT_Tape_size (sT_Rules_count g8.1 (by clear h4 z z3 z4 g8 hH hT hZ hS t1; grind)) (by decide)
      have hS := hT2.s
      have hf := h4 _ _ _ _ _ _ (cZ_le z4 (by omega)) e8 (by omega) k11 e4 (cH_le (cH_J g8 hT2) (by omega))
      simp only [q68_66, q68_69, q68_71, q68_72, q68_75, q68_78, q68_79, q68_80, q68_81, q68_84, q68_85, q68_88, q68_89, k_0 hS, z_C hS, r_0_2 hS, k_11 hS, z_11, as_nil, as_i, as_r, Nat.reduceAdd, Nat.reduceLeDiff, z_eq0, z_eq1, z_or, z_em, Classical.not_not, not_false_eq_true, not_true_eq_false, true_and, and_true, false_and, and_false, and_self, true_implies, false_implies, implies_true, Option.toList_some, Option.toList_none, List.cons_append, List.nil_append, Nat.add_eq_zero_iff, a_nl_i, a_nl_r, a_nl_n, true_or, or_true, eq_self, a_isRA_22, a_isRA_24, a_isRA_32, a_isA_20, ok_4, ok_5, ok_6, ok_7, ok_9, ok_20, ok_21, ok_30, ok_50, ok_180, ok_192, ok_200, ui_ap, cc_ne, cc_n0, cc_0n, Nat.reduceEqDiff, reduceIte, if_true, if_false]
      exact hf
    · have ok2 : (xT (I (C + 12)) (I (C + 11) 2)).1 = false := by cases q : (xT (I (C + 12)) (I (C + 11) 2)).1; rfl; exact absurd q ok
      rw [if_neg ok]
      have hf := h3 ok2 J t1 (sT_Tape_size t1.1 (by decide))
      have hS := t1.1.s
      rw [← t2] at hf
      clear h1 h2 h3 h4 hr1 t3
      simp only [q68_39, q68_40, q68_41, q68_69, q68_71, q68_72, q68_75, q68_78, q68_79, q68_80, q68_81, q68_84, q68_85, q68_88, q68_89, k_0 hS, z_C hS, r_0_2 hS, k_11 hS, z_11, as_nil, as_i, as_r, Nat.reduceAdd, Nat.reduceLeDiff, z_eq0, z_eq1, z_or, z_em, Classical.not_not, not_false_eq_true, not_true_eq_false, true_and, and_true, false_and, and_false, and_self, true_implies, false_implies, implies_true, Option.toList_some, Option.toList_none, List.cons_append, List.nil_append, Nat.add_eq_zero_iff, a_nl_i, a_nl_r, a_nl_n, true_or, or_true, eq_self, a_isRA_22, a_isRA_24, a_isRA_32, a_isA_20, ok_4, ok_5, ok_6, ok_7, ok_9, ok_20, ok_21, ok_30, ok_50, ok_180, ok_192, ok_200, ui_ap, cc_ne, cc_n0, cc_0n, Nat.reduceEqDiff, reduceIte, if_true, if_false]
      try simp only [true_and, and_true, true_implies, false_implies, implies_true, not_true_eq_false, not_false_eq_true]
      exact hf
  clear h3 h4
  rw [a_enter1 (M := a_m68) rfl (a_cat_rf (a_cat_int a_cat_nil)) (show 2 ≤ 4 by decide)]
  show a_at _ (a_xm a_m68) 0 [some (a_rf C), some (.int s), none, none] [] _ _
  repeat' first
    | with_reducible apply And.intro
    | with_reducible assumption
    | with_reducible intro _
    | refine ck_refuse hZ (fun _ _ => ?_)
    | refine hr1 ?_ _ (by assumption)
    | refine h2 ?_ ?_ _ (by assumption)
    | refine hgo ?_ ?_
    | simp only [q68_0, q68_1, q68_4, q68_7, q68_8, q68_9, q68_12, q68_13, q68_14, q68_17, q68_20, q68_22, q68_25, q68_26, q68_28, q68_31, k_0 hS, z_C hS, r_0_1 hS, k_7 hS, z_7, sp_isShiftC, as_nil, as_i, as_r, Nat.reduceAdd, Nat.reduceLeDiff, z_eq0, z_eq1, z_or, z_em, Classical.not_not, not_false_eq_true, not_true_eq_false, true_and, and_true, false_and, and_false, and_self, true_implies, false_implies, implies_true, Option.toList_some, Option.toList_none, List.cons_append, List.nil_append, Nat.add_eq_zero_iff, a_nl_i, a_nl_r, a_nl_n, true_or, or_true, eq_self, a_isRA_22, a_isRA_24, a_isRA_32, a_isA_20, ok_4, ok_5, ok_6, ok_7, ok_9, ok_20, ok_21, ok_30, ok_50, ok_180, ok_192, ok_200]
  all_goals ((try clear h1); (try clear h2); (try clear hr1); (try clear hgo); (try clear hZ); (try clear hH); (try clear hT); (try clear hS); grind [ui_ap])
end KZ
end
section
/-! strike, just so -/
section SZ
variable {d n t M c : Nat} {K L : Nat → Nat} {I I0 J J0 J1 J2 : Nat → Nat → Int32} {R : Nat → Nat → Nat} {P : Option Value → AH → Prop}
theorem pe_strike (hS : m_S M K L R) (hR : mR M I) {x s : Int32} (h1 : ¬ ((0 ≤ x ∧ x ≤ I M 41 - 1) ∧ (0 ≤ s ∧ s ≤ 199)) → P (some (.int (-1))) (n, t, K, L, (a_ui I (M + 23) 1 (I (M + 23) 1 + 1)), R)) (h2 : ((0 ≤ x ∧ x ≤ I M 41 - 1) ∧ (0 ≤ s ∧ s ≤ 199)) → (I (M + 31) x.toNatClampNeg) < 1000000 → P (some (.int (-3))) (n, t, K, L, (a_ui I (M + 23) 3 (I (M + 23) 3 + 1)), R)) (h3 : ((0 ≤ x ∧ x ≤ I M 41 - 1) ∧ (0 ≤ s ∧ s ≤ 199)) → ¬ (I (M + 31) x.toNatClampNeg) < 1000000 → P (some (.int 1)) (n, t, K, L, (a_ui I (M + 31) x.toNatClampNeg s), R)) : a_does (d + 3) 207 [a_rf M, .int x, .int s] (n, t, K, L, I, R) P := by
  have g1 := rg_texts hR
  rw [a_enter1 (M := a_m207) rfl (a_cat_rf (a_cat_int (a_cat_int a_cat_nil))) (show 3 ≤ 3 by decide)]
  show a_at _ (a_xm a_m207) 0 [some (a_rf M), some (.int x), some (.int s)] [] _ _
  simp only [q207_0, q207_1, q207_2, q207_3, q207_6, q207_7, q207_8, q207_11, q207_14, q207_15, q207_18, q207_21, q207_22, q207_23, q207_26, q207_27, q207_28, q207_31, q207_32, q207_33, q207_36, q207_39, q207_40, q207_42, q207_45, q207_46, q207_47, q207_50, q207_51, q207_52, q207_53, q207_54, m_0 hS, m_K hS, mR_struckFrom hS, mK_struckFrom hS, mL_struckFrom hS, sp_in, sp_isShift, sp_refuse_1 hS, sp_refuse_2 hS, sp_refuse_3 hS, sp_refuse_4 hS, sp_refuse_5 hS, sp_refuse_6 hS, as_nil, as_i, as_r, Nat.reduceAdd, Nat.reduceLeDiff, z_eq0, z_eq1, z_or, z_em, Classical.not_not, not_false_eq_true, not_true_eq_false, true_and, and_true, false_and, and_false, and_self, true_implies, false_implies, implies_true, Option.toList_some, Option.toList_none, List.cons_append, List.nil_append, Nat.add_eq_zero_iff, a_nl_i, a_nl_r, a_nl_n, true_or, or_true, eq_self, ok_4, ok_5, ok_6, ok_7, ok_9, ok_10, ok_20, ok_21, ok_24, ok_30, ok_48, ok_50, ok_60, ok_80, ok_120, ok_180, ok_192, ok_200, ok_900, ok_1000, ok_84000, ui_ap, ne_MM, ne_M0, ne_0M, Nat.reduceEqDiff, reduceIte, if_true, if_false]
  grind
end SZ
section KS
variable {d n t C c n0 n' n'' t' : Nat} {K L K0 L0 K' L' K'' L'' : Nat → Nat} {I I0 J J0 J1 J2 : Nat → Nat → Int32} {R R0 R' R'' : Nat → Nat → Nat} {P : Option Value → AH → Prop}
theorem ke_strike (hH : cH C c (n + 1) t K L I R) {x s : Int32} (hx : 0 ≤ x → x < I (C + 7) 3 → ¬ (R (C + 8) x.toNatClampNeg) = 0) (h1 : ¬ ((0 ≤ x ∧ x < I (C + 7) 3) ∧ (0 ≤ s ∧ s < 200)) → ∀ J, cZ C c (n + 1) K L I R (n + 1) t K L J R → P (some (.int (-1))) (n + 1, t, K, L, J, R)) (h2 : ((0 ≤ x ∧ x < I (C + 7) 3) ∧ (0 ≤ s ∧ s < 200)) → ¬ I (R (C + 8) x.toNatClampNeg) 4 = 0 → ∀ J, cZ C c (n + 1) K L I R (n + 1) t K L J R → P (some (.int (-3))) (n + 1, t, K, L, J, R)) (hP : ((0 ≤ x ∧ x < I (C + 7) 3) ∧ (0 ≤ s ∧ s < 200)) → I (R (C + 8) x.toNatClampNeg) 4 = 0 → cT C K L (a_ui (a_ui I (R (C + 8) x.toNatClampNeg) 4 1) (R (C + 8) x.toNatClampNeg) 3 s) R → P (some (.int 1)) (n + 1, t, K, L, (a_ui (a_ui I (R (C + 8) x.toNatClampNeg) 4 1) (R (C + 8) x.toNatClampNeg) 3 s), R)) : a_does (d + 70) 84 [a_rf C, .int x, .int s] (n + 1, t, K, L, I, R) P := by
  have hT := hH.1
  have hS := hT.s
  have hZ := cZ_refl hH
  have gA := hT.g_asksR
  have gB := hT.g_benchesR
  have gX := hT.g_textsR
  have g7 := hT.g_texts
  have gi := gX x.toNatClampNeg
  have gx := fun h => (hT.g_txt (R (C + 8) x.toNatClampNeg) (gi.resolve_left h)).1
  have hx2 : (R (C + 8) x.toNatClampNeg) = 0 → ¬ ((0 ≤ x ∧ x < I (C + 7) 3) ∧ (0 ≤ s ∧ s < 200)) := fun e q => hx q.1.1 q.1.2 e
  have hf : ((0 ≤ x ∧ x < I (C + 7) 3) ∧ (0 ≤ s ∧ s < 200)) → I (R (C + 8) x.toNatClampNeg) 4 = 0 → ¬ (R (C + 8) x.toNatClampNeg) = 0 → P (some (.int 1)) (n + 1, t, K, L, (a_ui (a_ui I (R (C + 8) x.toNatClampNeg) 4 1) (R (C + 8) x.toNatClampNeg) 3 s), R) := fun q1 q2 q3 => hP q1 q2 (sT_txt (sT_txt hT (gx q3) (gi.resolve_left q3)) (gx q3) (gi.resolve_left q3))
  rw [a_enter1 (M := a_m84) rfl (a_cat_rf (a_cat_int (a_cat_int a_cat_nil))) (show 3 ≤ 4 by decide)]
  show a_at _ (a_xm a_m84) 0 [some (a_rf C), some (.int x), some (.int s), none] [] _ _
  repeat' first
    | with_reducible apply And.intro
    | with_reducible assumption
    | with_reducible intro _
    | refine ck_refuse hZ (fun _ _ => ?_)
    | refine h1 ?_ _ (by assumption)
    | refine h2 ?_ ?_ _ (by assumption)
    | refine hf ?_ ?_ ?_
    | simp only [q84_0, q84_1, q84_4, q84_5, q84_8, q84_9, q84_10, q84_13, q84_14, q84_17, q84_20, q84_21, q84_22, q84_25, q84_26, q84_27, q84_30, q84_33, q84_34, q84_36, q84_39, q84_40, q84_41, q84_42, q84_45, q84_46, q84_47, q84_50, q84_51, k_0 hS, z_C hS, r_0_1 hS, k_7 hS, z_7, sp_textAt hS gX, sp_isShiftC, as_nil, as_i, as_r, Nat.reduceAdd, Nat.reduceLeDiff, z_eq0, z_eq1, z_or, z_em, Classical.not_not, not_false_eq_true, not_true_eq_false, true_and, and_true, false_and, and_false, and_self, true_implies, false_implies, implies_true, Option.toList_some, Option.toList_none, List.cons_append, List.nil_append, Nat.add_eq_zero_iff, a_nl_i, a_nl_r, a_nl_n, true_or, or_true, eq_self, a_isRA_22, a_isRA_24, a_isRA_32, a_isA_20, ok_4, ok_5, ok_6, ok_7, ok_9, ok_20, ok_21, ok_30, ok_50, ok_180, ok_192, ok_200, ui_ap, cc_ne, cc_n0, cc_0n, Nat.reduceEqDiff, reduceIte, if_true, if_false]
  all_goals ((try clear hf); (try clear gA); (try clear gB); (try clear gX); (try clear gx); (try clear h1); (try clear h2); (try clear h3); (try clear h4); (try clear hP); (try clear hZ); (try clear hH); (try clear hT); (try clear hS); grind [ui_ap])
end KS
end
section
/-! the model's cells: Y k j is cell j of the reference's k-th row (0: its own) -/
def yv (M : Nat) (J : Nat → Nat → Int32) : Nat → Nat → Int32 := fun k j => J (M + k) j
/-- a READER's mark of an ASK that counts, -9 without -/
def cmY (Y : Nat → Nat → Int32) (r a : Int32) : Int32 := if Y 38 (30 * r + a).toNatClampNeg = 0 then -9 else Y 36 (30 * r + a).toNatClampNeg
/-- over the others' marks of an ASK -/
def fdI {α : Type} (g : Int32 → Int32 → Int32) (st : α → Int32 → α) (r a : Int32) : Nat → Int32 → α → α
  | 0, _, p => p
  | k + 1, o, p => fdI g st r a k (o + 1) (if ¬ o = r ∧ ¬ g r a = -9 ∧ ¬ g o a = -9 then st p (g r a - g o a) else p)
def fdO {α : Type} (g : Int32 → Int32 → Int32) (st : α → Int32 → α) (r : Int32) : Nat → Int32 → α → α
  | 0, _, p => p
  | k + 1, a, p => fdO g st r k (a + 1) (fdI g st r a 6 0 p)
theorem fdI_no {α : Type} {g : Int32 → Int32 → Int32} {st : α → Int32 → α} {r a : Int32} (h : g r a = -9) : ∀ (k : Nat) (o : Int32) (p : α), fdI g st r a k o p = p := by
  intro k
  induction k with
  | zero => intro o p; rfl
  | succ k ih =>
    intro o p
    unfold fdI
    rw [if_neg (fun w => w.2.1 h)]
    exact ih _ _
def hbS (p : Int32 × Int32) (d : Int32) : Int32 × Int32 := (p.1 + d, p.2 + 1)
/-- HABIT -/
def hbY (g : Int32 → Int32 → Int32) (n r : Int32) : Int32 := if (fdO g hbS r n.toNatClampNeg 0 (0, 0)).2 = 0 then 0 else if 0 ≤ (fdO g hbS r n.toNatClampNeg 0 (0, 0)).1 then (fdO g hbS r n.toNatClampNeg 0 (0, 0)).1 / (fdO g hbS r n.toNatClampNeg 0 (0, 0)).2 else -(((fdO g hbS r n.toNatClampNeg 0 (0, 0)).2 - 1 - (fdO g hbS r n.toNatClampNeg 0 (0, 0)).1) / (fdO g hbS r n.toNatClampNeg 0 (0, 0)).2)
section YA
variable {d n t M : Nat} {K L : Nat → Nat} {I I0 J J0 J1 J2 : Nat → Nat → Int32} {R : Nat → Nat → Nat} {P : Option Value → AH → Prop} {f : Nat → Int32} {e : Int32}
/-- marks that count are marks -/
def mkP (Y : Nat → Nat → Int32) : Prop := ∀ k, ¬ Y 38 k = 0 → 0 ≤ Y 36 k ∧ Y 36 k ≤ 100
theorem cmY_no {Y : Nat → Nat → Int32} (h : mkP Y) {r a : Int32} : (cmY Y r a = -9) = (Y 38 (30 * r + a).toNatClampNeg = 0) := by
  unfold cmY
  refine propext ⟨fun q => ?_, fun q => by rw [if_pos q]⟩
  refine Classical.byContradiction (fun w => ?_)
  rw [if_neg w] at q
  have := (h _ w).1
  rw [q] at this
  exact absurd this (by decide)
theorem xt_habitOf_19 (hS : m_S M K L R) (hm : mkP (yv M I)) {r a : Int32} (hr : 0 ≤ r ∧ r ≤ 5) (ha : 0 ≤ a ∧ a < 30) {V : Int32 × Int32} (hC : ∀ o, a_at d (a_xm a_m194) 101 [some (a_rf M), some (.int r), some (.int (V.1)), some (.int (V.2)), some (.int a), some (.int o)] [] (n, t, K, L, I, R) P) : ∀ o : Int32, o ≤ 6 → ∀ s q, 0 ≤ o → fdI (cmY (yv M I)) hbS r a (6 - o.toNatClampNeg) o (s, q) = V → a_at d (a_xm a_m194) 19 [some (a_rf M), some (.int r), some (.int s), some (.int q), some (.int a), some (.int o)] [] (n, t, K, L, I, R) P := by
  refine up_ind 6 (fun o ho ih => ?_)
  intro s q h0 hV
  have er := cmY_no (r := r) (a := a) hm
  have eo := cmY_no (r := o) (a := a) hm
  have hexit : (¬ o < 6 ∨ I (M + 38) (30 * r + a).toNatClampNeg = 0) → a_at d (a_xm a_m194) 101 [some (a_rf M), some (.int r), some (.int s), some (.int q), some (.int a), some (.int o)] [] (n, t, K, L, I, R) P := fun w => by
    have hVe : V = (s, q) := by
      rw [← hV]
      by_cases c : o < 6
      · exact fdI_no (by rw [er]; exact w.resolve_left (fun z => z c)) _ _ _
      · have : o = 6 := by clear ih hC hV hm er eo; grind
        subst this
        rfl
    have hc := hC o
    rw [hVe] at hc
    exact hc
  have hst : o < 6 → ∀ p, (p = if ¬ o = r ∧ ¬ cmY (yv M I) r a = -9 ∧ ¬ cmY (yv M I) o a = -9 then hbS (s, q) (cmY (yv M I) r a - cmY (yv M I) o a) else (s, q)) → a_at d (a_xm a_m194) 19 [some (a_rf M), some (.int r), some (.int (p.1)), some (.int (p.2)), some (.int a), some (.int (o + 1))] [] (n, t, K, L, I, R) P := fun c p hp => by
    have i3 : o.toNatClampNeg < 6 := show _ < (6 : Int32).toNatClampNeg from cl_lt h0 c
    have ei : (o + 1).toNatClampNeg = o.toNatClampNeg + 1 := cl_up h0 (by clear ih hC hV hm er eo hp; grind)
    refine ih c p.1 p.2 (by clear ih hC hV hm er eo hp; grind) ?_
    rw [← hV, ei, show 6 - o.toNatClampNeg = (6 - (o.toNatClampNeg + 1)) + 1 by omega]
    conv => rhs; unfold fdI
    rw [← hp]
  have hgo1 : o < 6 → ¬ I (M + 38) (30 * r + a).toNatClampNeg = 0 → ¬ o = r → ¬ I (M + 38) (30 * o + a).toNatClampNeg = 0 → a_at d (a_xm a_m194) 19 [some (a_rf M), some (.int r), some (.int (s + (I (M + 36) (30 * r + a).toNatClampNeg - I (M + 36) (30 * o + a).toNatClampNeg))), some (.int (q + 1)), some (.int a), some (.int (o + 1))] [] (n, t, K, L, I, R) P := fun c1 c2 c3 c4 => by
    have := hst c1 (hbS (s, q) (cmY (yv M I) r a - cmY (yv M I) o a)) (by rw [if_pos ⟨c3, by rw [er]; exact c2, by rw [eo]; exact c4⟩])
    have e1 : cmY (yv M I) r a = I (M + 36) (30 * r + a).toNatClampNeg := if_neg c2
    have e2 : cmY (yv M I) o a = I (M + 36) (30 * o + a).toNatClampNeg := if_neg c4
    rw [e1, e2] at this
    exact this
  have hgo0 : o < 6 → (o = r ∨ I (M + 38) (30 * o + a).toNatClampNeg = 0) → a_at d (a_xm a_m194) 19 [some (a_rf M), some (.int r), some (.int s), some (.int q), some (.int a), some (.int (o + 1))] [] (n, t, K, L, I, R) P := fun c1 c2 => by
    exact hst c1 (s, q) (by rw [if_neg (fun w => c2.elim w.1 (fun z => w.2.2 (by rw [eo]; exact z)))])
  clear ih hC hV hst er eo hm
  rw [q194_19]
  repeat' first
    | with_reducible apply And.intro
    | with_reducible assumption
    | with_reducible intro _
    | refine hexit ?_
    | refine hgo1 ?_ ?_ ?_ ?_
    | refine hgo0 ?_ ?_
    | simp only [q194_21, q194_23, q194_26, q194_27, q194_30, q194_32, q194_33, q194_34, q194_36, q194_37, q194_38, q194_41, q194_43, q194_44, q194_47, q194_48, q194_51, q194_53, q194_55, q194_56, q194_58, q194_59, q194_60, q194_63, q194_64, q194_65, q194_68, q194_70, q194_71, q194_72, q194_74, q194_75, q194_76, q194_77, q194_80, q194_82, q194_84, q194_85, q194_87, q194_88, q194_89, q194_90, q194_91, q194_92, q194_95, q194_98, m_0 hS, m_K hS, mR_doesCount hS, mK_doesCount hS, mL_doesCount hS, mR_marks hS, mK_marks hS, mL_marks hS, as_nil, as_i, as_r, Nat.reduceAdd, Nat.reduceLeDiff, z_eq0, z_eq1, z_or, z_em, Classical.not_not, not_false_eq_true, not_true_eq_false, true_and, and_true, false_and, and_false, and_self, true_implies, false_implies, implies_true, Option.toList_some, Option.toList_none, List.cons_append, List.nil_append, Nat.add_eq_zero_iff, a_nl_i, a_nl_r, a_nl_n, true_or, or_true, eq_self, ok_4, ok_5, ok_6, ok_7, ok_9, ok_10, ok_20, ok_21, ok_24, ok_30, ok_48, ok_50, ok_60, ok_80, ok_120, ok_180, ok_192, ok_200, ok_900, ok_1000, ok_84000]
  all_goals ((try clear hexit); (try clear hgo1); (try clear hgo0); (try clear hS); grind [ui_ap])
theorem xt_habitOf_7 (hS : m_S M K L R) (hR : mR M I) (hm : mkP (yv M I)) {r : Int32} (hr : 0 ≤ r ∧ r ≤ 5) {V : Int32 × Int32} (hC : ∀ a o, a_at d (a_xm a_m194) 107 [some (a_rf M), some (.int r), some (.int (V.1)), some (.int (V.2)), some (.int a), o] [] (n, t, K, L, I, R) P) : ∀ a : Int32, a ≤ 30 → ∀ s q o, 0 ≤ a → a ≤ I M 17 → fdO (cmY (yv M I)) hbS r ((I M 17).toNatClampNeg - a.toNatClampNeg) a (s, q) = V → a_at d (a_xm a_m194) 7 [some (a_rf M), some (.int r), some (.int s), some (.int q), some (.int a), o] [] (n, t, K, L, I, R) P := by
  refine up_ind 30 (fun a ha ih => ?_)
  intro s q o h0 h1 hV
  have g1 := rg_asks hR
  have hexit : ¬ a < I M 17 → a_at d (a_xm a_m194) 107 [some (a_rf M), some (.int r), some (.int s), some (.int q), some (.int a), o] [] (n, t, K, L, I, R) P := fun w => by
    have ea : a = I M 17 := by clear ih hC hV hm; grind
    have hVe : V = (s, q) := by
      rw [← hV, ea, Nat.sub_self]
      rfl
    have hc := hC a o
    rw [hVe] at hc
    exact hc
  have hgo : a < I M 17 → a_at d (a_xm a_m194) 19 [some (a_rf M), some (.int r), some (.int s), some (.int q), some (.int a), some (.int 0)] [] (n, t, K, L, I, R) P := fun c => by
    have i3 := cl_lt h0 c
    have a30 : a < 30 := by clear ih hC hV hm hexit; grind
    have ei : (a + 1).toNatClampNeg = a.toNatClampNeg + 1 := cl_up h0 (by clear ih hC hV hm hexit; grind)
    refine xt_habitOf_19 hS hm hr ⟨h0, a30⟩ (V := fdI (cmY (yv M I)) hbS r a 6 0 (s, q)) (fun o => ?_) 0 (by decide) s q (by decide) rfl
    simp only [q194_101, q194_104, as_nil, as_i, as_r, Nat.reduceAdd, Nat.reduceLeDiff, z_eq0, z_eq1, z_or, z_em, Classical.not_not, not_false_eq_true, not_true_eq_false, true_and, and_true, false_and, and_false, and_self, true_implies, false_implies, implies_true, Option.toList_some, Option.toList_none, List.cons_append, List.nil_append, Nat.add_eq_zero_iff, a_nl_i, a_nl_r, a_nl_n, true_or, or_true, eq_self, ok_4, ok_5, ok_6, ok_7, ok_9, ok_10, ok_20, ok_21, ok_24, ok_30, ok_48, ok_50, ok_60, ok_80, ok_120, ok_180, ok_192, ok_200, ok_900, ok_1000, ok_84000]
    refine ih a30 _ _ _ (by clear ih hC hV hm hexit; grind) (by clear ih hC hV hm hexit; grind) ?_
    rw [← hV, ei, show (I M 17).toNatClampNeg - a.toNatClampNeg = ((I M 17).toNatClampNeg - (a.toNatClampNeg + 1)) + 1 by omega]
    rfl
  clear ih hC hV hm
  rw [q194_7]
  repeat' first
    | with_reducible apply And.intro
    | with_reducible assumption
    | with_reducible intro _
    | refine hexit ?_
    | refine hgo ?_
    | simp only [q194_9, q194_10, q194_13, q194_16, q194_17, m_0 hS, m_K hS, as_nil, as_i, as_r, Nat.reduceAdd, Nat.reduceLeDiff, z_eq0, z_eq1, z_or, z_em, Classical.not_not, not_false_eq_true, not_true_eq_false, true_and, and_true, false_and, and_false, and_self, true_implies, false_implies, implies_true, Option.toList_some, Option.toList_none, List.cons_append, List.nil_append, Nat.add_eq_zero_iff, a_nl_i, a_nl_r, a_nl_n, true_or, or_true, eq_self, ok_4, ok_5, ok_6, ok_7, ok_9, ok_10, ok_20, ok_21, ok_24, ok_30, ok_48, ok_50, ok_60, ok_80, ok_120, ok_180, ok_192, ok_200, ok_900, ok_1000, ok_84000]
  all_goals ((try clear hexit); (try clear hgo); (try clear hS); (try clear hR); grind [ui_ap])
theorem xt_habitOf (hS : m_S M K L R) (hR : mR M I) (hm : mkP (yv M I)) {r : Int32} (hr : 0 ≤ r ∧ r ≤ 5) (hP : P (some (.int (hbY (cmY (yv M I)) (I M 17) r))) (n, t, K, L, I, R)) : a_does (d + 1) 194 [a_rf M, .int r] (n, t, K, L, I, R) P := by
  have g1 := rg_asks hR
  have hl := xt_habitOf_7 (d := d) (n := n) (t := t) (P := P) hS hR hm hr (V := fdO (cmY (yv M I)) hbS r (I M 17).toNatClampNeg 0 (0, 0)) (fun a o => by
    unfold hbY at hP
    generalize fdO (cmY (yv M I)) hbS r (I M 17).toNatClampNeg 0 (0, 0) = W at hP ⊢
    simp only [q194_107, q194_108, q194_111, q194_112, q194_113, q194_114, q194_117, q194_118, q194_119, q194_120, q194_123, q194_124, q194_125, q194_126, q194_127, q194_128, q194_129, q194_130, q194_131, as_nil, as_i, as_r, Nat.reduceAdd, Nat.reduceLeDiff, z_eq0, z_eq1, z_or, z_em, Classical.not_not, not_false_eq_true, not_true_eq_false, true_and, and_true, false_and, and_false, and_self, true_implies, false_implies, implies_true, Option.toList_some, Option.toList_none, List.cons_append, List.nil_append, Nat.add_eq_zero_iff, a_nl_i, a_nl_r, a_nl_n, true_or, or_true, eq_self, ok_4, ok_5, ok_6, ok_7, ok_9, ok_10, ok_20, ok_21, ok_24, ok_30, ok_48, ok_50, ok_60, ok_80, ok_120, ok_180, ok_192, ok_200, ok_900, ok_1000, ok_84000]
    by_cases c0 : W.2 = 0
    · rw [if_pos c0] at hP
      simp only [c0]
      grind
    · rw [if_neg c0] at hP
      by_cases c1 : 0 ≤ W.1
      · rw [if_pos c1] at hP
        grind
      · rw [if_neg c1] at hP
        grind) 0 (by decide) 0 0 none (by decide) g1.1 (by rw [show (0 : Int32).toNatClampNeg = 0 from rfl, Nat.sub_zero])
  rw [a_enter1 (M := a_m194) rfl (a_cat_rf (a_cat_int a_cat_nil)) (show 2 ≤ 6 by decide)]
  show a_at _ (a_xm a_m194) 0 [some (a_rf M), some (.int r), none, none, none, none] [] _ _
  repeat' first
    | with_reducible apply And.intro
    | with_reducible assumption
    | with_reducible intro _
    | with_reducible apply hl
    | simp only [q194_0, q194_1, q194_2, q194_3, q194_4, q194_5, as_nil, as_i, as_r, Nat.reduceAdd, Nat.reduceLeDiff, z_eq0, z_eq1, z_or, z_em, Classical.not_not, not_false_eq_true, not_true_eq_false, true_and, and_true, false_and, and_false, and_self, true_implies, false_implies, implies_true, Option.toList_some, Option.toList_none, List.cons_append, List.nil_append, Nat.add_eq_zero_iff, a_nl_i, a_nl_r, a_nl_n, true_or, or_true, eq_self, ok_4, ok_5, ok_6, ok_7, ok_9, ok_10, ok_20, ok_21, ok_24, ok_30, ok_48, ok_50, ok_60, ok_80, ok_120, ok_180, ok_192, ok_200, ok_900, ok_1000, ok_84000]
  all_goals grind [ui_ap]
end YA
end
section
/-! the class: marks, just so -/
section YB
variable {d n t C : Nat} {K L : Nat → Nat} {I I0 J J0 J1 J2 : Nat → Nat → Int32} {R : Nat → Nat → Nat} {P : Option Value → AH → Prop}
variable {Y : Nat → Nat → Int32}
/-- the class's marks are the model's -/
def cmP (C : Nat) (I : Nat → Nat → Int32) (Y : Nat → Nat → Int32) : Prop := (∀ k, k < 180 → I (C + 20) k = if Y 38 k = 0 then -9 else Y 36 k) ∧ I (C + 14) 4 = Y 0 17
theorem ix_30 {r a : Int32} (hr : 0 ≤ r ∧ r ≤ 5) (ha : 0 ≤ a ∧ a < 30) : (30 * r + a).toNatClampNeg < 180 ∧ 0 ≤ 30 * r + a ∧ 30 * r + a < 180 := by
  have e : 0 ≤ 30 * r + a ∧ 30 * r + a < 180 := by grind
  exact ⟨show _ < (180 : Int32).toNatClampNeg from cl_lt e.1 e.2, e⟩
theorem cm_at (h : cmP C I Y) {r a : Int32} (hr : 0 ≤ r ∧ r ≤ 5) (ha : 0 ≤ a ∧ a < 30) : I (C + 20) (30 * r + a).toNatClampNeg = cmY Y r a := h.1 _ (ix_30 hr ha).1
theorem ce_markBy (hS : cS C K L R) {r a : Int32} (hr : 0 ≤ r ∧ r ≤ 5) (ha : 0 ≤ a ∧ a < 30) (hm : cmP C I Y) (hP : P (some (.int (cmY Y r a))) (n, t, K, L, I, R)) : a_does (d + 1) 30 [a_rf (C + 17), .int r, .int a] (n, t, K, L, I, R) P := by
  have e := (ix_30 hr ha).2
  rw [← cm_at hm hr ha] at hP
  have c : r * 30 = 30 * r := Int32.mul_comm _ _
  rw [a_enter1 (M := a_m30) rfl (a_cat_rf (a_cat_int (a_cat_int a_cat_nil))) (show 3 ≤ 4 by decide)]
  show a_at _ (a_xm a_m30) 0 [some (a_rf (C + 17)), some (.int r), some (.int a), none] [] _ _
  simp only [q30_0, q30_1, q30_3, q30_4, q30_5, q30_6, q30_7, q30_8, q30_11, q30_12, q30_13, q30_16, q30_17, q30_20, q30_21, q30_24, q30_25, q30_26, q30_29, q30_31, k_17 hS, z_17, r_17_3 hS, k_20 hS, l_20 hS, z_20, as_nil, as_i, as_r, Nat.reduceAdd, Nat.reduceLeDiff, z_eq0, z_eq1, z_or, z_em, Classical.not_not, not_false_eq_true, not_true_eq_false, true_and, and_true, false_and, and_false, and_self, true_implies, false_implies, implies_true, Option.toList_some, Option.toList_none, List.cons_append, List.nil_append, Nat.add_eq_zero_iff, a_nl_i, a_nl_r, a_nl_n, true_or, or_true, eq_self, a_isRA_22, a_isRA_24, a_isRA_32, a_isA_20, ok_4, ok_5, ok_6, ok_7, ok_9, ok_20, ok_21, ok_30, ok_50, ok_180, ok_192, ok_200, of_180, c]
  clear hm
  grind
theorem ce_areTwo (hS : cS C K L R) {r o a : Int32} (hr : 0 ≤ r ∧ r ≤ 5) (ho : 0 ≤ o ∧ o ≤ 5) (ha : 0 ≤ a ∧ a < 30) (hm : cmP C I Y) (h0 : ¬ (¬ o = r ∧ ¬ cmY Y r a = -9 ∧ ¬ cmY Y o a = -9) → P (some (.int 0)) (n, t, K, L, I, R)) (h1 : (¬ o = r ∧ ¬ cmY Y r a = -9 ∧ ¬ cmY Y o a = -9) → P (some (.int 1)) (n, t, K, L, I, R)) : a_does (d + 2) 29 [a_rf (C + 17), .int r, .int o, .int a] (n, t, K, L, I, R) P := by
  rw [a_enter1 (M := a_m29) rfl (a_cat_rf (a_cat_int (a_cat_int (a_cat_int a_cat_nil)))) (show 4 ≤ 4 by decide)]
  show a_at _ (a_xm a_m29) 0 [some (a_rf (C + 17)), some (.int r), some (.int o), some (.int a)] [] _ _
  repeat' first
    | with_reducible apply And.intro
    | with_reducible assumption
    | with_reducible intro _
    | refine ce_markBy hS hr ha hm ?_
    | refine ce_markBy hS ho ha hm ?_
    | refine h0 ?_
    | refine h1 ?_
    | simp only [q29_0, q29_1, q29_2, q29_5, q29_6, q29_7, q29_8, q29_11, q29_13, q29_16, q29_17, q29_18, q29_19, q29_22, q29_24, q29_27, q29_28, q29_31, q29_32, k_17 hS, z_17, as_nil, as_i, as_r, Nat.reduceAdd, Nat.reduceLeDiff, z_eq0, z_eq1, z_or, z_em, Classical.not_not, not_false_eq_true, not_true_eq_false, true_and, and_true, false_and, and_false, and_self, true_implies, false_implies, implies_true, Option.toList_some, Option.toList_none, List.cons_append, List.nil_append, Nat.add_eq_zero_iff, a_nl_i, a_nl_r, a_nl_n, true_or, or_true, eq_self, a_isRA_22, a_isRA_24, a_isRA_32, a_isA_20, ok_4, ok_5, ok_6, ok_7, ok_9, ok_20, ok_21, ok_30, ok_50, ok_180, ok_192, ok_200]
  all_goals ((try clear h0); (try clear h1); (try clear hm); (try clear hS); grind [ui_ap])
theorem le_habitOf_22 (hS : cS C K L R) (hm : cmP C I Y) {r a : Int32} (hr : 0 ≤ r ∧ r ≤ 5) (ha : 0 ≤ a ∧ a < 30) {V : Int32 × Int32} (hn : ∀ u, a_at (d + 2) (a_xm a_m28) 69 [some (a_rf (C + 17)), some (.int r), some (.int (V.1)), some (.int (V.2)), some (.int a), u] [] (n, t, K, L, I, R) P) : ∀ o : Int32, o ≤ 6 → ∀ s q, 0 ≤ o → fdI (cmY Y) hbS r a (6 - o.toNatClampNeg) o (s, q) = V → a_at (d + 2) (a_xm a_m28) 22 [some (a_rf (C + 17)), some (.int r), some (.int s), some (.int q), some (.int a), some (.int o)] [] (n, t, K, L, I, R) P := by
  refine up_ind 6 (fun o hk ih => ?_)
  intro s q h0 hV
  have hexit : ¬ o < 6 → a_at (d + 2) (a_xm a_m28) 69 [some (a_rf (C + 17)), some (.int r), some (.int s), some (.int q), some (.int a), some (.int o)] [] (n, t, K, L, I, R) P := fun w => by
    have : o = 6 := by clear ih hn hV hm hS; grind
    subst this
    have hc := hn (some (.int 6))
    rw [← hV] at hc
    exact hc
  have hst : o < 6 → ∀ p, (p = if ¬ o = r ∧ ¬ cmY Y r a = -9 ∧ ¬ cmY Y o a = -9 then hbS (s, q) (cmY Y r a - cmY Y o a) else (s, q)) → a_at (d + 2) (a_xm a_m28) 22 [some (a_rf (C + 17)), some (.int r), some (.int (p.1)), some (.int (p.2)), some (.int a), some (.int (o + 1))] [] (n, t, K, L, I, R) P := fun c p hp => by
    have i3 : o.toNatClampNeg < 6 := show _ < (6 : Int32).toNatClampNeg from cl_lt h0 c
    have ei : (o + 1).toNatClampNeg = o.toNatClampNeg + 1 := cl_up h0 (by clear ih hn hV hm hp hS; grind)
    refine ih c p.1 p.2 (by clear ih hn hV hm hp hS; grind) ?_
    rw [← hV, ei, show 6 - o.toNatClampNeg = (6 - (o.toNatClampNeg + 1)) + 1 by omega]
    conv => rhs; unfold fdI
    rw [← hp]
  have h29 : o < 6 → a_at (d + 2) (a_xm a_m28) 29 [some (a_rf (C + 17)), some (.int r), some (.int s), some (.int q), some (.int a), some (.int o)] [] (n, t, K, L, I, R) P := fun c => by
    have ho : 0 ≤ o ∧ o ≤ 5 := by clear ih hn hV hm hst hS; grind
    have hst := hst c
    simp only [q28_29, q28_30, q28_31, q28_33, q28_35, k_17 hS, z_17, as_nil, as_i, as_r, Nat.reduceAdd, Nat.reduceLeDiff, z_eq0, z_eq1, z_or, z_em, Classical.not_not, not_false_eq_true, not_true_eq_false, true_and, and_true, false_and, and_false, and_self, true_implies, false_implies, implies_true, Option.toList_some, Option.toList_none, List.cons_append, List.nil_append, Nat.add_eq_zero_iff, a_nl_i, a_nl_r, a_nl_n, true_or, or_true, eq_self, a_isRA_22, a_isRA_24, a_isRA_32, a_isA_20, ok_4, ok_5, ok_6, ok_7, ok_9, ok_20, ok_21, ok_30, ok_50, ok_180, ok_192, ok_200]
    refine ce_areTwo hS hr ho ha hm (fun w => ?_) (fun w => ?_)
    · have hg := hst (s, q) (by rw [if_neg w])
      simp only [q28_38, q28_63, q28_66, as_nil, as_i, as_r, Nat.reduceAdd, Nat.reduceLeDiff, z_eq0, z_eq1, z_or, z_em, Classical.not_not, not_false_eq_true, not_true_eq_false, true_and, and_true, false_and, and_false, and_self, true_implies, false_implies, implies_true, Option.toList_some, Option.toList_none, List.cons_append, List.nil_append, Nat.add_eq_zero_iff, a_nl_i, a_nl_r, a_nl_n, true_or, or_true, eq_self, a_isRA_22, a_isRA_24, a_isRA_32, a_isA_20, ok_4, ok_5, ok_6, ok_7, ok_9, ok_20, ok_21, ok_30, ok_50, ok_180, ok_192, ok_200]
      first
        | exact hg
        | exact ⟨fun _ => hg, fun z => absurd rfl z⟩
    · have hg := hst (hbS (s, q) (cmY Y r a - cmY Y o a)) (by rw [if_pos w])
      have n1 : ¬ (1 : Int32) = 0 := by decide
      simp only [q28_38, q28_41, q28_42, q28_43, q28_44, q28_46, k_17 hS, z_17, as_nil, as_i, as_r, Nat.reduceAdd, Nat.reduceLeDiff, z_eq0, z_eq1, z_or, z_em, Classical.not_not, not_false_eq_true, not_true_eq_false, true_and, and_true, false_and, and_false, and_self, true_implies, false_implies, implies_true, Option.toList_some, Option.toList_none, List.cons_append, List.nil_append, Nat.add_eq_zero_iff, a_nl_i, a_nl_r, a_nl_n, true_or, or_true, eq_self, a_isRA_22, a_isRA_24, a_isRA_32, a_isA_20, ok_4, ok_5, ok_6, ok_7, ok_9, ok_20, ok_21, ok_30, ok_50, ok_180, ok_192, ok_200, n1]
      try simp only [true_and, and_true, true_implies, false_implies, implies_true, not_true_eq_false, not_false_eq_true]
      refine ce_markBy hS hr ha hm ?_
      simp only [q28_49, q28_50, q28_52, q28_54, k_17 hS, z_17, as_nil, as_i, as_r, Nat.reduceAdd, Nat.reduceLeDiff, z_eq0, z_eq1, z_or, z_em, Classical.not_not, not_false_eq_true, not_true_eq_false, true_and, and_true, false_and, and_false, and_self, true_implies, false_implies, implies_true, Option.toList_some, Option.toList_none, List.cons_append, List.nil_append, Nat.add_eq_zero_iff, a_nl_i, a_nl_r, a_nl_n, true_or, or_true, eq_self, a_isRA_22, a_isRA_24, a_isRA_32, a_isA_20, ok_4, ok_5, ok_6, ok_7, ok_9, ok_20, ok_21, ok_30, ok_50, ok_180, ok_192, ok_200]
      refine ce_markBy hS ho ha hm ?_
      simp only [q28_57, q28_58, q28_59, q28_60, q28_63, q28_66, as_nil, as_i, as_r, Nat.reduceAdd, Nat.reduceLeDiff, z_eq0, z_eq1, z_or, z_em, Classical.not_not, not_false_eq_true, not_true_eq_false, true_and, and_true, false_and, and_false, and_self, true_implies, false_implies, implies_true, Option.toList_some, Option.toList_none, List.cons_append, List.nil_append, Nat.add_eq_zero_iff, a_nl_i, a_nl_r, a_nl_n, true_or, or_true, eq_self, a_isRA_22, a_isRA_24, a_isRA_32, a_isA_20, ok_4, ok_5, ok_6, ok_7, ok_9, ok_20, ok_21, ok_30, ok_50, ok_180, ok_192, ok_200]
      exact hg
  clear ih hn hV hst hm
  rw [q28_22]
  repeat' first
    | with_reducible apply And.intro
    | with_reducible assumption
    | with_reducible intro _
    | refine hexit ?_
    | refine h29 ?_
    | simp only [q28_24, q28_26, as_nil, as_i, as_r, Nat.reduceAdd, Nat.reduceLeDiff, z_eq0, z_eq1, z_or, z_em, Classical.not_not, not_false_eq_true, not_true_eq_false, true_and, and_true, false_and, and_false, and_self, true_implies, false_implies, implies_true, Option.toList_some, Option.toList_none, List.cons_append, List.nil_append, Nat.add_eq_zero_iff, a_nl_i, a_nl_r, a_nl_n, true_or, or_true, eq_self, a_isRA_22, a_isRA_24, a_isRA_32, a_isA_20, ok_4, ok_5, ok_6, ok_7, ok_9, ok_20, ok_21, ok_30, ok_50, ok_180, ok_192, ok_200]
  all_goals ((try clear hexit); (try clear h29); (try clear hS); grind [ui_ap])
theorem le_habitOf_7 (hT : cT C K L I R) (hm : cmP C I Y) {r : Int32} (hr : 0 ≤ r ∧ r ≤ 5) {V : Int32 × Int32} (hn : ∀ a u, a_at (d + 2) (a_xm a_m28) 75 [some (a_rf (C + 17)), some (.int r), some (.int (V.1)), some (.int (V.2)), some (.int a), u] [] (n, t, K, L, I, R) P) : ∀ a : Int32, a ≤ 30 → ∀ s q u, 0 ≤ a → a ≤ Y 0 17 → fdO (cmY Y) hbS r ((Y 0 17).toNatClampNeg - a.toNatClampNeg) a (s, q) = V → a_at (d + 2) (a_xm a_m28) 7 [some (a_rf (C + 17)), some (.int r), some (.int s), some (.int q), some (.int a), u] [] (n, t, K, L, I, R) P := by
  have hS := hT.s
  have gc := hT.g_asks
  have e17 := hm.2
  rw [e17] at gc
  refine up_ind 30 (fun a ha ih => ?_)
  intro s q u h0 h1 hV
  have hexit : ¬ a < Y 0 17 → a_at (d + 2) (a_xm a_m28) 75 [some (a_rf (C + 17)), some (.int r), some (.int s), some (.int q), some (.int a), u] [] (n, t, K, L, I, R) P := fun w => by
    have ea : a = Y 0 17 := by clear ih hn hV hm hT hS; grind
    have hc := hn a u
    rw [ea, Nat.sub_self] at hV
    rw [← hV] at hc
    exact hc
  have hgo : a < Y 0 17 → a_at (d + 2) (a_xm a_m28) 22 [some (a_rf (C + 17)), some (.int r), some (.int s), some (.int q), some (.int a), some (.int 0)] [] (n, t, K, L, I, R) P := fun c => by
    have i3 := cl_lt h0 c
    have a30 : a < 30 := by clear ih hn hV hm hexit hT hS; grind
    have ei : (a + 1).toNatClampNeg = a.toNatClampNeg + 1 := cl_up h0 (by clear ih hn hV hm hexit hT hS; grind)
    refine le_habitOf_22 hS hm hr ⟨h0, a30⟩ (V := fdI (cmY Y) hbS r a 6 0 (s, q)) (fun u => ?_) 0 (by decide) s q (by decide) rfl
    simp only [q28_69, q28_72, as_nil, as_i, as_r, Nat.reduceAdd, Nat.reduceLeDiff, z_eq0, z_eq1, z_or, z_em, Classical.not_not, not_false_eq_true, not_true_eq_false, true_and, and_true, false_and, and_false, and_self, true_implies, false_implies, implies_true, Option.toList_some, Option.toList_none, List.cons_append, List.nil_append, Nat.add_eq_zero_iff, a_nl_i, a_nl_r, a_nl_n, true_or, or_true, eq_self, a_isRA_22, a_isRA_24, a_isRA_32, a_isA_20, ok_4, ok_5, ok_6, ok_7, ok_9, ok_20, ok_21, ok_30, ok_50, ok_180, ok_192, ok_200]
    refine ih a30 _ _ _ (by clear ih hn hV hm hexit hT hS; grind) (by clear ih hn hV hm hexit hT hS; grind) ?_
    rw [← hV, ei, show (Y 0 17).toNatClampNeg - a.toNatClampNeg = ((Y 0 17).toNatClampNeg - (a.toNatClampNeg + 1)) + 1 by omega]
    rfl
  clear ih hn hV hm
  rw [q28_7]
  repeat' first
    | with_reducible apply And.intro
    | with_reducible assumption
    | with_reducible intro _
    | refine hexit ?_
    | refine hgo ?_
    | simp only [q28_9, q28_10, q28_13, q28_16, q28_19, q28_20, k_17 hS, z_17, r_17_0 hS, k_14 hS, z_14, as_nil, as_i, as_r, Nat.reduceAdd, Nat.reduceLeDiff, z_eq0, z_eq1, z_or, z_em, Classical.not_not, not_false_eq_true, not_true_eq_false, true_and, and_true, false_and, and_false, and_self, true_implies, false_implies, implies_true, Option.toList_some, Option.toList_none, List.cons_append, List.nil_append, Nat.add_eq_zero_iff, a_nl_i, a_nl_r, a_nl_n, true_or, or_true, eq_self, a_isRA_22, a_isRA_24, a_isRA_32, a_isA_20, ok_4, ok_5, ok_6, ok_7, ok_9, ok_20, ok_21, ok_30, ok_50, ok_180, ok_192, ok_200, e17]
  all_goals ((try clear hexit); (try clear hgo); (try clear hT); (try clear hS); grind [ui_ap])
end YB
end
section
/-! whole numbers -/
theorem in_bm {z : Int} (h1 : -2147483648 ≤ z) (h2 : z < 2147483648) : z.bmod (2 ^ 32) = z := by
  simp [Int.bmod_def]
  omega
theorem in_xor {a b : Int32} : ((a ^^^ b) < 0) = ((a < 0 ∧ ¬ b < 0) ∨ (¬ a < 0 ∧ b < 0)) := by
  have e : ∀ x : Int32, (x < 0) = (x.toBitVec.msb = true) := fun x => by
    rw [BitVec.msb_eq_toInt, Int32.toInt_toBitVec, Int32.lt_iff_toInt_lt]
    simp
  rw [e, e, e, Int32.toBitVec_xor, BitVec.msb_xor]
  cases a.toBitVec.msb <;> cases b.toBitVec.msb <;> simp
theorem in_div {A B : Int} (hA : A < 0) (hB : 0 < B) : A.tdiv B * B ≤ 0 ∧ A ≤ A.tdiv B * B ∧ A.tdiv B ≤ 0 ∧ A ≤ A.tdiv B ∧ (if A.tdiv B * B = A then A.tdiv B else A.tdiv B - 1) = -((B - 1 - A).tdiv B) := by
  have e1 : A.tdiv B = -((-A) / B) := by
    rw [← Int.tdiv_eq_ediv_of_nonneg (by omega), Int.neg_tdiv, Int.neg_neg]
  have e2 : (B - 1 - A).tdiv B = (B - 1 - A) / B := Int.tdiv_eq_ediv_of_nonneg (by omega)
  have h := Int.mul_ediv_add_emod (-A) B
  have h0 := Int.emod_nonneg (-A) (show B ≠ 0 by omega)
  have h1 := Int.emod_lt_of_pos (-A) hB
  have hk : 0 ≤ (-A) / B := Int.ediv_nonneg (by omega) (by omega)
  rw [e1, e2]
  generalize (-A) / B = k at h hk ⊢
  generalize (-A) % B = r at h h0 h1
  have e3 : -k * B = -(B * k) := by rw [Int.neg_mul, Int.mul_comm]
  have h5 : k ≤ B * k := by
    have := Int.mul_le_mul_of_nonneg_right (show 1 ≤ B by omega) hk
    omega
  have h6 : 0 ≤ B * k := Int.mul_nonneg (by omega) hk
  rw [e3]
  refine ⟨by omega, by omega, by omega, by omega, ?_⟩
  by_cases c : r = 0
  · have : (B - 1 - A) / B = k := ((Int.ediv_emod_unique (a := B - 1 - A) (b := B) (q := k) (r := B - 1) hB).mpr ⟨by omega, by omega, by omega⟩).1
    rw [this, if_pos (by omega)]
  · have e4 : B * (k + 1) = B * k + B := by rw [Int.mul_add, Int.mul_one]
    have : (B - 1 - A) / B = k + 1 := ((Int.ediv_emod_unique (a := B - 1 - A) (b := B) (q := k + 1) (r := r - 1) hB).mpr ⟨by omega, by omega, by omega⟩).1
    rw [this, if_neg (by omega)]
    omega
theorem in_fd {a b : Int32} (ha : a < 0) (h1 : -100000 ≤ a) (hb : 0 < b) (h3 : b ≤ 1000) : (if a / b * b = a then a / b else a / b - 1) = -((b - 1 - a) / b) := by
  have hA := Int32.lt_iff_toInt_lt.mp ha
  have hA1 := Int32.le_iff_toInt_le.mp h1
  have hB := Int32.lt_iff_toInt_lt.mp hb
  have hB1 := Int32.le_iff_toInt_le.mp h3
  have w0 : (0 : Int32).toInt = 0 := rfl
  have w1 : (-100000 : Int32).toInt = -100000 := rfl
  have w2 : (1000 : Int32).toInt = 1000 := rfl
  have w3 : (1 : Int32).toInt = 1 := rfl
  rw [w0] at hA hB
  rw [w1] at hA1
  rw [w2] at hB1
  have hn : b ≠ -1 := fun z => by
    rw [z] at hb
    exact absurd hb (by decide)
  obtain ⟨g1, g2, g3, g4, g5⟩ := in_div hA hB
  have eq : (a / b).toInt = a.toInt.tdiv b.toInt := Int32.toInt_div_of_ne_right a b hn
  have em : (a / b * b).toInt = a.toInt.tdiv b.toInt * b.toInt := by
    rw [Int32.toInt_mul, eq, in_bm (by omega) (by omega)]
  have es : (b - 1 - a).toInt = b.toInt - 1 - a.toInt := by
    rw [Int32.toInt_sub, Int32.toInt_sub, w3, in_bm (z := b.toInt - 1) (by omega) (by omega), in_bm (by omega) (by omega)]
  have er : (-((b - 1 - a) / b)).toInt = -((b.toInt - 1 - a.toInt).tdiv b.toInt) := by
    rw [Int32.toInt_neg, Int32.toInt_div_of_ne_right _ _ hn, es, ← g5]
    refine in_bm ?_ ?_ <;> (split <;> omega)
  have el : (a / b - 1).toInt = a.toInt.tdiv b.toInt - 1 := by
    rw [Int32.toInt_sub, eq, w3, in_bm (by omega) (by omega)]
  refine Int32.toInt_inj.mp ?_
  rw [er, ← g5]
  by_cases c : a / b * b = a
  · rw [if_pos c, if_pos (by rw [← em, c]), eq]
  · rw [if_neg c, if_neg (fun z => c (Int32.toInt_inj.mp (by rw [em, z]))), el]
/-! folds over pairs of marks -/
/-- differences of marks lie between -100 and 100 -/
def gB (g : Int32 → Int32 → Int32) : Prop := ∀ r a, g r a = -9 ∨ 0 ≤ g r a ∧ g r a ≤ 100
theorem gb_at {g : Int32 → Int32 → Int32} (h : gB g) {r o a : Int32} (h1 : ¬ g r a = -9) (h2 : ¬ g o a = -9) : -100 ≤ g r a - g o a ∧ g r a - g o a ≤ 100 := by
  have e1 := (h r a).resolve_left h1
  have e2 := (h o a).resolve_left h2
  clear h
  grind
theorem gb_cm {Y : Nat → Nat → Int32} (h : mkP Y) : gB (cmY Y) := fun r a => by
  unfold cmY
  by_cases c : Y 38 (30 * r + a).toNatClampNeg = 0
  · rw [if_pos c]
    exact Or.inl rfl
  · rw [if_neg c]
    exact Or.inr (h _ c)
theorem fdI_ro {α β : Type} {g : Int32 → Int32 → Int32} (hg : gB g) {st : α → Int32 → α} {su : β → Int32 → β} {E : Nat → α → β → Prop} (h1 : ∀ m p q d, E m p q → -100 ≤ d ∧ d ≤ 100 → E (m + 1) (st p d) (su q d)) (h2 : ∀ m p q, E m p q → E (m + 1) p q) {r a : Int32} : ∀ (k m : Nat) (o : Int32) (p : α) (q : β), E m p q → E (m + k) (fdI g st r a k o p) (fdI g su r a k o q) := by
  intro k
  induction k with
  | zero => intro m o p q h; exact h
  | succ k ih =>
    intro m o p q h
    unfold fdI
    rw [show m + (k + 1) = m + 1 + k by omega]
    refine ih _ _ _ _ ?_
    by_cases c : ¬ o = r ∧ ¬ g r a = -9 ∧ ¬ g o a = -9
    · rw [if_pos c, if_pos c]
      exact h1 _ _ _ _ h (gb_at hg c.2.1 c.2.2)
    · rw [if_neg c, if_neg c]
      exact h2 _ _ _ h
theorem fdO_ro {α β : Type} {g : Int32 → Int32 → Int32} (hg : gB g) {st : α → Int32 → α} {su : β → Int32 → β} {E : Nat → α → β → Prop} (h1 : ∀ m p q d, E m p q → -100 ≤ d ∧ d ≤ 100 → E (m + 1) (st p d) (su q d)) (h2 : ∀ m p q, E m p q → E (m + 1) p q) {r : Int32} : ∀ (k m : Nat) (a : Int32) (p : α) (q : β), E m p q → E (m + 6 * k) (fdO g st r k a p) (fdO g su r k a q) := by
  intro k
  induction k with
  | zero => intro m a p q h; exact h
  | succ k ih =>
    intro m a p q h
    unfold fdO
    rw [show m + 6 * (k + 1) = m + 6 + 6 * k by omega]
    exact ih _ _ _ _ (fdI_ro hg h1 h2 6 m 0 p q h)
/-- the sum and the number of a HABIT are small -/
def hbE (m : Nat) (p : Int32 × Int32) (_ : Unit) : Prop := 0 ≤ p.2.toInt ∧ p.2.toInt ≤ m ∧ -100 * p.2.toInt ≤ p.1.toInt ∧ p.1.toInt ≤ 100 * p.2.toInt
theorem hb_small {g : Int32 → Int32 → Int32} (hg : gB g) {r n : Int32} (hn : n.toNatClampNeg ≤ 30) : hbE 180 (fdO g hbS r n.toNatClampNeg 0 (0, 0)) () := by
  have h := fdO_ro (β := Unit) hg (st := hbS) (su := fun _ _ => ()) (E := fun m p q => m ≤ 180 → hbE m p q) (r := r) (fun m p q d h hd hm => by
    have h := h (by omega)
    obtain ⟨x1, x2, x3, x4⟩ := h
    have d1 := Int32.le_iff_toInt_le.mp hd.1
    have d2 := Int32.le_iff_toInt_le.mp hd.2
    have w1 : (-100 : Int32).toInt = -100 := rfl
    have w2 : (100 : Int32).toInt = 100 := rfl
    have w3 : (1 : Int32).toInt = 1 := rfl
    rw [w1] at d1
    rw [w2] at d2
    have e1 : (hbS p d).1.toInt = p.1.toInt + d.toInt := by
      show (p.1 + d).toInt = _
      rw [Int32.toInt_add, in_bm (by omega) (by omega)]
    have e2 : (hbS p d).2.toInt = p.2.toInt + 1 := by
      show (p.2 + 1).toInt = _
      rw [Int32.toInt_add, w3, in_bm (by omega) (by omega)]
    unfold hbE
    rw [e1, e2]
    refine ⟨by omega, by omega, by omega, by omega⟩) (fun m p q h hm => by
    have h := h (by omega)
    exact ⟨h.1, by have := h.2.1; omega, h.2.2⟩) n.toNatClampNeg 0 0 (0, 0) () (fun _ => ⟨by decide, by decide, by decide, by decide⟩) (by omega)
  exact ⟨h.1, by have := h.2.1; omega, h.2.2⟩
/-- the joint mark: over the readers -/
def mfI (g : Int32 → Int32 → Int32) (hb : Int32 → Int32) (a : Int32) : Nat → Int32 → Int32 × Int32 → Int32 × Int32
  | 0, _, p => p
  | k + 1, r, p => mfI g hb a k (r + 1) (if g r a = -9 then p else (p.1 + (g r a - hb r), p.2 + 1))
/-- MARK -/
def mkY (g : Int32 → Int32 → Int32) (hb : Int32 → Int32) (a : Int32) : Int32 := if (mfI g hb a 6 0 (0, 0)).2 = 0 then -9 else if (mfI g hb a 6 0 (0, 0)).1 / (mfI g hb a 6 0 (0, 0)).2 < 0 then 0 else if 100 < (mfI g hb a 6 0 (0, 0)).1 / (mfI g hb a 6 0 (0, 0)).2 then 100 else (mfI g hb a 6 0 (0, 0)).1 / (mfI g hb a 6 0 (0, 0)).2
/-- what a READER's marks are scaled by -/
def hsY (Y : Nat → Nat → Int32) (r : Int32) : Int32 := if Y 0 11 = 1 then hbY (cmY Y) (Y 0 17) r else 0
section YC
variable {d n t M : Nat} {K L : Nat → Nat} {I I0 J J0 J1 J2 : Nat → Nat → Int32} {R : Nat → Nat → Nat} {P : Option Value → AH → Prop} {f : Nat → Int32} {e : Int32}
/-- what the reference scales a READER's marks by -/
theorem xt_markFor_7 (hS : m_S M K L R) (hR : mR M I) (hm : mkP (yv M I)) {a : Int32} (ha : 0 ≤ a ∧ a < 30) {V : Int32 × Int32} (hC : ∀ r, a_at (d + 1) (a_xm a_m193) 72 [some (a_rf M), some (.int a), some (.int (V.2)), some (.int (V.1)), some (.int r)] [] (n, t, K, L, I, R) P) : ∀ r : Int32, r ≤ 6 → ∀ q s, 0 ≤ r → mfI (cmY (yv M I)) (hsY (yv M I)) a (6 - r.toNatClampNeg) r (s, q) = V → a_at (d + 1) (a_xm a_m193) 7 [some (a_rf M), some (.int a), some (.int q), some (.int s), some (.int r)] [] (n, t, K, L, I, R) P := by
  refine up_ind 6 (fun r hk ih => ?_)
  intro q s h0 hV
  have er := cmY_no (r := r) (a := a) hm
  have hexit : ¬ r < 6 → a_at (d + 1) (a_xm a_m193) 72 [some (a_rf M), some (.int a), some (.int q), some (.int s), some (.int r)] [] (n, t, K, L, I, R) P := fun w => by
    have : r = 6 := by clear ih hC hV hm er; grind
    subst this
    have hc := hC 6
    rw [← hV] at hc
    exact hc
  have hst : r < 6 → ∀ p, (p = if cmY (yv M I) r a = -9 then (s, q) else (s + (cmY (yv M I) r a - hsY (yv M I) r), q + 1)) → a_at (d + 1) (a_xm a_m193) 7 [some (a_rf M), some (.int a), some (.int (p.2)), some (.int (p.1)), some (.int (r + 1))] [] (n, t, K, L, I, R) P := fun c p hp => by
    have i3 : r.toNatClampNeg < 6 := show _ < (6 : Int32).toNatClampNeg from cl_lt h0 c
    have ei : (r + 1).toNatClampNeg = r.toNatClampNeg + 1 := cl_up h0 (by clear ih hC hV hm er hp; grind)
    refine ih c p.2 p.1 (by clear ih hC hV hm er hp; grind) ?_
    rw [← hV, ei, show 6 - r.toNatClampNeg = (6 - (r.toNatClampNeg + 1)) + 1 by omega]
    conv => rhs; unfold mfI
    rw [← hp]
  have hgo0 : r < 6 → I (M + 38) (30 * r + a).toNatClampNeg = 0 → a_at (d + 1) (a_xm a_m193) 7 [some (a_rf M), some (.int a), some (.int q), some (.int s), some (.int (r + 1))] [] (n, t, K, L, I, R) P := fun c1 c2 => hst c1 (s, q) (by rw [if_pos (by rw [er]; exact c2)])
  have hgo1 : r < 6 → ¬ I (M + 38) (30 * r + a).toNatClampNeg = 0 → a_at (d + 1) (a_xm a_m193) 32 [some (a_rf M), some (.int a), some (.int (q + 1)), some (.int s), some (.int r)] [] (n, t, K, L, I, R) P := fun c1 c2 => by
    have hg := hst c1 (s + (cmY (yv M I) r a - hsY (yv M I) r), q + 1) (by rw [if_neg (by rw [er]; exact c2)])
    have e1 : cmY (yv M I) r a = I (M + 36) (30 * r + a).toNatClampNeg := if_neg c2
    have hr : 0 ≤ r ∧ r ≤ 5 := by clear ih hC hV hm er hst hg; grind
    rw [e1] at hg
    unfold hsY at hg
    by_cases c3 : I M 11 = 1
    · rw [if_pos (show yv M I 0 11 = 1 from c3)] at hg
      clear ih hC hV hst er hexit hgo0
      repeat' first
        | with_reducible apply And.intro
        | with_reducible assumption
        | with_reducible intro _
        | refine xt_habitOf hS hR hm hr ?_
        | exact hg
        | simp only [q193_32, q193_33, q193_34, q193_37, q193_39, q193_41, q193_42, q193_43, q193_44, q193_45, q193_46, q193_49, q193_50, q193_53, q193_54, q193_56, q193_59, q193_62, q193_63, q193_64, q193_65, q193_66, q193_69, m_0 hS, m_K hS, mR_marks hS, mK_marks hS, mL_marks hS, as_nil, as_i, as_r, Nat.reduceAdd, Nat.reduceLeDiff, z_eq0, z_eq1, z_or, z_em, Classical.not_not, not_false_eq_true, not_true_eq_false, true_and, and_true, false_and, and_false, and_self, true_implies, false_implies, implies_true, Option.toList_some, Option.toList_none, List.cons_append, List.nil_append, Nat.add_eq_zero_iff, a_nl_i, a_nl_r, a_nl_n, true_or, or_true, eq_self, ok_4, ok_5, ok_6, ok_7, ok_9, ok_10, ok_20, ok_21, ok_24, ok_30, ok_48, ok_50, ok_60, ok_80, ok_120, ok_180, ok_192, ok_200, ok_900, ok_1000, ok_84000, c3]
      all_goals ((try clear hg); (try clear hm); (try clear hS); (try clear hR); grind [ui_ap])
    · rw [if_neg (show ¬ yv M I 0 11 = 1 from c3)] at hg
      clear ih hC hV hst er hexit hgo0
      repeat' first
        | with_reducible apply And.intro
        | with_reducible assumption
        | with_reducible intro _
        | exact hg
        | simp only [q193_32, q193_33, q193_34, q193_37, q193_39, q193_41, q193_42, q193_43, q193_44, q193_45, q193_46, q193_49, q193_50, q193_53, q193_54, q193_56, q193_59, q193_62, q193_63, q193_64, q193_65, q193_66, q193_69, m_0 hS, m_K hS, mR_marks hS, mK_marks hS, mL_marks hS, as_nil, as_i, as_r, Nat.reduceAdd, Nat.reduceLeDiff, z_eq0, z_eq1, z_or, z_em, Classical.not_not, not_false_eq_true, not_true_eq_false, true_and, and_true, false_and, and_false, and_self, true_implies, false_implies, implies_true, Option.toList_some, Option.toList_none, List.cons_append, List.nil_append, Nat.add_eq_zero_iff, a_nl_i, a_nl_r, a_nl_n, true_or, or_true, eq_self, ok_4, ok_5, ok_6, ok_7, ok_9, ok_10, ok_20, ok_21, ok_24, ok_30, ok_48, ok_50, ok_60, ok_80, ok_120, ok_180, ok_192, ok_200, ok_900, ok_1000, ok_84000, c3]
      all_goals ((try clear hg); (try clear hm); (try clear hS); (try clear hR); grind [ui_ap])
  clear ih hC hV hst er hm
  rw [q193_7]
  repeat' first
    | with_reducible apply And.intro
    | with_reducible assumption
    | with_reducible intro _
    | refine hexit ?_
    | refine hgo0 ?_ ?_
    | refine hgo1 ?_ ?_
    | simp only [q193_9, q193_11, q193_14, q193_15, q193_18, q193_20, q193_22, q193_23, q193_24, q193_25, q193_26, q193_29, q193_66, q193_69, m_0 hS, m_K hS, mR_doesCount hS, mK_doesCount hS, mL_doesCount hS, as_nil, as_i, as_r, Nat.reduceAdd, Nat.reduceLeDiff, z_eq0, z_eq1, z_or, z_em, Classical.not_not, not_false_eq_true, not_true_eq_false, true_and, and_true, false_and, and_false, and_self, true_implies, false_implies, implies_true, Option.toList_some, Option.toList_none, List.cons_append, List.nil_append, Nat.add_eq_zero_iff, a_nl_i, a_nl_r, a_nl_n, true_or, or_true, eq_self, ok_4, ok_5, ok_6, ok_7, ok_9, ok_10, ok_20, ok_21, ok_24, ok_30, ok_48, ok_50, ok_60, ok_80, ok_120, ok_180, ok_192, ok_200, ok_900, ok_1000, ok_84000]
  all_goals ((try clear hexit); (try clear hgo1); (try clear hgo0); (try clear hS); (try clear hR); grind [ui_ap])
theorem xt_markFor (hS : m_S M K L R) (hR : mR M I) (hm : mkP (yv M I)) {a : Int32} (ha : 0 ≤ a ∧ a < 30) (hP : P (some (.int (mkY (cmY (yv M I)) (hsY (yv M I)) a))) (n, t, K, L, I, R)) : a_does (d + 2) 193 [a_rf M, .int a] (n, t, K, L, I, R) P := by
  have hl := xt_markFor_7 (d := d) (n := n) (t := t) (P := P) hS hR hm ha (V := mfI (cmY (yv M I)) (hsY (yv M I)) a 6 0 (0, 0)) (fun r => by
    unfold mkY at hP
    generalize mfI (cmY (yv M I)) (hsY (yv M I)) a 6 0 (0, 0) = W at hP ⊢
    simp only [q193_72, q193_73, q193_76, q193_78, q193_79, q193_80, q193_81, q193_82, q193_84, q193_86, q193_89, q193_90, q193_93, q193_95, q193_97, q193_100, q193_102, q193_105, q193_107, as_nil, as_i, as_r, Nat.reduceAdd, Nat.reduceLeDiff, z_eq0, z_eq1, z_or, z_em, Classical.not_not, not_false_eq_true, not_true_eq_false, true_and, and_true, false_and, and_false, and_self, true_implies, false_implies, implies_true, Option.toList_some, Option.toList_none, List.cons_append, List.nil_append, Nat.add_eq_zero_iff, a_nl_i, a_nl_r, a_nl_n, true_or, or_true, eq_self, ok_4, ok_5, ok_6, ok_7, ok_9, ok_10, ok_20, ok_21, ok_24, ok_30, ok_48, ok_50, ok_60, ok_80, ok_120, ok_180, ok_192, ok_200, ok_900, ok_1000, ok_84000]
    by_cases c0 : W.2 = 0
    · rw [if_pos c0] at hP
      grind
    · rw [if_neg c0] at hP
      by_cases c1 : W.1 / W.2 < 0
      · rw [if_pos c1] at hP
        grind
      · rw [if_neg c1] at hP
        by_cases c2 : 100 < W.1 / W.2
        · rw [if_pos c2] at hP
          grind
        · rw [if_neg c2] at hP
          grind) 0 (by decide) 0 0 (by decide) rfl
  rw [a_enter1 (M := a_m193) rfl (a_cat_rf (a_cat_int a_cat_nil)) (show 2 ≤ 5 by decide)]
  show a_at _ (a_xm a_m193) 0 [some (a_rf M), some (.int a), none, none, none] [] _ _
  repeat' first
    | with_reducible apply And.intro
    | with_reducible assumption
    | with_reducible intro _
    | with_reducible apply hl
    | simp only [q193_0, q193_1, q193_2, q193_3, q193_4, q193_5, as_nil, as_i, as_r, Nat.reduceAdd, Nat.reduceLeDiff, z_eq0, z_eq1, z_or, z_em, Classical.not_not, not_false_eq_true, not_true_eq_false, true_and, and_true, false_and, and_false, and_self, true_implies, false_implies, implies_true, Option.toList_some, Option.toList_none, List.cons_append, List.nil_append, Nat.add_eq_zero_iff, a_nl_i, a_nl_r, a_nl_n, true_or, or_true, eq_self, ok_4, ok_5, ok_6, ok_7, ok_9, ok_10, ok_20, ok_21, ok_24, ok_30, ok_48, ok_50, ok_60, ok_80, ok_120, ok_180, ok_192, ok_200, ok_900, ok_1000, ok_84000]
  all_goals grind [ui_ap]
end YC
end
section
/-! the class: habits, doubts, the joint mark -/
section YD
variable {d n t C : Nat} {K L : Nat → Nat} {I I0 J J0 J1 J2 : Nat → Nat → Int32} {R : Nat → Nat → Nat} {P : Option Value → AH → Prop}
variable {Y : Nat → Nat → Int32}
theorem ce_floorDiv {a b : Int32} {h : AH} (hb : 0 < b) (h3 : b ≤ 1000) (h1 : -100000 ≤ a) (hP : P (some (.int (if 0 ≤ a then a / b else -((b - 1 - a) / b)))) h) : a_does (d + 1) 31 [.int a, .int b] h P := by
  have hx := in_xor (a := a) (b := b)
  have nb : ¬ b < 0 := by clear hx hP; grind
  have b0 : ¬ b = 0 := by clear hx hP; grind
  rw [a_enter1 (M := a_m31) rfl (a_cat_int (a_cat_int a_cat_nil)) (show 2 ≤ 3 by decide)]
  show a_at _ (a_xm a_m31) 0 [some (.int a), some (.int b), none] [] _ _
  by_cases c : 0 ≤ a
  · rw [if_pos c] at hP
    have hx2 : ¬ (a ^^^ b) < 0 := by
      rw [hx]
      clear hx hP
      grind
    simp only [q31_0, q31_1, q31_2, q31_3, q31_4, q31_5, q31_6, q31_7, q31_10, q31_11, q31_12, q31_13, q31_14, q31_17, q31_18, q31_19, q31_20, q31_21, q31_22, as_nil, as_i, as_r, Nat.reduceAdd, Nat.reduceLeDiff, z_eq0, z_eq1, z_or, z_em, Classical.not_not, not_false_eq_true, not_true_eq_false, true_and, and_true, false_and, and_false, and_self, true_implies, false_implies, implies_true, Option.toList_some, Option.toList_none, List.cons_append, List.nil_append, Nat.add_eq_zero_iff, a_nl_i, a_nl_r, a_nl_n, true_or, or_true, eq_self, b0]
    clear hx
    grind
  · rw [if_neg c] at hP
    have c2 : a < 0 := Int32.not_le.mp c
    have hx2 : (a ^^^ b) < 0 := by
      rw [hx]
      exact Or.inl ⟨c2, nb⟩
    have hf := in_fd c2 h1 hb h3
    rw [← hf] at hP
    clear hf hx
    by_cases e : a / b * b = a
    · rw [if_pos e] at hP
      simp only [q31_0, q31_1, q31_2, q31_3, q31_4, q31_5, q31_6, q31_7, q31_10, q31_11, q31_12, q31_13, q31_14, q31_17, q31_18, q31_19, q31_20, q31_21, q31_22, as_nil, as_i, as_r, Nat.reduceAdd, Nat.reduceLeDiff, z_eq0, z_eq1, z_or, z_em, Classical.not_not, not_false_eq_true, not_true_eq_false, true_and, and_true, false_and, and_false, and_self, true_implies, false_implies, implies_true, Option.toList_some, Option.toList_none, List.cons_append, List.nil_append, Nat.add_eq_zero_iff, a_nl_i, a_nl_r, a_nl_n, true_or, or_true, eq_self, b0, e]
      grind
    · rw [if_neg e] at hP
      simp only [q31_0, q31_1, q31_2, q31_3, q31_4, q31_5, q31_6, q31_7, q31_10, q31_11, q31_12, q31_13, q31_14, q31_17, q31_18, q31_19, q31_20, q31_21, q31_22, as_nil, as_i, as_r, Nat.reduceAdd, Nat.reduceLeDiff, z_eq0, z_eq1, z_or, z_em, Classical.not_not, not_false_eq_true, not_true_eq_false, true_and, and_true, false_and, and_false, and_self, true_implies, false_implies, implies_true, Option.toList_some, Option.toList_none, List.cons_append, List.nil_append, Nat.add_eq_zero_iff, a_nl_i, a_nl_r, a_nl_n, true_or, or_true, eq_self, b0, e]
      grind
theorem ce_habitOf (hT : cT C K L I R) (hm : cmP C I Y) (hY : mkP Y) {r : Int32} (hr : 0 ≤ r ∧ r ≤ 5) (hP : P (some (.int (hbY (cmY Y) (Y 0 17) r))) (n, t, K, L, I, R)) : a_does (d + 3) 28 [a_rf (C + 17), .int r] (n, t, K, L, I, R) P := by
  have hS := hT.s
  have gc := hT.g_asks
  rw [hm.2] at gc
  have n30 : (Y 0 17).toNatClampNeg ≤ 30 := cl_le gc.1 gc.2
  have hsm := hb_small (gb_cm hY) (r := r) n30
  have hl := le_habitOf_7 (d := d) (n := n) (t := t) (P := P) hT hm hr (V := fdO (cmY Y) hbS r (Y 0 17).toNatClampNeg 0 (0, 0)) (fun a u => by
    unfold hbY at hP
    generalize fdO (cmY Y) hbS r (Y 0 17).toNatClampNeg 0 (0, 0) = W at hP hsm ⊢
    simp only [q28_75, q28_76, q28_79, q28_80, q28_83, q28_84, q28_85, q28_88, as_nil, as_i, as_r, Nat.reduceAdd, Nat.reduceLeDiff, z_eq0, z_eq1, z_or, z_em, Classical.not_not, not_false_eq_true, not_true_eq_false, true_and, and_true, false_and, and_false, and_self, true_implies, false_implies, implies_true, Option.toList_some, Option.toList_none, List.cons_append, List.nil_append, Nat.add_eq_zero_iff, a_nl_i, a_nl_r, a_nl_n, true_or, or_true, eq_self, a_isRA_22, a_isRA_24, a_isRA_32, a_isA_20, ok_4, ok_5, ok_6, ok_7, ok_9, ok_20, ok_21, ok_30, ok_50, ok_180, ok_192, ok_200]
    by_cases c0 : W.2 = 0
    · rw [if_pos c0] at hP
      simp only [c0]
      clear hsm hm hT hS
      grind
    · rw [if_neg c0] at hP
      simp only [c0]
      try simp only [false_implies, true_implies, not_false_eq_true, true_and, and_true, implies_true]
      obtain ⟨s1, s2, s3, s4⟩ := hsm
      have w0 : (0 : Int32).toInt = 0 := rfl
      have w1 : (-100000 : Int32).toInt = -100000 := rfl
      have w2 : (1000 : Int32).toInt = 1000 := rfl
      have wn : W.2.toInt ≠ 0 := fun q => c0 (Int32.toInt_inj.mp (by rw [q]; rfl))
      refine ce_floorDiv (Int32.lt_iff_toInt_lt.mpr (by omega)) (Int32.le_iff_toInt_le.mpr (by omega)) (Int32.le_iff_toInt_le.mpr (by omega)) ?_
      simp only [q28_88, as_nil, as_i, as_r, Nat.reduceAdd, Nat.reduceLeDiff, z_eq0, z_eq1, z_or, z_em, Classical.not_not, not_false_eq_true, not_true_eq_false, true_and, and_true, false_and, and_false, and_self, true_implies, false_implies, implies_true, Option.toList_some, Option.toList_none, List.cons_append, List.nil_append, Nat.add_eq_zero_iff, a_nl_i, a_nl_r, a_nl_n, true_or, or_true, eq_self, a_isRA_22, a_isRA_24, a_isRA_32, a_isA_20, ok_4, ok_5, ok_6, ok_7, ok_9, ok_20, ok_21, ok_30, ok_50, ok_180, ok_192, ok_200]
      exact hP) 0 (by decide) 0 0 none (by decide) gc.1 (by rw [show (0 : Int32).toNatClampNeg = 0 from rfl, Nat.sub_zero])
  rw [a_enter1 (M := a_m28) rfl (a_cat_rf (a_cat_int a_cat_nil)) (show 2 ≤ 6 by decide)]
  show a_at _ (a_xm a_m28) 0 [some (a_rf (C + 17)), some (.int r), none, none, none, none] [] _ _
  repeat' first
    | with_reducible apply And.intro
    | with_reducible assumption
    | with_reducible intro _
    | with_reducible apply hl
    | simp only [q28_0, q28_1, q28_2, q28_3, q28_4, q28_5, as_nil, as_i, as_r, Nat.reduceAdd, Nat.reduceLeDiff, z_eq0, z_eq1, z_or, z_em, Classical.not_not, not_false_eq_true, not_true_eq_false, true_and, and_true, false_and, and_false, and_self, true_implies, false_implies, implies_true, Option.toList_some, Option.toList_none, List.cons_append, List.nil_append, Nat.add_eq_zero_iff, a_nl_i, a_nl_r, a_nl_n, true_or, or_true, eq_self, a_isRA_22, a_isRA_24, a_isRA_32, a_isA_20, ok_4, ok_5, ok_6, ok_7, ok_9, ok_20, ok_21, ok_30, ok_50, ok_180, ok_192, ok_200]
  all_goals grind [ui_ap]
theorem le_joinedMark_7 (hS : cS C K L R) (hm : cmP C I Y) {hb : Int32 → Int32} (hh : ∀ r : Int32, 0 ≤ r → r ≤ 5 → I (C + 21) r.toNatClampNeg = hb r) {a : Int32} (ha : 0 ≤ a ∧ a < 30) {V : Int32 × Int32} (hn : ∀ r, a_at (d + 1) (a_xm a_m33) 53 [some (a_rf (C + 17)), some (.int a), some (.int (V.1)), some (.int (V.2)), some (.int r)] [] (n, t, K, L, I, R) P) : ∀ r : Int32, r ≤ 6 → ∀ s q, 0 ≤ r → mfI (cmY Y) hb a (6 - r.toNatClampNeg) r (s, q) = V → a_at (d + 1) (a_xm a_m33) 7 [some (a_rf (C + 17)), some (.int a), some (.int s), some (.int q), some (.int r)] [] (n, t, K, L, I, R) P := by
  refine up_ind 6 (fun r hk ih => ?_)
  intro s q h0 hV
  have hexit : ¬ r < 6 → a_at (d + 1) (a_xm a_m33) 53 [some (a_rf (C + 17)), some (.int a), some (.int s), some (.int q), some (.int r)] [] (n, t, K, L, I, R) P := fun w => by
    have : r = 6 := by clear ih hn hV hm hS hh; grind
    subst this
    have hc := hn 6
    rw [← hV] at hc
    exact hc
  have hst : r < 6 → ∀ p, (p = if cmY Y r a = -9 then (s, q) else (s + (cmY Y r a - hb r), q + 1)) → a_at (d + 1) (a_xm a_m33) 7 [some (a_rf (C + 17)), some (.int a), some (.int (p.1)), some (.int (p.2)), some (.int (r + 1))] [] (n, t, K, L, I, R) P := fun c p hp => by
    have i3 : r.toNatClampNeg < 6 := show _ < (6 : Int32).toNatClampNeg from cl_lt h0 c
    have ei : (r + 1).toNatClampNeg = r.toNatClampNeg + 1 := cl_up h0 (by clear ih hn hV hm hp hS hh; grind)
    refine ih c p.1 p.2 (by clear ih hn hV hm hp hS hh; grind) ?_
    rw [← hV, ei, show 6 - r.toNatClampNeg = (6 - (r.toNatClampNeg + 1)) + 1 by omega]
    conv => rhs; unfold mfI
    rw [← hp]
  have h14 : r < 6 → a_at (d + 1) (a_xm a_m33) 14 [some (a_rf (C + 17)), some (.int a), some (.int s), some (.int q), some (.int r)] [] (n, t, K, L, I, R) P := fun c => by
    have hr : 0 ≤ r ∧ r ≤ 5 := by clear ih hn hV hm hst hS hh; grind
    have hst := hst c
    have hh := hh r hr.1 hr.2
    simp only [q33_14, q33_15, q33_17, q33_18, k_17 hS, z_17, as_nil, as_i, as_r, Nat.reduceAdd, Nat.reduceLeDiff, z_eq0, z_eq1, z_or, z_em, Classical.not_not, not_false_eq_true, not_true_eq_false, true_and, and_true, false_and, and_false, and_self, true_implies, false_implies, implies_true, Option.toList_some, Option.toList_none, List.cons_append, List.nil_append, Nat.add_eq_zero_iff, a_nl_i, a_nl_r, a_nl_n, true_or, or_true, eq_self, a_isRA_22, a_isRA_24, a_isRA_32, a_isA_20, ok_4, ok_5, ok_6, ok_7, ok_9, ok_20, ok_21, ok_30, ok_50, ok_180, ok_192, ok_200]
    refine ce_markBy hS hr ha hm ?_
    by_cases cc : cmY Y r a = -9
    · have hg := hst (s, q) (by rw [if_pos cc])
      simp only [q33_21, q33_23, q33_47, q33_50, as_nil, as_i, as_r, Nat.reduceAdd, Nat.reduceLeDiff, z_eq0, z_eq1, z_or, z_em, Classical.not_not, not_false_eq_true, not_true_eq_false, true_and, and_true, false_and, and_false, and_self, true_implies, false_implies, implies_true, Option.toList_some, Option.toList_none, List.cons_append, List.nil_append, Nat.add_eq_zero_iff, a_nl_i, a_nl_r, a_nl_n, true_or, or_true, eq_self, a_isRA_22, a_isRA_24, a_isRA_32, a_isA_20, ok_4, ok_5, ok_6, ok_7, ok_9, ok_20, ok_21, ok_30, ok_50, ok_180, ok_192, ok_200, cc]
      first
        | exact hg
        | exact ⟨fun _ => hg, fun z => absurd rfl z⟩
    · have hg := hst (s + (cmY Y r a - hb r), q + 1) (by rw [if_neg cc])
      simp only [q33_21, q33_23, q33_26, q33_27, q33_28, q33_30, q33_31, k_17 hS, z_17, as_nil, as_i, as_r, Nat.reduceAdd, Nat.reduceLeDiff, z_eq0, z_eq1, z_or, z_em, Classical.not_not, not_false_eq_true, not_true_eq_false, true_and, and_true, false_and, and_false, and_self, true_implies, false_implies, implies_true, Option.toList_some, Option.toList_none, List.cons_append, List.nil_append, Nat.add_eq_zero_iff, a_nl_i, a_nl_r, a_nl_n, true_or, or_true, eq_self, a_isRA_22, a_isRA_24, a_isRA_32, a_isA_20, ok_4, ok_5, ok_6, ok_7, ok_9, ok_20, ok_21, ok_30, ok_50, ok_180, ok_192, ok_200, cc]
      try simp only [true_and, and_true, true_implies, false_implies, implies_true, not_true_eq_false, not_false_eq_true]
      refine ce_markBy hS hr ha hm ?_
      rw [← hh] at hg
      clear hn ih hV hm hst hh
      repeat' first
        | with_reducible apply And.intro
        | with_reducible assumption
        | with_reducible intro _
        | with_reducible apply hg
        | simp only [q33_34, q33_35, q33_38, q33_40, q33_41, q33_42, q33_43, q33_44, q33_47, q33_50, k_17 hS, z_17, r_17_4 hS, k_21 hS, l_21 hS, z_21, as_nil, as_i, as_r, Nat.reduceAdd, Nat.reduceLeDiff, z_eq0, z_eq1, z_or, z_em, Classical.not_not, not_false_eq_true, not_true_eq_false, true_and, and_true, false_and, and_false, and_self, true_implies, false_implies, implies_true, Option.toList_some, Option.toList_none, List.cons_append, List.nil_append, Nat.add_eq_zero_iff, a_nl_i, a_nl_r, a_nl_n, true_or, or_true, eq_self, a_isRA_22, a_isRA_24, a_isRA_32, a_isA_20, ok_4, ok_5, ok_6, ok_7, ok_9, ok_20, ok_21, ok_30, ok_50, ok_180, ok_192, ok_200]
      all_goals grind [ui_ap]
  clear ih hn hV hst hm hh
  rw [q33_7]
  repeat' first
    | with_reducible apply And.intro
    | with_reducible assumption
    | with_reducible intro _
    | refine hexit ?_
    | refine h14 ?_
    | simp only [q33_9, q33_11, as_nil, as_i, as_r, Nat.reduceAdd, Nat.reduceLeDiff, z_eq0, z_eq1, z_or, z_em, Classical.not_not, not_false_eq_true, not_true_eq_false, true_and, and_true, false_and, and_false, and_self, true_implies, false_implies, implies_true, Option.toList_some, Option.toList_none, List.cons_append, List.nil_append, Nat.add_eq_zero_iff, a_nl_i, a_nl_r, a_nl_n, true_or, or_true, eq_self, a_isRA_22, a_isRA_24, a_isRA_32, a_isA_20, ok_4, ok_5, ok_6, ok_7, ok_9, ok_20, ok_21, ok_30, ok_50, ok_180, ok_192, ok_200]
  all_goals ((try clear hexit); (try clear h14); (try clear hS); grind [ui_ap])
theorem ce_joinedMark (hS : cS C K L R) (hm : cmP C I Y) {hb : Int32 → Int32} (hh : ∀ r : Int32, 0 ≤ r → r ≤ 5 → I (C + 21) r.toNatClampNeg = hb r) {a : Int32} (ha : 0 ≤ a ∧ a < 30) (hP : P (some (.int (mkY (cmY Y) hb a))) (n, t, K, L, I, R)) : a_does (d + 2) 33 [a_rf (C + 17), .int a] (n, t, K, L, I, R) P := by
  have hl := le_joinedMark_7 (d := d) (n := n) (t := t) (P := P) hS hm hh ha (V := mfI (cmY Y) hb a 6 0 (0, 0)) (fun r => by
    unfold mkY at hP
    generalize mfI (cmY Y) hb a 6 0 (0, 0) = W at hP ⊢
    clear hm hh
    by_cases c0 : W.2 = 0
    · rw [if_pos c0] at hP
      repeat' first
        | with_reducible apply And.intro
        | with_reducible assumption
        | with_reducible intro _
        | with_reducible apply hP
        | simp only [q33_53, q33_54, q33_57, q33_59, q33_62, q33_63, q33_65, q33_66, q33_67, q33_68, q33_71, q33_74, sp_min, sp_max, as_nil, as_i, as_r, Nat.reduceAdd, Nat.reduceLeDiff, z_eq0, z_eq1, z_or, z_em, Classical.not_not, not_false_eq_true, not_true_eq_false, true_and, and_true, false_and, and_false, and_self, true_implies, false_implies, implies_true, Option.toList_some, Option.toList_none, List.cons_append, List.nil_append, Nat.add_eq_zero_iff, a_nl_i, a_nl_r, a_nl_n, true_or, or_true, eq_self, a_isRA_22, a_isRA_24, a_isRA_32, a_isA_20, ok_4, ok_5, ok_6, ok_7, ok_9, ok_20, ok_21, ok_30, ok_50, ok_180, ok_192, ok_200, c0]
      all_goals grind [ui_ap]
    · rw [if_neg c0] at hP
      by_cases c1 : W.1 / W.2 < 0
      · rw [if_pos c1] at hP
        repeat' first
          | with_reducible apply And.intro
          | with_reducible assumption
          | with_reducible intro _
          | with_reducible apply hP
          | simp only [q33_53, q33_54, q33_57, q33_59, q33_62, q33_63, q33_65, q33_66, q33_67, q33_68, q33_71, q33_74, sp_min, sp_max, as_nil, as_i, as_r, Nat.reduceAdd, Nat.reduceLeDiff, z_eq0, z_eq1, z_or, z_em, Classical.not_not, not_false_eq_true, not_true_eq_false, true_and, and_true, false_and, and_false, and_self, true_implies, false_implies, implies_true, Option.toList_some, Option.toList_none, List.cons_append, List.nil_append, Nat.add_eq_zero_iff, a_nl_i, a_nl_r, a_nl_n, true_or, or_true, eq_self, a_isRA_22, a_isRA_24, a_isRA_32, a_isA_20, ok_4, ok_5, ok_6, ok_7, ok_9, ok_20, ok_21, ok_30, ok_50, ok_180, ok_192, ok_200, c0]
        all_goals grind [ui_ap]
      · rw [if_neg c1] at hP
        by_cases c2 : 100 < W.1 / W.2
        · rw [if_pos c2] at hP
          repeat' first
            | with_reducible apply And.intro
            | with_reducible assumption
            | with_reducible intro _
            | with_reducible apply hP
            | simp only [q33_53, q33_54, q33_57, q33_59, q33_62, q33_63, q33_65, q33_66, q33_67, q33_68, q33_71, q33_74, sp_min, sp_max, as_nil, as_i, as_r, Nat.reduceAdd, Nat.reduceLeDiff, z_eq0, z_eq1, z_or, z_em, Classical.not_not, not_false_eq_true, not_true_eq_false, true_and, and_true, false_and, and_false, and_self, true_implies, false_implies, implies_true, Option.toList_some, Option.toList_none, List.cons_append, List.nil_append, Nat.add_eq_zero_iff, a_nl_i, a_nl_r, a_nl_n, true_or, or_true, eq_self, a_isRA_22, a_isRA_24, a_isRA_32, a_isA_20, ok_4, ok_5, ok_6, ok_7, ok_9, ok_20, ok_21, ok_30, ok_50, ok_180, ok_192, ok_200, c0]
          all_goals grind [ui_ap]
        · rw [if_neg c2] at hP
          repeat' first
            | with_reducible apply And.intro
            | with_reducible assumption
            | with_reducible intro _
            | with_reducible apply hP
            | simp only [q33_53, q33_54, q33_57, q33_59, q33_62, q33_63, q33_65, q33_66, q33_67, q33_68, q33_71, q33_74, sp_min, sp_max, as_nil, as_i, as_r, Nat.reduceAdd, Nat.reduceLeDiff, z_eq0, z_eq1, z_or, z_em, Classical.not_not, not_false_eq_true, not_true_eq_false, true_and, and_true, false_and, and_false, and_self, true_implies, false_implies, implies_true, Option.toList_some, Option.toList_none, List.cons_append, List.nil_append, Nat.add_eq_zero_iff, a_nl_i, a_nl_r, a_nl_n, true_or, or_true, eq_self, a_isRA_22, a_isRA_24, a_isRA_32, a_isA_20, ok_4, ok_5, ok_6, ok_7, ok_9, ok_20, ok_21, ok_30, ok_50, ok_180, ok_192, ok_200, c0]
          all_goals grind [ui_ap]) 0 (by decide) 0 0 (by decide) rfl
  rw [a_enter1 (M := a_m33) rfl (a_cat_rf (a_cat_int a_cat_nil)) (show 2 ≤ 5 by decide)]
  show a_at _ (a_xm a_m33) 0 [some (a_rf (C + 17)), some (.int a), none, none, none] [] _ _
  repeat' first
    | with_reducible apply And.intro
    | with_reducible assumption
    | with_reducible intro _
    | with_reducible apply hl
    | simp only [q33_0, q33_1, q33_2, q33_3, q33_4, q33_5, as_nil, as_i, as_r, Nat.reduceAdd, Nat.reduceLeDiff, z_eq0, z_eq1, z_or, z_em, Classical.not_not, not_false_eq_true, not_true_eq_false, true_and, and_true, false_and, and_false, and_self, true_implies, false_implies, implies_true, Option.toList_some, Option.toList_none, List.cons_append, List.nil_append, Nat.add_eq_zero_iff, a_nl_i, a_nl_r, a_nl_n, true_or, or_true, eq_self, a_isRA_22, a_isRA_24, a_isRA_32, a_isA_20, ok_4, ok_5, ok_6, ok_7, ok_9, ok_20, ok_21, ok_30, ok_50, ok_180, ok_192, ok_200]
  all_goals grind [ui_ap]
end YD
end
section
/-! the class: marks reckoned anew -/
section YE
variable {d n t C : Nat} {K L : Nat → Nat} {I I0 J J0 J1 J2 : Nat → Nat → Int32} {R : Nat → Nat → Nat} {P : Option Value → AH → Prop}
variable {Y : Nat → Nat → Int32}
/-- the class's asks stand in their row, told apart by number -/
def akP (C : Nat) (K : Nat → Nat) (I : Nat → Nat → Int32) (R : Nat → Nat → Nat) (Y : Nat → Nat → Int32) : Prop := ∀ i : Int32, 0 ≤ i → i < Y 0 17 → K (R (C + 15) i.toNatClampNeg) = 1 ∧ ¬ (R (C + 15) i.toNatClampNeg) = 0 ∧ I (R (C + 15) i.toNatClampNeg) 4 = i
/-- each ASK's kept MARK is the model's -/
def mrP (C : Nat) (I : Nat → Nat → Int32) (R : Nat → Nat → Nat) (Y : Nat → Nat → Int32) : Prop := ∀ i : Int32, 0 ≤ i → i < Y 0 17 → I (R (C + 15) i.toNatClampNeg) 12 = mkY (cmY Y) (hsY Y) i
/-- what reckoning changes: habits, the asks' marks -/
def frM (C : Nat) (K : Nat → Nat) (R : Nat → Nat → Nat) (Y : Nat → Nat → Int32) (I J : Nat → Nat → Int32) : Prop := ∀ x j, ¬ x = C + 21 → ¬ ((K x = 1 ∧ j = 12) ∧ ∃ i : Int32, 0 ≤ i ∧ i < Y 0 17 ∧ (R (C + 15) i.toNatClampNeg) = x) → J x j = I x j
theorem cm_frM (hS : cS C K L R) (h : cmP C I Y) (hF : frM C K R Y I J) : cmP C J Y := by
  refine ⟨fun k hk => ?_, ?_⟩
  · rw [hF _ _ (by omega) (fun q => by have := q.1.1; rw [k_20 hS] at this; exact absurd this (by decide))]
    exact h.1 k hk
  · rw [hF _ _ (by omega) (fun q => absurd q.1.2 (by decide))]
    exact h.2
theorem frM_21 (hF : frM C K R Y I J) {k : Nat} {v : Int32} : frM C K R Y I (a_ui J (C + 21) k v) := fun x j p q => by
  rw [ui_ap, if_neg (fun z => p z.1)]
  exact hF x j p q
theorem frM_12 (hF : frM C K R Y I J) {i : Int32} (i0 : 0 ≤ i) (i1 : i < Y 0 17) (ha : K (R (C + 15) i.toNatClampNeg) = 1) {v : Int32} : frM C K R Y I (a_ui J (R (C + 15) i.toNatClampNeg) 12 v) := fun x j p q => by
  rw [ui_ap, if_neg (fun z => q ⟨⟨by rw [z.1]; exact ha, z.2⟩, i, i0, i1, z.1.symm⟩)]
  exact hF x j p q
theorem le_reckon_39 (hA : akP C K I R Y) (hm : cmP C I Y) {hb : Int32 → Int32} (hP : ∀ J, cT C K L J R → frM C K R Y I J → (∀ i : Int32, 0 ≤ i → i < Y 0 17 → J (R (C + 15) i.toNatClampNeg) 12 = mkY (cmY Y) hb i) → P none (n, t, K, L, J, R)) : ∀ i : Int32, i ≤ 30 → ∀ J u, 0 ≤ i → i ≤ Y 0 17 → cT C K L J R → frM C K R Y I J → (∀ r : Int32, 0 ≤ r → r ≤ 5 → J (C + 21) r.toNatClampNeg = hb r) → (∀ o : Int32, 0 ≤ o → o < i → J (R (C + 15) o.toNatClampNeg) 12 = mkY (cmY Y) hb o) → a_at (d + 3) (a_xm a_m27) 39 [some (a_rf (C + 17)), some (.int i), u] [] (n, t, K, L, J, R) P := by
  refine up_ind 30 (fun i hk ih => ?_)
  intro J u q0 q1 hT hF hh hD
  have hS := hT.s
  have gA := hT.g_asksR
  have hmJ := cm_frM hS hm hF
  have gc := hT.g_asks
  rw [hmJ.2] at gc
  have hend : ¬ i < Y 0 17 → P none (n, t, K, L, J, R) := fun w => hP J hT hF (fun o h0 h1 => hD o h0 (by clear ih hP hF hh hD hA hm hmJ; grind))
  have hgo : i < Y 0 17 → ∀ J', (J' = a_ui J (R (C + 15) i.toNatClampNeg) 12 (mkY (cmY Y) hb i)) → a_at (d + 3) (a_xm a_m27) 39 [some (a_rf (C + 17)), some (.int (i + 1)), some (a_rf (R (C + 15) i.toNatClampNeg))] [] (n, t, K, L, J', R) P := fun w J' eJ => by
    subst eJ
    obtain ⟨k1, k2, k3⟩ := hA i q0 w
    have i30 : i < 30 := by clear ih hP hF hh hD hA hm hmJ hend; grind
    refine ih i30 _ _ (by clear ih hP hF hh hD hA hm hmJ hend; grind) (by clear ih hP hF hh hD hA hm hmJ hend; grind) (sT_askf hT (hT.g_ask _ k1).1 k1 (by decide)) (frM_12 hF q0 w k1) (fun r h0 h1 => ?_) (fun o h0 h1 => ?_)
    · rw [ui_ap, if_neg (fun z => by have := (hT.g_ask _ k1).1; omega)]
      exact hh r h0 h1
    · rw [ui_ap]
      by_cases c : o = i
      · subst c
        rw [if_pos ⟨rfl, rfl⟩]
      · have ho : o < i := by clear ih hP hF hh hD hA hm hmJ hend; grind
        obtain ⟨-, -, k6⟩ := hA o h0 (by clear ih hP hF hh hD hA hm hmJ hend; grind)
        rw [if_neg (fun z => c (by rw [← k6, ← k3, z.1]))]
        exact hD o h0 ho
  have h55 : i < Y 0 17 → a_at (d + 3) (a_xm a_m27) 50 [some (a_rf (C + 17)), some (.int i), u] [] (n, t, K, L, J, R) P := fun w => by
    have hgo := hgo w _ rfl
    obtain ⟨k1, k2, k3⟩ := hA i q0 w
    have i30 : i < 30 := by clear ih hP hF hh hD hA hm hgo hend hmJ; grind
    have hc : 0 ≤ i ∧ i < J (C + 14) 4 ∧ i < 30 := ⟨q0, by rw [hmJ.2]; exact w, i30⟩
    simp only [q27_50, q27_51, q27_54, q27_55, q27_58, q27_59, q27_60, q27_63, q27_64, q27_65, q27_66, k_17 hS, z_17, r_17_0 hS, k_14 hS, z_14, sp_askAt hS gA, as_nil, as_i, as_r, Nat.reduceAdd, Nat.reduceLeDiff, z_eq0, z_eq1, z_or, z_em, Classical.not_not, not_false_eq_true, not_true_eq_false, true_and, and_true, false_and, and_false, and_self, true_implies, false_implies, implies_true, Option.toList_some, Option.toList_none, List.cons_append, List.nil_append, Nat.add_eq_zero_iff, a_nl_i, a_nl_r, a_nl_n, true_or, or_true, eq_self, a_isRA_22, a_isRA_24, a_isRA_32, a_isA_20, ok_4, ok_5, ok_6, ok_7, ok_9, ok_20, ok_21, ok_30, ok_50, ok_180, ok_192, ok_200, hc, k1, k2]
    try simp only [true_and, and_true, true_implies, false_implies, implies_true, not_true_eq_false, not_false_eq_true]
    refine ce_joinedMark hS hmJ hh ⟨q0, i30⟩ ?_
    clear ih hP hF hh hD hA hm hmJ hend
    simp only [q27_69, q27_72, q27_75, k_17 hS, z_17, as_nil, as_i, as_r, Nat.reduceAdd, Nat.reduceLeDiff, z_eq0, z_eq1, z_or, z_em, Classical.not_not, not_false_eq_true, not_true_eq_false, true_and, and_true, false_and, and_false, and_self, true_implies, false_implies, implies_true, Option.toList_some, Option.toList_none, List.cons_append, List.nil_append, Nat.add_eq_zero_iff, a_nl_i, a_nl_r, a_nl_n, true_or, or_true, eq_self, a_isRA_22, a_isRA_24, a_isRA_32, a_isA_20, ok_4, ok_5, ok_6, ok_7, ok_9, ok_20, ok_21, ok_30, ok_50, ok_180, ok_192, ok_200, k1, k2]
    first
      | exact hgo
      | grind
  clear ih hP hF hh hD hA hm hgo
  rw [q27_39]
  simp only [q27_40, q27_41, q27_44, q27_47, q27_78, k_17 hS, z_17, r_17_0 hS, k_14 hS, z_14, as_nil, as_i, as_r, Nat.reduceAdd, Nat.reduceLeDiff, z_eq0, z_eq1, z_or, z_em, Classical.not_not, not_false_eq_true, not_true_eq_false, true_and, and_true, false_and, and_false, and_self, true_implies, false_implies, implies_true, Option.toList_some, Option.toList_none, List.cons_append, List.nil_append, Nat.add_eq_zero_iff, a_nl_i, a_nl_r, a_nl_n, true_or, or_true, eq_self, a_isRA_22, a_isRA_24, a_isRA_32, a_isA_20, ok_4, ok_5, ok_6, ok_7, ok_9, ok_20, ok_21, ok_30, ok_50, ok_180, ok_192, ok_200, hmJ.2]
  clear hmJ
  grind
theorem le_reckon_2 (hA : akP C K I R Y) (hm : cmP C I Y) (hY : mkP Y) (hs : I (C + 17) 5 = Y 0 11) (hP : ∀ J, cT C K L J R → frM C K R Y I J → mrP C J R Y → P none (n, t, K, L, J, R)) : ∀ r : Int32, r ≤ 6 → ∀ J u, 0 ≤ r → cT C K L J R → frM C K R Y I J → (∀ o : Int32, 0 ≤ o → o < r → J (C + 21) o.toNatClampNeg = hsY Y o) → a_at (d + 3) (a_xm a_m27) 2 [some (a_rf (C + 17)), some (.int r), u] [] (n, t, K, L, J, R) P := by
  refine up_ind 6 (fun r hk ih => ?_)
  intro J u q0 hT hF hh
  have hS := hT.s
  have hmJ := cm_frM hS hm hF
  have hsJ : J (C + 17) 5 = Y 0 11 := by
    rw [hF _ _ (by omega) (fun q => absurd q.1.2 (by decide))]
    exact hs
  have gc := hT.g_asks
  rw [hmJ.2] at gc
  have hend : ¬ r < 6 → a_at (d + 3) (a_xm a_m27) 39 [some (a_rf (C + 17)), some (.int 0), u] [] (n, t, K, L, J, R) P := fun w => le_reckon_39 (d := d) (hb := hsY Y) hA hm hP 0 (by decide) J u (by decide) gc.1 hT hF (fun o h0 h1 => hh o h0 (by clear ih hP hF hh hA hm hmJ; grind)) (fun o h0 h1 => by clear ih hP hF hh hA hm hmJ; grind)
  have hgo : r < 6 → ∀ v, v = hsY Y r → a_at (d + 3) (a_xm a_m27) 2 [some (a_rf (C + 17)), some (.int (r + 1)), u] [] (n, t, K, L, (a_ui J (C + 21) r.toNatClampNeg v), R) P := fun w v ev => by
    refine ih w _ _ (by clear ih hP hF hh hA hm hmJ hend; grind) (sT_Panel_habits hT) (frM_21 hF) (fun o h0 h1 => ?_)
    rw [ui_ap]
    by_cases c : o.toNatClampNeg = r.toNatClampNeg
    · have : o = r := by
        refine Classical.byContradiction (fun z => ?_)
        have : o < r := by clear ih hP hF hh hA hm hmJ hend c; grind
        have := cl_lt h0 this
        omega
      subst this
      rw [if_pos ⟨rfl, rfl⟩, ev]
    · rw [if_neg (fun z => c z.2)]
      exact hh o h0 (by
        have : ¬ o = r := fun z => c (by rw [z])
        clear ih hP hF hh hA hm hmJ hend c
        grind)
  have h8 : r < 6 → a_at (d + 3) (a_xm a_m27) 8 [some (a_rf (C + 17)), some (.int r), u] [] (n, t, K, L, J, R) P := fun w => by
    have hgo := hgo w
    have hr : 0 ≤ r ∧ r ≤ 5 := by clear ih hP hF hh hA hm hmJ hend hgo; grind
    by_cases c : Y 0 11 = 1
    · have hgo := hgo _ rfl
      unfold hsY at hgo
      rw [if_pos c] at hgo
      simp only [q27_8, q27_9, q27_12, q27_13, q27_14, q27_17, q27_18, q27_21, q27_22, q27_23, k_17 hS, z_17, r_17_4 hS, k_21 hS, l_21 hS, z_21, as_nil, as_i, as_r, Nat.reduceAdd, Nat.reduceLeDiff, z_eq0, z_eq1, z_or, z_em, Classical.not_not, not_false_eq_true, not_true_eq_false, true_and, and_true, false_and, and_false, and_self, true_implies, false_implies, implies_true, Option.toList_some, Option.toList_none, List.cons_append, List.nil_append, Nat.add_eq_zero_iff, a_nl_i, a_nl_r, a_nl_n, true_or, or_true, eq_self, a_isRA_22, a_isRA_24, a_isRA_32, a_isA_20, ok_4, ok_5, ok_6, ok_7, ok_9, ok_20, ok_21, ok_30, ok_50, ok_180, ok_192, ok_200, hsJ, c]
      try simp only [true_and, and_true, true_implies, false_implies, implies_true, not_true_eq_false, not_false_eq_true]
      refine ce_habitOf hT hmJ hY hr ?_
      clear ih hP hF hh hA hm hmJ hend
      repeat' first
        | with_reducible apply And.intro
        | with_reducible assumption
        | with_reducible intro _
        | with_reducible apply hgo
        | simp only [q27_26, q27_29, q27_30, q27_31, q27_34, as_nil, as_i, as_r, Nat.reduceAdd, Nat.reduceLeDiff, z_eq0, z_eq1, z_or, z_em, Classical.not_not, not_false_eq_true, not_true_eq_false, true_and, and_true, false_and, and_false, and_self, true_implies, false_implies, implies_true, Option.toList_some, Option.toList_none, List.cons_append, List.nil_append, Nat.add_eq_zero_iff, a_nl_i, a_nl_r, a_nl_n, true_or, or_true, eq_self, a_isRA_22, a_isRA_24, a_isRA_32, a_isA_20, ok_4, ok_5, ok_6, ok_7, ok_9, ok_20, ok_21, ok_30, ok_50, ok_180, ok_192, ok_200, k_21 hS, l_21 hS, z_21]
      all_goals grind [ui_ap]
    · have hgo := hgo 0 (by unfold hsY; rw [if_neg c])
      clear ih hP hF hh hA hm hmJ hend
      simp only [q27_8, q27_9, q27_12, q27_13, q27_14, q27_17, q27_18, q27_21, q27_22, q27_23, q27_26, q27_29, q27_30, q27_31, q27_34, k_17 hS, z_17, r_17_4 hS, k_21 hS, l_21 hS, z_21, as_nil, as_i, as_r, Nat.reduceAdd, Nat.reduceLeDiff, z_eq0, z_eq1, z_or, z_em, Classical.not_not, not_false_eq_true, not_true_eq_false, true_and, and_true, false_and, and_false, and_self, true_implies, false_implies, implies_true, Option.toList_some, Option.toList_none, List.cons_append, List.nil_append, Nat.add_eq_zero_iff, a_nl_i, a_nl_r, a_nl_n, true_or, or_true, eq_self, a_isRA_22, a_isRA_24, a_isRA_32, a_isA_20, ok_4, ok_5, ok_6, ok_7, ok_9, ok_20, ok_21, ok_30, ok_50, ok_180, ok_192, ok_200, hsJ, c]
      grind
  clear ih hP hF hh hA hm hgo hmJ
  rw [q27_2]
  simp only [q27_3, q27_5, q27_37, q27_38, as_nil, as_i, as_r, Nat.reduceAdd, Nat.reduceLeDiff, z_eq0, z_eq1, z_or, z_em, Classical.not_not, not_false_eq_true, not_true_eq_false, true_and, and_true, false_and, and_false, and_self, true_implies, false_implies, implies_true, Option.toList_some, Option.toList_none, List.cons_append, List.nil_append, Nat.add_eq_zero_iff, a_nl_i, a_nl_r, a_nl_n, true_or, or_true, eq_self, a_isRA_22, a_isRA_24, a_isRA_32, a_isA_20, ok_4, ok_5, ok_6, ok_7, ok_9, ok_20, ok_21, ok_30, ok_50, ok_180, ok_192, ok_200]
  grind
theorem ce_reckonMarks (hT : cT C K L I R) (hA : akP C K I R Y) (hm : cmP C I Y) (hY : mkP Y) (hs : I (C + 17) 5 = Y 0 11) (hP : ∀ J, cT C K L J R → frM C K R Y I J → mrP C J R Y → P none (n, t, K, L, J, R)) : a_does (d + 4) 27 [a_rf (C + 17)] (n, t, K, L, I, R) P := by
  have hS := hT.s
  have hl := le_reckon_2 (d := d) (n := n) (t := t) (P := P) hA hm hY hs hP 0 (by decide) I none (by decide) hT (fun x j _ _ => rfl) (fun o h0 h1 => by clear hP hA hm hY hT; grind)
  rw [a_enter1 (M := a_m27) rfl (a_cat_rf a_cat_nil) (show 1 ≤ 3 by decide)]
  show a_at _ (a_xm a_m27) 0 [some (a_rf (C + 17)), none, none] [] _ _
  repeat' first
    | with_reducible apply And.intro
    | with_reducible assumption
    | with_reducible intro _
    | with_reducible apply hl
    | simp only [q27_0, q27_1, as_nil, as_i, as_r, Nat.reduceAdd, Nat.reduceLeDiff, z_eq0, z_eq1, z_or, z_em, Classical.not_not, not_false_eq_true, not_true_eq_false, true_and, and_true, false_and, and_false, and_self, true_implies, false_implies, implies_true, Option.toList_some, Option.toList_none, List.cons_append, List.nil_append, Nat.add_eq_zero_iff, a_nl_i, a_nl_r, a_nl_n, true_or, or_true, eq_self, a_isRA_22, a_isRA_24, a_isRA_32, a_isA_20, ok_4, ok_5, ok_6, ok_7, ok_9, ok_20, ok_21, ok_30, ok_50, ok_180, ok_192, ok_200]
  all_goals grind [ui_ap]
end YE
end
section
/-! what a TEXT comes to hangs on nine facts alone -/
section YF
variable {f : Nat → Int32} {e : Int32}
def eq9 (x y : Nat → Int32) : Prop := ∀ j, j < 9 → x j = y j
def vq (r : rdT) : Prop := ∀ x y, eq9 x y → r.2.2 x = r.2.2 y
theorem vq_k {b : Bool} {a v : Int32} : vq (b, a, fun _ => v) := fun _ _ _ => rfl
theorem xU_q (a : Int32) : vq (xU f e a) := by
  unfold xU
  split
  · intro x y h
    rename_i q
    have hr := (xft_r (f a.toNatClampNeg)).resolve_left q.2
    have h9 : (xft (f a.toNatClampNeg)).toNatClampNeg < 9 := show _ < (9 : Int32).toNatClampNeg from cl_lt hr.1 (by
      have := hr.2
      generalize xft (f a.toNatClampNeg) = z at this
      clear q hr h
      grind)
    exact h _ h9
  · split
    · exact vq_k
    · exact vq_k
theorem xsu_q : ∀ (k : Nat) (r : rdT), vq r → vq (xsu f e k r) := by
  intro k
  induction k with
  | zero => intro r h; exact h
  | succ k ih =>
    intro r h
    unfold xsu
    split
    · refine ih _ (fun x y q => ?_)
      show xar _ (r.2.2 x) _ = xar _ (r.2.2 y) _
      rw [h x y q, xU_q _ x y q]
    · exact h
theorem xS_q (a : Int32) : vq (xS f e a) := xsu_q 50 _ (xU_q a)
theorem xC_q (a : Int32) : vq (xC f e a) := by
  unfold xC
  split
  · split
    · intro x y q
      show xcmp _ _ _ = xcmp _ _ _
      rw [xS_q _ x y q, xS_q _ x y q]
    · exact vq_k
  · exact vq_k
theorem xlo_q {q : Int32 → rdT} (hq : ∀ a, vq (q a)) {c : Int32} {op : Int32 → Int32 → Int32} : ∀ (k : Nat) (r : rdT), vq r → vq (xlo f e q c op k r) := by
  intro k
  induction k with
  | zero => intro r h; exact h
  | succ k ih =>
    intro r h
    unfold xlo
    split
    · refine ih _ (fun x y w => ?_)
      show op (r.2.2 x) _ = op (r.2.2 y) _
      rw [h x y w, hq _ x y w]
    · exact h
theorem xjo_q {q : Int32 → rdT} (hq : ∀ a, vq (q a)) : ∀ (y : Nat) (a : Int32), vq (xjo f e q y a) := by
  intro y
  induction y with
  | zero => intro a; unfold xjo; exact hq a
  | succ y ih => intro a; unfold xjo; exact xlo_q ih 50 _ (ih a)
theorem xP_q : ∀ (z : Nat) (a : Int32), vq (xP f e z a) := by
  intro z
  induction z with
  | zero =>
    intro a
    unfold xP
    split
    · exact vq_k
    · exact xC_q a
  | succ z ih =>
    intro a
    unfold xP
    split
    · split
      · split
        · exact xjo_q ih 3 _
        · exact vq_k
      · exact vq_k
    · split
      · intro x y w
        show 1 - _ = 1 - _
        rw [ih _ x y w]
      · exact xC_q a
theorem xR_q (a : Int32) : vq (xR f e a) := xjo_q (xP_q 4) 3 a
theorem xT_q : vq (xT f e) := by
  unfold xT
  split
  · split
    · by_cases c : f 0 = 79
      · rw [if_pos c]
        split
        · exact xS_q 2
        · exact fun x y w => xS_q 2 x y w
      · rw [if_neg c]
        split
        · exact xR_q 2
        · exact fun x y w => xR_q 2 x y w
    · exact vq_k
  · exact vq_k
/-- a rule comes to 0 or 1 -/
def v01 (r : rdT) : Prop := ∀ x, r.2.2 x = 0 ∨ r.2.2 x = 1
theorem v01_k {b : Bool} {a : Int32} : v01 (b, a, fun _ => 0) := fun _ => Or.inl rfl
theorem xlo_v1 {q : Int32 → rdT} (hq : ∀ a, v01 (q a)) {c : Int32} {y : Nat} : ∀ (k : Nat) (r : rdT), v01 r → v01 (xlo f e q c (opY y) k r) := by
  intro k
  induction k with
  | zero => intro r h; exact h
  | succ k ih =>
    intro r h
    unfold xlo
    split
    · refine ih _ (fun x => ?_)
      show opY y (r.2.2 x) _ = 0 ∨ opY y (r.2.2 x) _ = 1
      unfold opY
      rcases h x with e1 | e1 <;> rcases hq (r.2.1 + 1) x with e2 | e2 <;> rw [e1, e2] <;> (split; decide; split; decide; decide)
    · exact h
theorem xjo_v1 {q : Int32 → rdT} (hq : ∀ a, v01 (q a)) : ∀ (y : Nat) (a : Int32), v01 (xjo f e q y a) := by
  intro y
  induction y with
  | zero => intro a; unfold xjo; exact hq a
  | succ y ih => intro a; unfold xjo; exact xlo_v1 ih 50 _ (ih a)
theorem xC_v1 (a : Int32) : v01 (xC f e a) := fun x => xC_01
theorem xP_v1 : ∀ (z : Nat) (a : Int32), v01 (xP f e z a) := by
  intro z
  induction z with
  | zero =>
    intro a
    unfold xP
    split
    · exact v01_k
    · exact xC_v1 a
  | succ z ih =>
    intro a
    unfold xP
    split
    · split
      · split
        · exact xjo_v1 ih 3 _
        · exact v01_k
      · exact v01_k
    · split
      · intro x
        show 1 - (xP f e z (a + 1)).2.2 x = 0 ∨ 1 - (xP f e z (a + 1)).2.2 x = 1
        rcases ih (a + 1) x with e1 | e1 <;> rw [e1] <;> decide
      · exact xC_v1 a
theorem xR_v1 (a : Int32) : v01 (xR f e a) := xjo_v1 (xP_v1 4) 3 a
theorem xT_rule (h : (xT f e).1 = true) (hl : ¬ f 0 = 79) : (xR f e 2).1 = true ∧ (xR f e 2).2.1 = e ∧ xT f e = xR f e 2 := by
  unfold xT at h ⊢
  rw [if_neg hl] at h ⊢
  by_cases c0 : 0 < e ∧ (f 0 = 66 ∨ f 0 = 87 ∨ f 0 = 79)
  · rw [if_pos c0] at h ⊢
    by_cases c1 : 1 < e ∧ f 1 = 58
    · rw [if_pos c1] at h ⊢
      by_cases c2 : (xR f e 2).2.1 = e
      · rw [if_pos c2] at h ⊢
        exact ⟨h, c2, rfl⟩
      · rw [if_neg c2] at h
        exact absurd h Bool.false_ne_true
    · rw [if_neg c1] at h
      exact absurd h Bool.false_ne_true
  · rw [if_neg c0] at h
    exact absurd h Bool.false_ne_true
theorem xT_sum (h : (xT f e).1 = true) (hl : f 0 = 79) : (xS f e 2).1 = true ∧ (xS f e 2).2.1 = e ∧ xT f e = xS f e 2 := by
  unfold xT at h ⊢
  rw [if_pos hl] at h ⊢
  by_cases c0 : 0 < e ∧ (f 0 = 66 ∨ f 0 = 87 ∨ f 0 = 79)
  · rw [if_pos c0] at h ⊢
    by_cases c1 : 1 < e ∧ f 1 = 58
    · rw [if_pos c1] at h ⊢
      by_cases c2 : (xS f e 2).2.1 = e
      · rw [if_pos c2] at h ⊢
        exact ⟨h, c2, rfl⟩
      · rw [if_neg c2] at h
        exact absurd h Bool.false_ne_true
    · rw [if_neg c1] at h
      exact absurd h Bool.false_ne_true
  · rw [if_neg c0] at h
    exact absurd h Bool.false_ne_true
/-- the texts that are kept, by the model's cells: bytes, their number, in force, what one comes to, the least that holds -/
def wtY (Y : Nat → Nat → Int32) (t : Nat) : Nat → Int32 := fun j => Y 28 (50 * t + j)
def wvY (Y : Nat → Nat → Int32) (t : Nat) (fc : Nat → Int32) : Int32 := (xT (wtY Y t) (Y 29 t)).2.2 fc
def hgY (Y : Nat → Nat → Int32) (g s : Int32) (fc : Nat → Int32) : Nat → Int32 → Int32
  | 0, _ => -9
  | k + 1, i => if (wtY Y i.toNatClampNeg 0 = g ∧ Y 30 i.toNatClampNeg ≤ s ∧ s < Y 31 i.toNatClampNeg) ∧ ¬ wvY Y i.toNatClampNeg fc = 0 then i else hgY Y g s fc k (i + 1)
theorem hgY_q {Y : Nat → Nat → Int32} {g s : Int32} {x y : Nat → Int32} (h : eq9 x y) : ∀ (k : Nat) (i : Int32), hgY Y g s x k i = hgY Y g s y k i := by
  intro k
  induction k with
  | zero => intro i; rfl
  | succ k ih =>
    intro i
    unfold hgY
    rw [show wvY Y i.toNatClampNeg x = wvY Y i.toNatClampNeg y from xT_q x y h, ih]
/-- all texts that are kept stand -/
def tsY (Y : Nat → Nat → Int32) : Prop := ∀ t : Nat, t < (Y 0 41).toNatClampNeg → (xT (wtY Y t) (Y 29 t)).1 = true ∧ 0 ≤ Y 29 t ∧ Y 29 t ≤ 50
/-- the facts of a place -/
def fcY (Y : Nat → Nat → Int32) (a : Nat) (mk b s lost : Int32) : Nat → Int32 := fun j => if j = 0 then Y 7 a else if j = 1 then Y 8 a else if j = 2 then Y 9 a else if j = 3 then Y 10 a else if j = 4 then Y 15 a else if j = 5 then (if mk < 0 then 0 else mk) else if j = 6 then s else if j = 7 then b else lost
end YF
end
section
/-! the reference: texts that hold -/
section YG
variable {d n t M : Nat} {K L : Nat → Nat} {I I0 J J0 J1 J2 : Nat → Nat → Int32} {R : Nat → Nat → Nat} {P : Option Value → AH → Prop} {f : Nat → Int32} {e : Int32}
theorem n50 {x i : Int32} (h0 : 0 ≤ x ∧ x < 20) (h1 : 0 ≤ i ∧ i ≤ 50) : (50 * x + i).toNatClampNeg = 50 * x.toNatClampNeg + i.toNatClampNeg ∧ (50 * x).toNatClampNeg = 50 * x.toNatClampNeg ∧ 0 ≤ 50 * x ∧ 50 * x ≤ 950 := by
  have a1 := Int32.le_iff_toInt_le.mp h0.1
  have a2 := Int32.lt_iff_toInt_lt.mp h0.2
  have b1 := Int32.le_iff_toInt_le.mp h1.1
  have b2 := Int32.le_iff_toInt_le.mp h1.2
  have w0 : (0 : Int32).toInt = 0 := rfl
  have w20 : (20 : Int32).toInt = 20 := rfl
  have w50 : (50 : Int32).toInt = 50 := rfl
  have w950 : (950 : Int32).toInt = 950 := rfl
  rw [w0] at a1 b1
  rw [w20] at a2
  rw [w50] at b2
  have t1 : (50 * x).toInt = 50 * x.toInt := by
    rw [Int32.toInt_mul, w50, in_bm (by omega) (by omega)]
  have t2 : (50 * x + i).toInt = 50 * x.toInt + i.toInt := by
    rw [Int32.toInt_add, t1, in_bm (by omega) (by omega)]
  refine ⟨?_, ?_, ?_, ?_⟩
  · show (50 * x + i).toInt.toNat = 50 * x.toInt.toNat + i.toInt.toNat
    rw [t2]
    omega
  · show (50 * x).toInt.toNat = 50 * x.toInt.toNat
    rw [t1]
    omega
  · rw [Int32.le_iff_toInt_le, t1, w0]
    omega
  · rw [Int32.le_iff_toInt_le, t1, w950]
    omega
theorem xt_open (hS : m_S M K L R) (hC : mC M I0 I) {x : Int32} (hx : 0 ≤ x ∧ x < 20) (hP : ∀ J, mC M I0 J → vw M J (wtY (yv M I0) x.toNatClampNeg) ((yv M I0) 29 x.toNatClampNeg) → (∀ j, J (M + 32) j = I (M + 32) j) → J M 49 = 2 → J M 50 = 0 → P none (n, t, K, L, J, R)) : a_does (d + 1) 195 [a_rf M, .int x] (n, t, K, L, I, R) P := by
  have g1 := rg_writtenMany hC.1
  have hl := g1 x.toNatClampNeg
  have ew : I (M + 29) x.toNatClampNeg = (yv M I0) 29 x.toNatClampNeg := hC.2 _ _ (by unfold sC; omega)
  have ew2 : ∀ j, I (M + 28) j = (yv M I0) 28 j := fun j => hC.2 _ _ (by unfold sC; omega)
  have hp := hP (a_ui (a_ui (a_ui (a_ui (a_ui I M 46 1) M 47 (50 * x)) M 48 (I (M + 29) x.toNatClampNeg)) M 49 2) M 50 0) (sC_isBad (sC_at (sC_end (sC_base (sC_isTold hC) (n50 hx (i := 0) ⟨by decide, by decide⟩).2.2)))) ⟨by simp only [ui_ap]; simpa using ew, by rw [← ew]; exact hl, by simp only [ui_ap]; simpa using (n50 hx (i := 0) ⟨by decide, by decide⟩).2.2, fun j j0 j1 => by
    have hj := n50 hx (i := j) ⟨j0, by rw [← ew] at j1; clear hP ew2; grind⟩
    simp only [ui_ap]
    simp
    rw [hj.1, ew2]
    rfl⟩ (fun j => by simp only [ui_ap]; simp) (by simp only [ui_ap]; simp) (by simp only [ui_ap]; simp)
  have hb := (n50 hx (i := 0) ⟨by decide, by decide⟩).2.2
  clear hP g1 ew ew2 hC hl
  rw [a_enter1 (M := a_m195) rfl (a_cat_rf (a_cat_int a_cat_nil)) (show 2 ≤ 2 by decide)]
  show a_at _ (a_xm a_m195) 0 [some (a_rf M), some (.int x)] [] _ _
  repeat' first
    | with_reducible apply And.intro
    | with_reducible assumption
    | with_reducible intro _
    | with_reducible apply hp
    | simp only [q195_0, q195_1, q195_2, q195_5, q195_6, q195_8, q195_9, q195_10, q195_13, q195_14, q195_15, q195_18, q195_19, q195_20, q195_23, q195_24, q195_25, q195_28, q195_29, q195_30, q195_33, m_0 hS, m_K hS, mR_writtenMany hS, mK_writtenMany hS, mL_writtenMany hS, as_nil, as_i, as_r, Nat.reduceAdd, Nat.reduceLeDiff, z_eq0, z_eq1, z_or, z_em, Classical.not_not, not_false_eq_true, not_true_eq_false, true_and, and_true, false_and, and_false, and_self, true_implies, false_implies, implies_true, Option.toList_some, Option.toList_none, List.cons_append, List.nil_append, Nat.add_eq_zero_iff, a_nl_i, a_nl_r, a_nl_n, true_or, or_true, eq_self, ok_4, ok_5, ok_6, ok_7, ok_9, ok_10, ok_20, ok_21, ok_24, ok_30, ok_48, ok_50, ok_60, ok_80, ok_120, ok_180, ok_192, ok_200, ok_900, ok_1000, ok_84000, ui_ap, ne_MM, ne_M0, ne_0M, Nat.reduceEqDiff, reduceIte, if_true, if_false]
  all_goals grind [ui_ap]
theorem xt_doesHold (hS : m_S M K L R) (hC : mC M I0 I) {x : Int32} (hx : 0 ≤ x ∧ x < 20) (hs : (xT (wtY (yv M I0) x.toNatClampNeg) ((yv M I0) 29 x.toNatClampNeg)).1 = true) (hl : ¬ wtY (yv M I0) x.toNatClampNeg 0 = 79) {fc : Nat → Int32} (hf : ∀ j, I (M + 32) j = fc j) (hP : ∀ J, mC M I0 J → (∀ j, J (M + 32) j = fc j) → P (some (.int (wvY (yv M I0) x.toNatClampNeg fc))) (n, t, K, L, J, R)) : a_does (d + 6) 211 [a_rf M, .int x] (n, t, K, L, I, R) P := by
  obtain ⟨r1, r2, r3⟩ := xT_rule hs hl
  have h2 : (2 : Int32) ≤ (yv M I0) 29 x.toNatClampNeg := by
    refine Classical.byContradiction (fun w => ?_)
    unfold xT at hs
    by_cases c0 : 0 < (yv M I0) 29 x.toNatClampNeg ∧ (wtY (yv M I0) x.toNatClampNeg 0 = 66 ∨ wtY (yv M I0) x.toNatClampNeg 0 = 87 ∨ wtY (yv M I0) x.toNatClampNeg 0 = 79)
    · rw [if_pos c0] at hs
      by_cases c1 : 1 < (yv M I0) 29 x.toNatClampNeg ∧ wtY (yv M I0) x.toNatClampNeg 1 = 58
      · have := c1.1
        generalize (yv M I0) 29 x.toNatClampNeg = z at this w
        clear hs c0 c1 r1 r2 r3 hP hf hC
        grind
      · rw [if_neg c1] at hs
        exact absurd hs Bool.false_ne_true
    · rw [if_neg c0] at hs
      exact absurd hs Bool.false_ne_true
  rw [a_enter1 (M := a_m211) rfl (a_cat_rf (a_cat_int a_cat_nil)) (show 2 ≤ 2 by decide)]
  show a_at _ (a_xm a_m211) 0 [some (a_rf M), some (.int x)] [] _ _
  simp only [q211_0, q211_1, q211_2, m_0 hS, m_K hS, as_nil, as_i, as_r, Nat.reduceAdd, Nat.reduceLeDiff, z_eq0, z_eq1, z_or, z_em, Classical.not_not, not_false_eq_true, not_true_eq_false, true_and, and_true, false_and, and_false, and_self, true_implies, false_implies, implies_true, Option.toList_some, Option.toList_none, List.cons_append, List.nil_append, Nat.add_eq_zero_iff, a_nl_i, a_nl_r, a_nl_n, true_or, or_true, eq_self, ok_4, ok_5, ok_6, ok_7, ok_9, ok_10, ok_20, ok_21, ok_24, ok_30, ok_48, ok_50, ok_60, ok_80, ok_120, ok_180, ok_192, ok_200, ok_900, ok_1000, ok_84000]
  refine xt_open (d := d + 4) hS hC hx (fun J m1 m2 m3 m4 m5 => ?_)
  simp only [q211_5, q211_6, m_0 hS, m_K hS, as_nil, as_i, as_r, Nat.reduceAdd, Nat.reduceLeDiff, z_eq0, z_eq1, z_or, z_em, Classical.not_not, not_false_eq_true, not_true_eq_false, true_and, and_true, false_and, and_false, and_self, true_implies, false_implies, implies_true, Option.toList_some, Option.toList_none, List.cons_append, List.nil_append, Nat.add_eq_zero_iff, a_nl_i, a_nl_r, a_nl_n, true_or, or_true, eq_self, ok_4, ok_5, ok_6, ok_7, ok_9, ok_10, ok_20, ok_21, ok_24, ok_30, ok_48, ok_50, ok_60, ok_80, ok_120, ok_180, ok_192, ok_200, ok_900, ok_1000, ok_84000]
  refine xe_readRule (d := d) hS m1 m2 (fc := fc) (fun j => by rw [m3, hf]) m4 ⟨by decide, h2⟩ m5 (fun J2 z => ?_)
  rw [if_pos ⟨r1, r2⟩] at z ⊢
  simp only [q211_9, as_nil, as_i, as_r, Nat.reduceAdd, Nat.reduceLeDiff, z_eq0, z_eq1, z_or, z_em, Classical.not_not, not_false_eq_true, not_true_eq_false, true_and, and_true, false_and, and_false, and_self, true_implies, false_implies, implies_true, Option.toList_some, Option.toList_none, List.cons_append, List.nil_append, Nat.add_eq_zero_iff, a_nl_i, a_nl_r, a_nl_n, true_or, or_true, eq_self, ok_4, ok_5, ok_6, ok_7, ok_9, ok_10, ok_20, ok_21, ok_24, ok_30, ok_48, ok_50, ok_60, ok_80, ok_120, ok_180, ok_192, ok_200, ok_900, ok_1000, ok_84000]
  have hp := hP J2 z.1 z.2.2.1
  unfold wvY at hp
  rw [r3] at hp
  exact ⟨xR_v1 2 fc, hp⟩
/-- the least text of a letter that is in force and holds -/
theorem xt_holding_12 (hS : m_S M K L R) (hts : tsY (yv M I0)) {g a b s : Int32} (hg : ¬ g = 79) {fc : Nat → Int32} {V : Int32} (hP : ∀ J, mC M I0 J → (∀ j, J (M + 32) j = fc j) → P (some (.int V)) (n, t, K, L, J, R)) : ∀ i : Int32, i ≤ 20 → ∀ J, 0 ≤ i → i ≤ (yv M I0) 0 41 → mC M I0 J → (∀ j, J (M + 32) j = fc j) → hgY (yv M I0) g s fc (((yv M I0) 0 41).toNatClampNeg - i.toNatClampNeg) i = V → a_at (d + 6) (a_xm a_m210) 12 [some (a_rf M), some (.int g), some (.int a), some (.int b), some (.int s), some (.int i)] [] (n, t, K, L, J, R) P := by
  refine up_ind 20 (fun i hi ih => ?_)
  intro J h0 h1 hC hf hV
  have et : J M 41 = (yv M I0) 0 41 := hC.2 _ _ (by unfold sC; omega)
  have ew : ∀ j, J (M + 28) j = (yv M I0) 28 j := fun j => hC.2 _ _ (by unfold sC; omega)
  have e30 : ∀ j, J (M + 30) j = (yv M I0) 30 j := fun j => hC.2 _ _ (by unfold sC; omega)
  have e31 : ∀ j, J (M + 31) j = (yv M I0) 31 j := fun j => hC.2 _ _ (by unfold sC; omega)
  have gt := rg_texts hC.1
  rw [et] at gt
  have hexit : ¬ i < (yv M I0) 0 41 → P (some (.int (-9))) (n, t, K, L, J, R) := fun w => by
    have ei : i = (yv M I0) 0 41 := by
      generalize (yv M I0) 0 41 = z at w h1 ⊢
      clear ih hP hC hf hV et ew e30 e31 gt
      grind
    have hp := hP J hC hf
    rw [← hV, ← ei, Nat.sub_self] at hp
    exact hp
  have hst : i < (yv M I0) 0 41 → V = (if (wtY (yv M I0) i.toNatClampNeg 0 = g ∧ (yv M I0) 30 i.toNatClampNeg ≤ s ∧ s < (yv M I0) 31 i.toNatClampNeg) ∧ ¬ wvY (yv M I0) i.toNatClampNeg fc = 0 then i else hgY (yv M I0) g s fc (((yv M I0) 0 41).toNatClampNeg - (i + 1).toNatClampNeg) (i + 1)) := fun w => by
    have i3 := cl_lt h0 w
    have ei : (i + 1).toNatClampNeg = i.toNatClampNeg + 1 := cl_up h0 (by
      clear ih hP hC hf hV et ew e30 e31 hexit i3
      generalize (yv M I0) 0 41 = z at w h1 gt
      grind)
    rw [← hV, ei, show ((yv M I0) 0 41).toNatClampNeg - i.toNatClampNeg = (((yv M I0) 0 41).toNatClampNeg - (i.toNatClampNeg + 1)) + 1 by omega]
    rfl
  have i20 : i < (yv M I0) 0 41 → 0 ≤ i ∧ i < 20 := fun w => by
    clear ih hP hC hf hV et ew e30 e31 hexit hst
    generalize (yv M I0) 0 41 = z at w h1 gt
    grind
  have hnx : i < (yv M I0) 0 41 → ∀ J2, mC M I0 J2 → (∀ j, J2 (M + 32) j = fc j) → ¬ ((wtY (yv M I0) i.toNatClampNeg 0 = g ∧ (yv M I0) 30 i.toNatClampNeg ≤ s ∧ s < (yv M I0) 31 i.toNatClampNeg) ∧ ¬ wvY (yv M I0) i.toNatClampNeg fc = 0) → a_at (d + 6) (a_xm a_m210) 12 [some (a_rf M), some (.int g), some (.int a), some (.int b), some (.int s), some (.int (i + 1))] [] (n, t, K, L, J2, R) P := fun w J2 m1 m2 q => by
    have hs := hst w
    rw [if_neg q] at hs
    have i2 := i20 w
    refine ih (by clear ih hP hC hf hV et ew e30 e31 hexit hst hs; grind) J2 (by clear ih hP hC hf hV et ew e30 e31 hexit hst hs; grind) (by
      clear ih hP hC hf hV et ew e30 e31 hexit hst hs
      generalize (yv M I0) 0 41 = z at w h1 gt ⊢
      grind) m1 m2 hs.symm
  have h21 : i < (yv M I0) 0 41 → a_at (d + 6) (a_xm a_m210) 21 [some (a_rf M), some (.int g), some (.int a), some (.int b), some (.int s), some (.int i)] [] (n, t, K, L, J, R) P := fun w => by
    have i2 := i20 w
    have hnx := hnx w
    have hst := hst w
    obtain ⟨n1, n2, n3, n4⟩ := n50 i2 (i := 0) ⟨by decide, by decide⟩
    have e0 : J (M + 28) (50 * i).toNatClampNeg = wtY (yv M I0) i.toNatClampNeg 0 := by
      rw [n2, ew]
      rfl
    have n4' : 50 * i < 1000 := by
      clear ih hP hC hf hV et ew e30 e31 hexit hst hnx e0
      grind
    have n10 : ¬ (1 : Int32) = 0 := by decide
    simp only [q210_21, q210_22, q210_24, q210_25, q210_27, m_0 hS, m_K hS, sp_isInForce hS, as_nil, as_i, as_r, Nat.reduceAdd, Nat.reduceLeDiff, z_eq0, z_eq1, z_or, z_em, Classical.not_not, not_false_eq_true, not_true_eq_false, true_and, and_true, false_and, and_false, and_self, true_implies, false_implies, implies_true, Option.toList_some, Option.toList_none, List.cons_append, List.nil_append, Nat.add_eq_zero_iff, a_nl_i, a_nl_r, a_nl_n, true_or, or_true, eq_self, ok_4, ok_5, ok_6, ok_7, ok_9, ok_10, ok_20, ok_21, ok_24, ok_30, ok_48, ok_50, ok_60, ok_80, ok_120, ok_180, ok_192, ok_200, ok_900, ok_1000, ok_84000, e0, e30, e31]
    by_cases c : wtY (yv M I0) i.toNatClampNeg 0 = g ∧ (yv M I0) 30 i.toNatClampNeg ≤ s ∧ s < (yv M I0) 31 i.toNatClampNeg
    · rw [if_pos c]
      refine ⟨⟨n3, n4'⟩, fun _ => i2, ?_⟩
      simp only [q210_30, q210_33, q210_34, q210_36, m_0 hS, m_K hS, as_nil, as_i, as_r, Nat.reduceAdd, Nat.reduceLeDiff, z_eq0, z_eq1, z_or, z_em, Classical.not_not, not_false_eq_true, not_true_eq_false, true_and, and_true, false_and, and_false, and_self, true_implies, false_implies, implies_true, Option.toList_some, Option.toList_none, List.cons_append, List.nil_append, Nat.add_eq_zero_iff, a_nl_i, a_nl_r, a_nl_n, true_or, or_true, eq_self, ok_4, ok_5, ok_6, ok_7, ok_9, ok_10, ok_20, ok_21, ok_24, ok_30, ok_48, ok_50, ok_60, ok_80, ok_120, ok_180, ok_192, ok_200, ok_900, ok_1000, ok_84000, n10]
      try simp only [true_and, and_true, true_implies, false_implies, implies_true, not_true_eq_false, not_false_eq_true]
      refine xt_doesHold hS hC i2 (hts _ (cl_lt h0 w)).1 (by rw [c.1]; exact hg) hf (fun J2 m1 m2 => ?_)
      by_cases c2 : wvY (yv M I0) i.toNatClampNeg fc = 0
      · have hg2 := hnx J2 m1 m2 (fun q => q.2 c2)
        clear ih hP hC hf hV et ew e30 e31 hexit hst hnx
        simp only [q210_39, q210_45, q210_48, as_nil, as_i, as_r, Nat.reduceAdd, Nat.reduceLeDiff, z_eq0, z_eq1, z_or, z_em, Classical.not_not, not_false_eq_true, not_true_eq_false, true_and, and_true, false_and, and_false, and_self, true_implies, false_implies, implies_true, Option.toList_some, Option.toList_none, List.cons_append, List.nil_append, Nat.add_eq_zero_iff, a_nl_i, a_nl_r, a_nl_n, true_or, or_true, eq_self, ok_4, ok_5, ok_6, ok_7, ok_9, ok_10, ok_20, ok_21, ok_24, ok_30, ok_48, ok_50, ok_60, ok_80, ok_120, ok_180, ok_192, ok_200, ok_900, ok_1000, ok_84000, c2]
        first
          | exact hg2
          | grind
      · rw [if_pos ⟨c, c2⟩] at hst
        have hp := hP J2 m1 m2
        rw [hst] at hp
        clear ih hP hC hf hV et ew e30 e31 hexit hst hnx
        simp only [q210_39, q210_42, q210_44, as_nil, as_i, as_r, Nat.reduceAdd, Nat.reduceLeDiff, z_eq0, z_eq1, z_or, z_em, Classical.not_not, not_false_eq_true, not_true_eq_false, true_and, and_true, false_and, and_false, and_self, true_implies, false_implies, implies_true, Option.toList_some, Option.toList_none, List.cons_append, List.nil_append, Nat.add_eq_zero_iff, a_nl_i, a_nl_r, a_nl_n, true_or, or_true, eq_self, ok_4, ok_5, ok_6, ok_7, ok_9, ok_10, ok_20, ok_21, ok_24, ok_30, ok_48, ok_50, ok_60, ok_80, ok_120, ok_180, ok_192, ok_200, ok_900, ok_1000, ok_84000, c2]
        first
          | exact hp
          | grind
    · rw [if_neg c]
      refine ⟨⟨n3, n4'⟩, fun _ => i2, ?_⟩
      have hg2 := hnx J hC hf (fun q => c q.1)
      clear ih hP hC hf hV et ew e30 e31 hexit hst hnx
      simp only [q210_30, q210_45, q210_48, as_nil, as_i, as_r, Nat.reduceAdd, Nat.reduceLeDiff, z_eq0, z_eq1, z_or, z_em, Classical.not_not, not_false_eq_true, not_true_eq_false, true_and, and_true, false_and, and_false, and_self, true_implies, false_implies, implies_true, Option.toList_some, Option.toList_none, List.cons_append, List.nil_append, Nat.add_eq_zero_iff, a_nl_i, a_nl_r, a_nl_n, true_or, or_true, eq_self, ok_4, ok_5, ok_6, ok_7, ok_9, ok_10, ok_20, ok_21, ok_24, ok_30, ok_48, ok_50, ok_60, ok_80, ok_120, ok_180, ok_192, ok_200, ok_900, ok_1000, ok_84000]
      first
        | exact hg2
        | grind
  clear ih hP hf hV hst hnx ew e30 e31
  rw [q210_12]
  simp only [q210_14, q210_15, q210_18, q210_51, q210_53, m_0 hS, m_K hS, as_nil, as_i, as_r, Nat.reduceAdd, Nat.reduceLeDiff, z_eq0, z_eq1, z_or, z_em, Classical.not_not, not_false_eq_true, not_true_eq_false, true_and, and_true, false_and, and_false, and_self, true_implies, false_implies, implies_true, Option.toList_some, Option.toList_none, List.cons_append, List.nil_append, Nat.add_eq_zero_iff, a_nl_i, a_nl_r, a_nl_n, true_or, or_true, eq_self, ok_4, ok_5, ok_6, ok_7, ok_9, ok_10, ok_20, ok_21, ok_24, ok_30, ok_48, ok_50, ok_60, ok_80, ok_120, ok_180, ok_192, ok_200, ok_900, ok_1000, ok_84000, et]
  clear hC
  grind
end YG
end
section
/-! the class: texts that hold -/
section YH
variable {d n t C : Nat} {K L : Nat → Nat} {I I0 J J0 J1 J2 : Nat → Nat → Int32} {R : Nat → Nat → Nat} {P : Option Value → AH → Prop}
variable {Y : Nat → Nat → Int32}
/-- the class's texts are the model's -/
def txP (C : Nat) (K L : Nat → Nat) (I : Nat → Nat → Int32) (R : Nat → Nat → Nat) (Y : Nat → Nat → Int32) : Prop := I (C + 7) 3 = Y 0 41 ∧ ∀ i : Int32, 0 ≤ i → i < Y 0 41 → K (R (C + 8) i.toNatClampNeg) = 11 ∧ ¬ (R (C + 8) i.toNatClampNeg) = 0 ∧ I (R (C + 8) i.toNatClampNeg) 0 = wtY Y i.toNatClampNeg 0 ∧ I (R (C + 8) i.toNatClampNeg) 1 = Y 30 i.toNatClampNeg ∧ (∀ s : Int32, 0 ≤ s → s ≤ 199 → (s < I (R (C + 8) i.toNatClampNeg) 3 ↔ s < Y 31 i.toNatClampNeg)) ∧ ∀ fc, vs (I (R (R (C + 8) i.toNatClampNeg) 2)) fc (Int32.ofNat (L (R (R (C + 8) i.toNatClampNeg) 2))) 60 0 0 (fun _ => 0) = wvY Y i.toNatClampNeg fc
theorem dC_x (hT : cT C K L I R) (h : dC C K L R I J) {x j : Nat} (hx : K x = 11) : J x j = I x j := h.2 x j (by have := (hT.g_txt x hx).1; omega) (by have := (hT.g_txt x hx).1; omega)
theorem dC_cd (hT : cT C K L I R) (h : dC C K L R I J) {x : Nat} (hx : K x = 11) : J (R x 2) = I (R x 2) := funext (fun j => h.2 _ j (by have := (hT.g_txt x hx).2.1; omega) (by have := (hT.g_txt x hx).2.1; omega))
theorem txP_C (hT : cT C K L I R) (h : txP C K L I R Y) (h2 : dC C K L R I J) : txP C K L J R Y := by
  refine ⟨by rw [h2.2 _ _ (by omega) (by omega)]; exact h.1, fun i h0 h1 => ?_⟩
  obtain ⟨k1, k2, k3, k4, k5, k6⟩ := h.2 i h0 h1
  rw [dC_cd hT h2 k1, dC_x hT h2 k1, dC_x hT h2 k1, dC_x hT h2 k1]
  exact ⟨k1, k2, k3, k4, k5, k6⟩
theorem le_least_12 (hT0 : cT C K L I R) (hX : txP C K L I R Y) {a : Nat} (ha : K a = 1) {l b s : Int32} (hs : 0 ≤ s ∧ s ≤ 199) {fc : Nat → Int32} {V : Int32} (hP : ∀ J, dC C K L R I J → P (some (.int V)) (n, t, K, L, J, R)) : ∀ i : Int32, i ≤ 20 → ∀ J u, 0 ≤ i → i ≤ Y 0 41 → dC C K L R I J → eq9 (J (C + 9)) fc → hgY Y l s fc ((Y 0 41).toNatClampNeg - i.toNatClampNeg) i = V → a_at (d + 2) (a_xm a_m86) 12 [some (a_rf (C + 7)), some (.int l), some (a_rf a), some (.int b), some (.int s), some (.int i), u] [] (n, t, K, L, J, R) P := by
  refine up_ind 20 (fun i hk ih => ?_)
  intro J u q0 q1 hJ hf hV
  have hT := hJ.1
  have hS := hT.s
  have gX := hT.g_textsR
  have gc := hT.g_texts
  have hXJ := txP_C hT0 hX hJ
  have e41 := hXJ.1
  rw [e41] at gc
  have hexit : ¬ i < Y 0 41 → P (some (.int (-9))) (n, t, K, L, J, R) := fun w => by
    have ei : i = Y 0 41 := by
      clear ih hP hJ hf hV hXJ hX e41 hT hT0 hS gX
      grind
    have hp := hP J hJ
    rw [← hV, ← ei, Nat.sub_self] at hp
    exact hp
  have i20 : i < Y 0 41 → 0 ≤ i ∧ i < 20 := fun w => by
    clear ih hP hJ hf hV hXJ hX e41 hT hT0 hS gX hexit
    grind
  have hst : i < Y 0 41 → V = (if (wtY Y i.toNatClampNeg 0 = l ∧ Y 30 i.toNatClampNeg ≤ s ∧ s < Y 31 i.toNatClampNeg) ∧ ¬ wvY Y i.toNatClampNeg fc = 0 then i else hgY Y l s fc ((Y 0 41).toNatClampNeg - (i + 1).toNatClampNeg) (i + 1)) := fun w => by
    have i3 := cl_lt q0 w
    have i2 := i20 w
    have ei : (i + 1).toNatClampNeg = i.toNatClampNeg + 1 := cl_up q0 (by
      clear ih hP hJ hf hV hXJ hX e41 hT hT0 hS gX hexit i3
      grind)
    rw [← hV, ei, show (Y 0 41).toNatClampNeg - i.toNatClampNeg = ((Y 0 41).toNatClampNeg - (i.toNatClampNeg + 1)) + 1 by omega]
    rfl
  have hnx : i < Y 0 41 → ∀ J2 u, dC C K L R I J2 → eq9 (J2 (C + 9)) fc → ¬ ((wtY Y i.toNatClampNeg 0 = l ∧ Y 30 i.toNatClampNeg ≤ s ∧ s < Y 31 i.toNatClampNeg) ∧ ¬ wvY Y i.toNatClampNeg fc = 0) → a_at (d + 2) (a_xm a_m86) 12 [some (a_rf (C + 7)), some (.int l), some (a_rf a), some (.int b), some (.int s), some (.int (i + 1)), u] [] (n, t, K, L, J2, R) P := fun w J2 u m1 m2 q => by
    have hs := hst w
    rw [if_neg q] at hs
    have i2 := i20 w
    refine ih i2.2 J2 u ?_ ?_ m1 m2 hs.symm
    · clear ih hP hJ hf hV hXJ hX e41 hT hT0 hS gX hexit hst hs
      grind
    · clear ih hP hJ hf hV hXJ hX e41 hT hT0 hS gX hexit hst hs
      grind
  have h21 : i < Y 0 41 → a_at (d + 2) (a_xm a_m86) 21 [some (a_rf (C + 7)), some (.int l), some (a_rf a), some (.int b), some (.int s), some (.int i), u] [] (n, t, K, L, J, R) P := fun w => by
    have i2 := i20 w
    have hnx := hnx w
    have hst := hst w
    obtain ⟨k1, k2, k3, k4, k5, k6⟩ := hXJ.2 i q0 w
    have k5 := k5 s hs.1 hs.2
    have hc : 0 ≤ i ∧ i < J (C + 7) 3 ∧ i < 20 := ⟨q0, by rw [e41]; exact w, i2.2⟩
    have hv := fun Q => ck_value (d := d) (n := n) (t := t) (P := Q) k1 hT
    have n10 : ¬ (1 : Int32) = 0 := by decide
    have hcc : (J (R (C + 8) i.toNatClampNeg) 1 ≤ s ∧ s < J (R (C + 8) i.toNatClampNeg) 3) = (Y 30 i.toNatClampNeg ≤ s ∧ s < Y 31 i.toNatClampNeg) := by rw [k4, k5]
    simp only [q86_21, q86_22, q86_24, q86_27, q86_29, q86_31, q86_34, q86_36, q86_39, q86_40, k_7 hS, z_7, sp_textAt hS gX, as_nil, as_i, as_r, Nat.reduceAdd, Nat.reduceLeDiff, z_eq0, z_eq1, z_or, z_em, Classical.not_not, not_false_eq_true, not_true_eq_false, true_and, and_true, false_and, and_false, and_self, true_implies, false_implies, implies_true, Option.toList_some, Option.toList_none, List.cons_append, List.nil_append, Nat.add_eq_zero_iff, a_nl_i, a_nl_r, a_nl_n, true_or, or_true, eq_self, a_isRA_22, a_isRA_24, a_isRA_32, a_isA_20, ok_4, ok_5, ok_6, ok_7, ok_9, ok_20, ok_21, ok_30, ok_50, ok_180, ok_192, ok_200, hc, k1, k2, k3]
    try simp only [true_and, and_true, true_implies, false_implies, implies_true, not_true_eq_false, not_false_eq_true]
    by_cases c1 : wtY Y i.toNatClampNeg 0 = l
    · by_cases c2 : Y 30 i.toNatClampNeg ≤ s ∧ s < Y 31 i.toNatClampNeg
      · have h53 : a_at (d + 2) (a_xm a_m86) 53 [some (a_rf (C + 7)), some (.int l), some (a_rf a), some (.int b), some (.int s), some (.int i), some (a_rf (R (C + 8) i.toNatClampNeg))] [] (n, t, K, L, J, R) P := by
          simp only [q86_53, q86_55, q86_56, q86_59, q86_60, q86_63, k_7 hS, z_7, r_7_1 hS, k_9 hS, l_9 hS, z_9, r_7_2 hS, k_10 hS, l_10 hS, z_10, as_nil, as_i, as_r, Nat.reduceAdd, Nat.reduceLeDiff, z_eq0, z_eq1, z_or, z_em, Classical.not_not, not_false_eq_true, not_true_eq_false, true_and, and_true, false_and, and_false, and_self, true_implies, false_implies, implies_true, Option.toList_some, Option.toList_none, List.cons_append, List.nil_append, Nat.add_eq_zero_iff, a_nl_i, a_nl_r, a_nl_n, true_or, or_true, eq_self, a_isRA_22, a_isRA_24, a_isRA_32, a_isA_20, ok_4, ok_5, ok_6, ok_7, ok_9, ok_20, ok_21, ok_30, ok_50, ok_180, ok_192, ok_200, k1, k2]
          try simp only [true_and, and_true, true_implies, false_implies, implies_true, not_true_eq_false, not_false_eq_true]
          refine ck_value k1 hT (fun J2 m1 m2 => ?_)
          rw [k6, show wvY Y i.toNatClampNeg (J (C + 9)) = wvY Y i.toNatClampNeg fc from xT_q _ _ hf]
          show a_at (d + 2) (a_xm a_m86) 66 [some (a_rf (C + 7)), some (.int l), some (a_rf a), some (.int b), some (.int s), some (.int i), some (a_rf (R (C + 8) i.toNatClampNeg))] [.int (wvY Y i.toNatClampNeg fc)] (n, t, K, L, J2, R) P
          by_cases c3 : wvY Y i.toNatClampNeg fc = 0
          · have hg := hnx J2 (some (a_rf (R (C + 8) i.toNatClampNeg))) (dC_C hJ m1) (by rw [m2]; exact hf) (fun q => q.2 c3)
            clear ih hP hJ hf hV hXJ hX e41 hT hT0 hS gX hexit hst hnx hv hcc
            simp only [q86_66, q86_72, q86_75, as_nil, as_i, as_r, Nat.reduceAdd, Nat.reduceLeDiff, z_eq0, z_eq1, z_or, z_em, Classical.not_not, not_false_eq_true, not_true_eq_false, true_and, and_true, false_and, and_false, and_self, true_implies, false_implies, implies_true, Option.toList_some, Option.toList_none, List.cons_append, List.nil_append, Nat.add_eq_zero_iff, a_nl_i, a_nl_r, a_nl_n, true_or, or_true, eq_self, a_isRA_22, a_isRA_24, a_isRA_32, a_isA_20, ok_4, ok_5, ok_6, ok_7, ok_9, ok_20, ok_21, ok_30, ok_50, ok_180, ok_192, ok_200, c3]
            first
              | exact hg
              | grind
          · rw [if_pos ⟨⟨c1, c2⟩, c3⟩] at hst
            have hp := hP J2 (dC_C hJ m1)
            rw [hst] at hp
            clear ih hP hJ hf hV hXJ hX e41 hT hT0 hS gX hexit hst hnx hv hcc
            simp only [q86_66, q86_69, q86_71, as_nil, as_i, as_r, Nat.reduceAdd, Nat.reduceLeDiff, z_eq0, z_eq1, z_or, z_em, Classical.not_not, not_false_eq_true, not_true_eq_false, true_and, and_true, false_and, and_false, and_self, true_implies, false_implies, implies_true, Option.toList_some, Option.toList_none, List.cons_append, List.nil_append, Nat.add_eq_zero_iff, a_nl_i, a_nl_r, a_nl_n, true_or, or_true, eq_self, a_isRA_22, a_isRA_24, a_isRA_32, a_isA_20, ok_4, ok_5, ok_6, ok_7, ok_9, ok_20, ok_21, ok_30, ok_50, ok_180, ok_192, ok_200, c3]
            first
              | exact hp
              | grind
        clear ih hP hJ hf hV hXJ hX e41 hT0 gX hexit hst hnx hv
        simp only [q86_43, q86_45, q86_47, q86_50, k_7 hS, z_7, sp_inForce, as_nil, as_i, as_r, Nat.reduceAdd, Nat.reduceLeDiff, z_eq0, z_eq1, z_or, z_em, Classical.not_not, not_false_eq_true, not_true_eq_false, true_and, and_true, false_and, and_false, and_self, true_implies, false_implies, implies_true, Option.toList_some, Option.toList_none, List.cons_append, List.nil_append, Nat.add_eq_zero_iff, a_nl_i, a_nl_r, a_nl_n, true_or, or_true, eq_self, a_isRA_22, a_isRA_24, a_isRA_32, a_isA_20, ok_4, ok_5, ok_6, ok_7, ok_9, ok_20, ok_21, ok_30, ok_50, ok_180, ok_192, ok_200, hcc, c1, c2, k1, k2, n10, if_true]
        first
          | exact h53
          | grind
      · have hg := hnx J (some (a_rf (R (C + 8) i.toNatClampNeg))) hJ hf (fun q => c2 q.1.2)
        clear ih hP hJ hf hV hXJ hX e41 hT0 gX hexit hst hnx hv
        simp only [q86_43, q86_45, q86_47, q86_50, q86_72, q86_75, k_7 hS, z_7, sp_inForce, as_nil, as_i, as_r, Nat.reduceAdd, Nat.reduceLeDiff, z_eq0, z_eq1, z_or, z_em, Classical.not_not, not_false_eq_true, not_true_eq_false, true_and, and_true, false_and, and_false, and_self, true_implies, false_implies, implies_true, Option.toList_some, Option.toList_none, List.cons_append, List.nil_append, Nat.add_eq_zero_iff, a_nl_i, a_nl_r, a_nl_n, true_or, or_true, eq_self, a_isRA_22, a_isRA_24, a_isRA_32, a_isA_20, ok_4, ok_5, ok_6, ok_7, ok_9, ok_20, ok_21, ok_30, ok_50, ok_180, ok_192, ok_200, hcc, c1, c2, k1, k2, n10, if_false]
        first
          | exact hg
          | grind
    · have hg := hnx J (some (a_rf (R (C + 8) i.toNatClampNeg))) hJ hf (fun q => c1 q.1.1)
      clear ih hP hJ hf hV hXJ hX e41 hT0 gX hexit hst hnx hv
      simp only [q86_72, q86_75, as_nil, as_i, as_r, Nat.reduceAdd, Nat.reduceLeDiff, z_eq0, z_eq1, z_or, z_em, Classical.not_not, not_false_eq_true, not_true_eq_false, true_and, and_true, false_and, and_false, and_self, true_implies, false_implies, implies_true, Option.toList_some, Option.toList_none, List.cons_append, List.nil_append, Nat.add_eq_zero_iff, a_nl_i, a_nl_r, a_nl_n, true_or, or_true, eq_self, a_isRA_22, a_isRA_24, a_isRA_32, a_isA_20, ok_4, ok_5, ok_6, ok_7, ok_9, ok_20, ok_21, ok_30, ok_50, ok_180, ok_192, ok_200, c1]
      first
        | exact hg
        | grind
  clear ih hP hJ hf hV hst hnx hXJ hX hT0
  rw [q86_12]
  simp only [q86_14, q86_15, q86_18, q86_78, q86_80, k_7 hS, z_7, as_nil, as_i, as_r, Nat.reduceAdd, Nat.reduceLeDiff, z_eq0, z_eq1, z_or, z_em, Classical.not_not, not_false_eq_true, not_true_eq_false, true_and, and_true, false_and, and_false, and_self, true_implies, false_implies, implies_true, Option.toList_some, Option.toList_none, List.cons_append, List.nil_append, Nat.add_eq_zero_iff, a_nl_i, a_nl_r, a_nl_n, true_or, or_true, eq_self, a_isRA_22, a_isRA_24, a_isRA_32, a_isA_20, ok_4, ok_5, ok_6, ok_7, ok_9, ok_20, ok_21, ok_30, ok_50, ok_180, ok_192, ok_200, e41]
  clear hT hS gX e41
  grind
theorem ce_least (hT : cT C K L I R) (hX : txP C K L I R Y) {a : Nat} (ha : K a = 1) {l b s : Int32} (hs : 0 ≤ s ∧ s ≤ 199) {fc : Nat → Int32} (hf : eq9 (lq I a b s 0) fc) (hP : ∀ J, dC C K L R I J → P (some (.int (hgY Y l s fc (Y 0 41).toNatClampNeg 0))) (n, t, K, L, J, R)) : a_does (d + 3) 86 [a_rf (C + 7), .int l, a_rf a, .int b, .int s] (n, t, K, L, I, R) P := by
  have hS := hT.s
  obtain ⟨a1, a2, a4, a3⟩ := hT.g_ask a ha
  have a0 : (a = 0) = False := eq_false (by omega)
  have gc := hT.g_texts
  rw [hX.1] at gc
  rw [a_enter1 (M := a_m86) rfl (a_cat_rf (a_cat_int (a_cat_rf (a_cat_int (a_cat_int a_cat_nil))))) (show 5 ≤ 7 by decide)]
  show a_at _ (a_xm a_m86) 0 [some (a_rf (C + 7)), some (.int l), some (a_rf a), some (.int b), some (.int s), none, none] [] _ _
  simp only [q86_0, q86_1, q86_2, q86_3, q86_5, q86_6, k_7 hS, z_7, as_nil, as_i, as_r, Nat.reduceAdd, Nat.reduceLeDiff, z_eq0, z_eq1, z_or, z_em, Classical.not_not, not_false_eq_true, not_true_eq_false, true_and, and_true, false_and, and_false, and_self, true_implies, false_implies, implies_true, Option.toList_some, Option.toList_none, List.cons_append, List.nil_append, Nat.add_eq_zero_iff, a_nl_i, a_nl_r, a_nl_n, true_or, or_true, eq_self, a_isRA_22, a_isRA_24, a_isRA_32, a_isA_20, ok_4, ok_5, ok_6, ok_7, ok_9, ok_20, ok_21, ok_30, ok_50, ok_180, ok_192, ok_200, ha, a0]
  try simp only [true_and, and_true, true_implies, false_implies, implies_true, not_true_eq_false, not_false_eq_true]
  refine ck_learn ha hT (fun J m1 m2 => ?_)
  have hl := le_least_12 (d := d) (n := n) (t := t) (P := P) hT hX ha (l := l) (b := b) (s := s) hs (fc := fc) hP 0 (by decide) J none (by decide) gc.1 m1 (fun j hj => by rw [m2 j hj, hf j hj]) (by rw [show (0 : Int32).toNatClampNeg = 0 from rfl, Nat.sub_zero])
  clear hP hX hT hf m1 m2
  simp only [q86_9, q86_10, as_nil, as_i, as_r, Nat.reduceAdd, Nat.reduceLeDiff, z_eq0, z_eq1, z_or, z_em, Classical.not_not, not_false_eq_true, not_true_eq_false, true_and, and_true, false_and, and_false, and_self, true_implies, false_implies, implies_true, Option.toList_some, Option.toList_none, List.cons_append, List.nil_append, Nat.add_eq_zero_iff, a_nl_i, a_nl_r, a_nl_n, true_or, or_true, eq_self, a_isRA_22, a_isRA_24, a_isRA_32, a_isA_20, ok_4, ok_5, ok_6, ok_7, ok_9, ok_20, ok_21, ok_30, ok_50, ok_180, ok_192, ok_200]
  exact hl
end YH
end
section
/-! the reference: facts, what holds at a place -/
section YI
variable {d n t M : Nat} {K L : Nat → Nat} {I I0 J J0 J1 J2 : Nat → Nat → Int32} {R : Nat → Nat → Nat} {P : Option Value → AH → Prop} {f : Nat → Int32} {e : Int32}
theorem cmY_eq {Y Y2 : Nat → Nat → Int32} (h1 : ∀ k, Y2 38 k = Y 38 k) (h2 : ∀ k, Y2 36 k = Y 36 k) : cmY Y2 = cmY Y := by
  funext r a
  unfold cmY
  rw [h1, h2]
theorem mkP_C (h : mkP (yv M I0)) (hC : mC M I0 I) : mkP (yv M I) := fun k q => by
  have e1 : yv M I 38 k = (yv M I0) 38 k := hC.2 _ _ (by unfold sC; omega)
  have e2 : yv M I 36 k = (yv M I0) 36 k := hC.2 _ _ (by unfold sC; omega)
  rw [e2]
  rw [e1] at q
  exact h k q
theorem cmY_C (hC : mC M I0 I) : cmY (yv M I) = cmY (yv M I0) := cmY_eq (fun k => hC.2 _ _ (by unfold sC; omega)) (fun k => hC.2 _ _ (by unfold sC; omega))
theorem hsY_C (hC : mC M I0 I) : hsY (yv M I) = hsY (yv M I0) := by
  have e1 : yv M I 0 11 = (yv M I0) 0 11 := hC.2 _ _ (by unfold sC; omega)
  have e2 : yv M I 0 17 = (yv M I0) 0 17 := hC.2 _ _ (by unfold sC; omega)
  funext r
  unfold hsY
  rw [e1, e2, cmY_C hC]
theorem xt_markForC (hS : m_S M K L R) (hC : mC M I0 I) (hm : mkP (yv M I0)) {a : Int32} (ha : 0 ≤ a ∧ a < 30) (hP : P (some (.int (mkY (cmY (yv M I0)) (hsY (yv M I0)) a))) (n, t, K, L, I, R)) : a_does (d + 2) 193 [a_rf M, .int a] (n, t, K, L, I, R) P := by
  refine xt_markFor hS hC.1 (mkP_C hm hC) ha ?_
  rw [cmY_C hC, hsY_C hC]
  exact hP
theorem xt_findFacts (hS : m_S M K L R) (hC : mC M I0 I) (hm : mkP (yv M I0)) {a b s l : Int32} (ha : 0 ≤ a ∧ a < 30) (hP : ∀ J, mC M I0 J → eq9 (J (M + 32)) (fcY (yv M I0) a.toNatClampNeg (mkY (cmY (yv M I0)) (hsY (yv M I0)) a) b s l) → P none (n, t, K, L, J, R)) : a_does (d + 3) 192 [a_rf M, .int a, .int b, .int s, .int l] (n, t, K, L, I, R) P := by
  have e7 : I (M + 7) a.toNatClampNeg = (yv M I0) 7 a.toNatClampNeg := hC.2 _ _ (by unfold sC; omega)
  have e8 : I (M + 8) a.toNatClampNeg = (yv M I0) 8 a.toNatClampNeg := hC.2 _ _ (by unfold sC; omega)
  have e9 : I (M + 9) a.toNatClampNeg = (yv M I0) 9 a.toNatClampNeg := hC.2 _ _ (by unfold sC; omega)
  have e10 : I (M + 10) a.toNatClampNeg = (yv M I0) 10 a.toNatClampNeg := hC.2 _ _ (by unfold sC; omega)
  have e15 : I (M + 15) a.toNatClampNeg = (yv M I0) 15 a.toNatClampNeg := hC.2 _ _ (by unfold sC; omega)
  have hfin : ∀ v, v = (if (mkY (cmY (yv M I0)) (hsY (yv M I0)) a) < 0 then 0 else (mkY (cmY (yv M I0)) (hsY (yv M I0)) a)) → P none (n, t, K, L, (a_ui (a_ui (a_ui (a_ui (a_ui (a_ui (a_ui (a_ui (a_ui I (M + 32) 0 (I (M + 7) a.toNatClampNeg)) (M + 32) 1 (I (M + 8) a.toNatClampNeg)) (M + 32) 2 (I (M + 9) a.toNatClampNeg)) (M + 32) 3 (I (M + 10) a.toNatClampNeg)) (M + 32) 4 (I (M + 15) a.toNatClampNeg)) (M + 32) 5 v) (M + 32) 6 s) (M + 32) 7 b) (M + 32) 8 l), R) := fun v hv => by
    refine hP _ (sC_facts (sC_facts (sC_facts (sC_facts (sC_facts (sC_facts (sC_facts (sC_facts (sC_facts hC))))))))) (fun j hj => ?_)
    rw [e7, e8, e9, e10, e15, hv]
    have hc : j = 0 ∨ j = 1 ∨ j = 2 ∨ j = 3 ∨ j = 4 ∨ j = 5 ∨ j = 6 ∨ j = 7 ∨ j = 8 := by omega
    clear hP hv hm e7 e8 e9 e10 e15
    rcases hc with rfl | rfl | rfl | rfl | rfl | rfl | rfl | rfl | rfl <;> simp only [ui_ap, fcY] <;> simp
  have hC5 : mC M I0 (a_ui (a_ui (a_ui (a_ui (a_ui I (M + 32) 0 (I (M + 7) a.toNatClampNeg)) (M + 32) 1 (I (M + 8) a.toNatClampNeg)) (M + 32) 2 (I (M + 9) a.toNatClampNeg)) (M + 32) 3 (I (M + 10) a.toNatClampNeg)) (M + 32) 4 (I (M + 15) a.toNatClampNeg)) := sC_facts (sC_facts (sC_facts (sC_facts (sC_facts hC))))
  clear hP e7 e8 e9 e10 e15
  rw [a_enter1 (M := a_m192) rfl (a_cat_rf (a_cat_int (a_cat_int (a_cat_int (a_cat_int a_cat_nil))))) (show 5 ≤ 5 by decide)]
  show a_at _ (a_xm a_m192) 0 [some (a_rf M), some (.int a), some (.int b), some (.int s), some (.int l)] [] _ _
  simp only [q192_0, q192_1, q192_4, q192_5, q192_6, q192_9, q192_10, q192_11, q192_12, q192_13, q192_16, q192_17, q192_18, q192_21, q192_22, q192_23, q192_24, q192_25, q192_28, q192_29, q192_30, q192_33, q192_34, q192_35, q192_36, q192_37, q192_40, q192_41, q192_42, q192_45, q192_46, q192_47, q192_48, q192_49, q192_52, q192_53, q192_54, q192_57, q192_58, q192_59, q192_60, q192_61, q192_64, q192_65, q192_66, q192_67, m_0 hS, m_K hS, mR_facts hS, mK_facts hS, mL_facts hS, mR_kind hS, mK_kind hS, mL_kind hS, mR_group hS, mK_group hS, mL_group hS, mR_land hS, mK_land hS, mL_land hS, mR_length hS, mK_length hS, mL_length hS, mR_danger hS, mK_danger hS, mL_danger hS, as_nil, as_i, as_r, Nat.reduceAdd, Nat.reduceLeDiff, z_eq0, z_eq1, z_or, z_em, Classical.not_not, not_false_eq_true, not_true_eq_false, true_and, and_true, false_and, and_false, and_self, true_implies, false_implies, implies_true, Option.toList_some, Option.toList_none, List.cons_append, List.nil_append, Nat.add_eq_zero_iff, a_nl_i, a_nl_r, a_nl_n, true_or, or_true, eq_self, ok_4, ok_5, ok_6, ok_7, ok_9, ok_10, ok_20, ok_21, ok_24, ok_30, ok_48, ok_50, ok_60, ok_80, ok_120, ok_180, ok_192, ok_200, ok_900, ok_1000, ok_84000, ui_ap, ne_MM, ne_M0, ne_0M, Nat.reduceEqDiff, reduceIte, if_true, if_false, ha, cn_0, cn_1, cn_2, cn_3, cn_4]
  try simp only [true_and, and_true, true_implies, false_implies, implies_true, not_true_eq_false, not_false_eq_true]
  refine ⟨by decide, by decide, by decide, by decide, by decide, ?_⟩
  refine xt_markForC (d := d) hS hC5 hm ha ?_
  by_cases c : (mkY (cmY (yv M I0)) (hsY (yv M I0)) a) < 0
  · have hf := hfin 0 (by rw [if_pos c])
    have c' := Int32.not_le.mpr c
    clear hfin hC5 hm
    simp only [q192_70, q192_73, q192_74, q192_82, q192_83, q192_84, q192_87, q192_89, q192_90, q192_91, q192_92, q192_95, q192_97, q192_98, q192_99, q192_100, q192_103, q192_105, q192_107, q192_108, m_0 hS, m_K hS, mR_facts hS, mK_facts hS, mL_facts hS, as_nil, as_i, as_r, Nat.reduceAdd, Nat.reduceLeDiff, z_eq0, z_eq1, z_or, z_em, Classical.not_not, not_false_eq_true, not_true_eq_false, true_and, and_true, false_and, and_false, and_self, true_implies, false_implies, implies_true, Option.toList_some, Option.toList_none, List.cons_append, List.nil_append, Nat.add_eq_zero_iff, a_nl_i, a_nl_r, a_nl_n, true_or, or_true, eq_self, ok_4, ok_5, ok_6, ok_7, ok_9, ok_10, ok_20, ok_21, ok_24, ok_30, ok_48, ok_50, ok_60, ok_80, ok_120, ok_180, ok_192, ok_200, ok_900, ok_1000, ok_84000, ui_ap, ne_MM, ne_M0, ne_0M, Nat.reduceEqDiff, reduceIte, if_true, if_false, c, c', cn_5, cn_6, cn_7, cn_8]
    first
      | exact hf
      | exact ⟨by decide, by decide, by decide, by decide, hf⟩
      | grind
  · have hf := hfin (mkY (cmY (yv M I0)) (hsY (yv M I0)) a) (by rw [if_neg c])
    have c' := Int32.not_lt.mp c
    clear hfin
    simp only [q192_70, q192_77, q192_78, q192_79, m_0 hS, m_K hS, as_nil, as_i, as_r, Nat.reduceAdd, Nat.reduceLeDiff, z_eq0, z_eq1, z_or, z_em, Classical.not_not, not_false_eq_true, not_true_eq_false, true_and, and_true, false_and, and_false, and_self, true_implies, false_implies, implies_true, Option.toList_some, Option.toList_none, List.cons_append, List.nil_append, Nat.add_eq_zero_iff, a_nl_i, a_nl_r, a_nl_n, true_or, or_true, eq_self, ok_4, ok_5, ok_6, ok_7, ok_9, ok_10, ok_20, ok_21, ok_24, ok_30, ok_48, ok_50, ok_60, ok_80, ok_120, ok_180, ok_192, ok_200, ok_900, ok_1000, ok_84000, ui_ap, ne_MM, ne_M0, ne_0M, Nat.reduceEqDiff, reduceIte, if_true, if_false, c, c']
    try simp only [true_and, and_true, true_implies, false_implies, implies_true, not_true_eq_false, not_false_eq_true]
    refine xt_markForC (d := d) hS hC5 hm ha ?_
    clear hC5 hm
    simp only [q192_82, q192_83, q192_84, q192_87, q192_89, q192_90, q192_91, q192_92, q192_95, q192_97, q192_98, q192_99, q192_100, q192_103, q192_105, q192_107, q192_108, m_0 hS, m_K hS, mR_facts hS, mK_facts hS, mL_facts hS, as_nil, as_i, as_r, Nat.reduceAdd, Nat.reduceLeDiff, z_eq0, z_eq1, z_or, z_em, Classical.not_not, not_false_eq_true, not_true_eq_false, true_and, and_true, false_and, and_false, and_self, true_implies, false_implies, implies_true, Option.toList_some, Option.toList_none, List.cons_append, List.nil_append, Nat.add_eq_zero_iff, a_nl_i, a_nl_r, a_nl_n, true_or, or_true, eq_self, ok_4, ok_5, ok_6, ok_7, ok_9, ok_10, ok_20, ok_21, ok_24, ok_30, ok_48, ok_50, ok_60, ok_80, ok_120, ok_180, ok_192, ok_200, ok_900, ok_1000, ok_84000, ui_ap, ne_MM, ne_M0, ne_0M, Nat.reduceEqDiff, reduceIte, if_true, if_false, cn_5, cn_6, cn_7, cn_8]
    first
      | exact hf
      | exact ⟨by decide, by decide, by decide, by decide, hf⟩
      | grind
theorem xt_holding (hS : m_S M K L R) (hC : mC M I0 I) (hm : mkP (yv M I0)) (hts : tsY (yv M I0)) {g a b s : Int32} (hg : ¬ g = 79) (ha : 0 ≤ a ∧ a < 30) (hP : ∀ J, mC M I0 J → P (some (.int (hgY (yv M I0) g s (fcY (yv M I0) a.toNatClampNeg (mkY (cmY (yv M I0)) (hsY (yv M I0)) a) b s 0) ((yv M I0) 0 41).toNatClampNeg 0))) (n, t, K, L, J, R)) : a_does (d + 7) 210 [a_rf M, .int g, .int a, .int b, .int s] (n, t, K, L, I, R) P := by
  have gt := rg_texts hC.1
  have et : I M 41 = (yv M I0) 0 41 := hC.2 _ _ (by unfold sC; omega)
  rw [et] at gt
  rw [a_enter1 (M := a_m210) rfl (a_cat_rf (a_cat_int (a_cat_int (a_cat_int (a_cat_int a_cat_nil))))) (show 5 ≤ 6 by decide)]
  show a_at _ (a_xm a_m210) 0 [some (a_rf M), some (.int g), some (.int a), some (.int b), some (.int s), none] [] _ _
  simp only [q210_0, q210_1, q210_2, q210_3, q210_5, q210_6, m_0 hS, m_K hS, as_nil, as_i, as_r, Nat.reduceAdd, Nat.reduceLeDiff, z_eq0, z_eq1, z_or, z_em, Classical.not_not, not_false_eq_true, not_true_eq_false, true_and, and_true, false_and, and_false, and_self, true_implies, false_implies, implies_true, Option.toList_some, Option.toList_none, List.cons_append, List.nil_append, Nat.add_eq_zero_iff, a_nl_i, a_nl_r, a_nl_n, true_or, or_true, eq_self, ok_4, ok_5, ok_6, ok_7, ok_9, ok_10, ok_20, ok_21, ok_24, ok_30, ok_48, ok_50, ok_60, ok_80, ok_120, ok_180, ok_192, ok_200, ok_900, ok_1000, ok_84000]
  refine xt_findFacts (d := d + 3) hS hC hm ha (fun J m1 m2 => ?_)
  have hv : hgY (yv M I0) g s (J (M + 32)) ((yv M I0) 0 41).toNatClampNeg 0 = hgY (yv M I0) g s (fcY (yv M I0) a.toNatClampNeg (mkY (cmY (yv M I0)) (hsY (yv M I0)) a) b s 0) ((yv M I0) 0 41).toNatClampNeg 0 := hgY_q m2 _ _
  have hl := xt_holding_12 (d := d) (n := n) (t := t) (P := P) (g := g) (a := a) (b := b) (s := s) hS hts hg (fc := J (M + 32)) (fun J2 q _ => hP J2 q) 0 (by decide) J (by decide) gt.1 m1 (fun _ => rfl) (by rw [show (0 : Int32).toNatClampNeg = 0 from rfl, Nat.sub_zero, hv])
  clear hP m1 m2 hv hts hm
  simp only [q210_9, q210_10, as_nil, as_i, as_r, Nat.reduceAdd, Nat.reduceLeDiff, z_eq0, z_eq1, z_or, z_em, Classical.not_not, not_false_eq_true, not_true_eq_false, true_and, and_true, false_and, and_false, and_self, true_implies, false_implies, implies_true, Option.toList_some, Option.toList_none, List.cons_append, List.nil_append, Nat.add_eq_zero_iff, a_nl_i, a_nl_r, a_nl_n, true_or, or_true, eq_self, ok_4, ok_5, ok_6, ok_7, ok_9, ok_10, ok_20, ok_21, ok_24, ok_30, ok_48, ok_50, ok_60, ok_80, ok_120, ok_180, ok_192, ok_200, ok_900, ok_1000, ok_84000]
  exact hl
end YI
end
section
/-! the reference: free hosts -/
/-- who is busy near a SHIFT, of one ASK, of all but one -/
def fbI (Y : Nat → Nat → Int32) (s o : Int32) : Nat → Int32 → Int32 → Int32
  | 0, _, p => p
  | k + 1, i, p => fbI Y s o k (i + 1) (p ||| (if Y 21 o.toNatClampNeg + i - s ≤ Y 0 9 ∧ -(Y 0 9) ≤ Y 21 o.toNatClampNeg + i - s then Y 22 (4 * o + i).toNatClampNeg else 0))
def fbO (Y : Nat → Nat → Int32) (a s : Int32) : Nat → Int32 → Int32 → Int32
  | 0, _, p => p
  | k + 1, o, p => fbO Y a s k (o + 1) (if 0 ≤ Y 20 o.toNatClampNeg ∧ ¬ o = a then fbI Y s o (Y 10 o.toNatClampNeg).toNatClampNeg 0 p else p)
/-- FREE hosts -/
def fhY (Y : Nat → Nat → Int32) (a b s : Int32) : Int32 := Y 6 b.toNatClampNeg &&& (fbO Y a s (Y 0 17).toNatClampNeg 0 0 ^^^ -1)
section YJ
variable {d n t M : Nat} {K L : Nat → Nat} {I I0 J J0 J1 J2 : Nat → Nat → Int32} {R : Nat → Nat → Nat} {P : Option Value → AH → Prop} {f : Nat → Int32} {e : Int32}
theorem n4 {o i : Int32} (h0 : 0 ≤ o ∧ o < 30) (h1 : 0 ≤ i ∧ i < 4) : (4 * o + i).toNatClampNeg = 4 * o.toNatClampNeg + i.toNatClampNeg ∧ 0 ≤ 4 * o + i ∧ 4 * o + i < 120 := by
  have a1 := Int32.le_iff_toInt_le.mp h0.1
  have a2 := Int32.lt_iff_toInt_lt.mp h0.2
  have b1 := Int32.le_iff_toInt_le.mp h1.1
  have b2 := Int32.lt_iff_toInt_lt.mp h1.2
  have w0 : (0 : Int32).toInt = 0 := rfl
  have w30 : (30 : Int32).toInt = 30 := rfl
  have w4 : (4 : Int32).toInt = 4 := rfl
  have w120 : (120 : Int32).toInt = 120 := rfl
  rw [w0] at a1 b1
  rw [w30] at a2
  rw [w4] at b2
  have t1 : (4 * o).toInt = 4 * o.toInt := by
    rw [Int32.toInt_mul, w4, in_bm (by omega) (by omega)]
  have t2 : (4 * o + i).toInt = 4 * o.toInt + i.toInt := by
    rw [Int32.toInt_add, t1, in_bm (by omega) (by omega)]
  refine ⟨?_, ?_, ?_⟩
  · show (4 * o + i).toInt.toNat = 4 * o.toInt.toNat + i.toInt.toNat
    rw [t2]
    omega
  · rw [Int32.le_iff_toInt_le, t2, w0]
    omega
  · rw [Int32.lt_iff_toInt_lt, t2, w120]
    omega
theorem xt_freeHosts_18 (hS : m_S M K L R) (hR : mR M I) {a b s o : Int32} (ho : 0 ≤ o ∧ o < 30) (hp : 0 ≤ I (M + 20) o.toNatClampNeg ∧ ¬ o = a) {V : Int32} (hC : ∀ i w, a_at (d + 1) (a_xm a_m225) 105 [some (a_rf M), some (.int a), some (.int b), some (.int s), some (.int V), some (.int o), some (.int i), w] [] (n, t, K, L, I, R) P) : ∀ i : Int32, i ≤ 4 → ∀ y w, 0 ≤ i → i ≤ I (M + 10) o.toNatClampNeg → fbI (yv M I) s o ((I (M + 10) o.toNatClampNeg).toNatClampNeg - i.toNatClampNeg) i y = V → a_at (d + 1) (a_xm a_m225) 18 [some (a_rf M), some (.int a), some (.int b), some (.int s), some (.int y), some (.int o), some (.int i), w] [] (n, t, K, L, I, R) P := by
  refine up_ind 4 (fun i hi ih => ?_)
  intro y w h0 h1 hV
  have gl := rg_length hR o.toNatClampNeg
  have hexit : ¬ i < I (M + 10) o.toNatClampNeg → a_at (d + 1) (a_xm a_m225) 105 [some (a_rf M), some (.int a), some (.int b), some (.int s), some (.int y), some (.int o), some (.int i), w] [] (n, t, K, L, I, R) P := fun q => by
    have ei : i = I (M + 10) o.toNatClampNeg := by
      clear ih hC hV
      grind
    have hc := hC i w
    rw [← ei, Nat.sub_self] at hV
    rw [← hV] at hc
    exact hc
  have hgo : i < I (M + 10) o.toNatClampNeg → ∀ z w, z = (y ||| (if I (M + 21) o.toNatClampNeg + i - s ≤ I M 9 ∧ -(I M 9) ≤ I (M + 21) o.toNatClampNeg + i - s then I (M + 22) (4 * o + i).toNatClampNeg else 0)) → a_at (d + 1) (a_xm a_m225) 18 [some (a_rf M), some (.int a), some (.int b), some (.int s), some (.int z), some (.int o), some (.int (i + 1)), w] [] (n, t, K, L, I, R) P := fun q z w hz => by
    have i3 := cl_lt h0 q
    have i4 : i < 4 := Int32.lt_of_lt_of_le q gl.2
    have ei : (i + 1).toNatClampNeg = i.toNatClampNeg + 1 := cl_up h0 (by clear ih hC hV hexit hz; grind)
    refine ih i4 z w (by clear ih hC hV hexit hz; grind) (by clear ih hC hV hexit hz; grind) ?_
    rw [← hV, ei, show (I (M + 10) o.toNatClampNeg).toNatClampNeg - i.toNatClampNeg = ((I (M + 10) o.toNatClampNeg).toNatClampNeg - (i.toNatClampNeg + 1)) + 1 by omega, hz]
    rfl
  have h45 : i < I (M + 10) o.toNatClampNeg → a_at (d + 1) (a_xm a_m225) 45 [some (a_rf M), some (.int a), some (.int b), some (.int s), some (.int y), some (.int o), some (.int i), w] [] (n, t, K, L, I, R) P := fun q => by
    have hgo := fun z => hgo q z (some (.int (I (M + 21) o.toNatClampNeg + i - s)))
    have hk : 0 ≤ 4 * o + i ∧ 4 * o + i < 120 := (n4 ho ⟨h0, Int32.lt_of_lt_of_le q gl.2⟩).2
    clear ih hC hV hexit
    by_cases c1 : I (M + 21) o.toNatClampNeg + i - s ≤ I M 9
    · by_cases c2 : -(I M 9) ≤ I (M + 21) o.toNatClampNeg + i - s
      · have hg := hgo _ (by rw [if_pos ⟨c1, c2⟩])
        clear hgo
        repeat' first
          | with_reducible apply And.intro
          | with_reducible assumption
          | with_reducible intro _
          | exact hg
          | simp only [q225_45, q225_46, q225_49, q225_51, q225_52, q225_54, q225_55, q225_56, q225_57, q225_59, q225_61, q225_63, q225_64, q225_67, q225_70, q225_72, q225_73, q225_76, q225_77, q225_80, q225_81, q225_84, q225_85, q225_87, q225_88, q225_90, q225_91, q225_92, q225_95, q225_96, q225_97, q225_99, q225_102, m_0 hS, m_K hS, mR_atShift hS, mK_atShift hS, mL_atShift hS, mR_standing hS, mK_standing hS, mL_standing hS, as_nil, as_i, as_r, Nat.reduceAdd, Nat.reduceLeDiff, z_eq0, z_eq1, z_or, z_em, Classical.not_not, not_false_eq_true, not_true_eq_false, true_and, and_true, false_and, and_false, and_self, true_implies, false_implies, implies_true, Option.toList_some, Option.toList_none, List.cons_append, List.nil_append, Nat.add_eq_zero_iff, a_nl_i, a_nl_r, a_nl_n, true_or, or_true, eq_self, ok_4, ok_5, ok_6, ok_7, ok_9, ok_10, ok_20, ok_21, ok_24, ok_30, ok_48, ok_50, ok_60, ok_80, ok_120, ok_180, ok_192, ok_200, ok_900, ok_1000, ok_84000, c1, c2]
        all_goals ((try clear hg); grind [ui_ap])
      · have hg := hgo _ (by rw [if_neg (fun z => c2 z.2)])
        clear hgo
        repeat' first
          | with_reducible apply And.intro
          | with_reducible assumption
          | with_reducible intro _
          | exact hg
          | simp only [q225_45, q225_46, q225_49, q225_51, q225_52, q225_54, q225_55, q225_56, q225_57, q225_59, q225_61, q225_63, q225_64, q225_67, q225_70, q225_72, q225_73, q225_76, q225_77, q225_80, q225_81, q225_84, q225_85, q225_87, q225_88, q225_90, q225_91, q225_92, q225_95, q225_96, q225_97, q225_99, q225_102, m_0 hS, m_K hS, mR_atShift hS, mK_atShift hS, mL_atShift hS, mR_standing hS, mK_standing hS, mL_standing hS, as_nil, as_i, as_r, Nat.reduceAdd, Nat.reduceLeDiff, z_eq0, z_eq1, z_or, z_em, Classical.not_not, not_false_eq_true, not_true_eq_false, true_and, and_true, false_and, and_false, and_self, true_implies, false_implies, implies_true, Option.toList_some, Option.toList_none, List.cons_append, List.nil_append, Nat.add_eq_zero_iff, a_nl_i, a_nl_r, a_nl_n, true_or, or_true, eq_self, ok_4, ok_5, ok_6, ok_7, ok_9, ok_10, ok_20, ok_21, ok_24, ok_30, ok_48, ok_50, ok_60, ok_80, ok_120, ok_180, ok_192, ok_200, ok_900, ok_1000, ok_84000, c1, c2]
        all_goals ((try clear hg); grind [ui_ap])
    · have hg := hgo _ (by rw [if_neg (fun z => c1 z.1)])
      clear hgo
      repeat' first
        | with_reducible apply And.intro
        | with_reducible assumption
        | with_reducible intro _
        | exact hg
        | simp only [q225_45, q225_46, q225_49, q225_51, q225_52, q225_54, q225_55, q225_56, q225_57, q225_59, q225_61, q225_63, q225_64, q225_67, q225_70, q225_72, q225_73, q225_76, q225_77, q225_80, q225_81, q225_84, q225_85, q225_87, q225_88, q225_90, q225_91, q225_92, q225_95, q225_96, q225_97, q225_99, q225_102, m_0 hS, m_K hS, mR_atShift hS, mK_atShift hS, mL_atShift hS, mR_standing hS, mK_standing hS, mL_standing hS, as_nil, as_i, as_r, Nat.reduceAdd, Nat.reduceLeDiff, z_eq0, z_eq1, z_or, z_em, Classical.not_not, not_false_eq_true, not_true_eq_false, true_and, and_true, false_and, and_false, and_self, true_implies, false_implies, implies_true, Option.toList_some, Option.toList_none, List.cons_append, List.nil_append, Nat.add_eq_zero_iff, a_nl_i, a_nl_r, a_nl_n, true_or, or_true, eq_self, ok_4, ok_5, ok_6, ok_7, ok_9, ok_10, ok_20, ok_21, ok_24, ok_30, ok_48, ok_50, ok_60, ok_80, ok_120, ok_180, ok_192, ok_200, ok_900, ok_1000, ok_84000, c1]
      all_goals ((try clear hg); grind [ui_ap])
  clear ih hC hV hgo
  rw [q225_18]
  simp only [q225_20, q225_21, q225_24, q225_26, q225_27, q225_30, q225_31, q225_33, q225_36, q225_39, q225_41, q225_42, m_0 hS, m_K hS, mR_length hS, mK_length hS, mL_length hS, sp_hasPlace hS, as_nil, as_i, as_r, Nat.reduceAdd, Nat.reduceLeDiff, z_eq0, z_eq1, z_or, z_em, Classical.not_not, not_false_eq_true, not_true_eq_false, true_and, and_true, false_and, and_false, and_self, true_implies, false_implies, implies_true, Option.toList_some, Option.toList_none, List.cons_append, List.nil_append, Nat.add_eq_zero_iff, a_nl_i, a_nl_r, a_nl_n, true_or, or_true, eq_self, ok_4, ok_5, ok_6, ok_7, ok_9, ok_10, ok_20, ok_21, ok_24, ok_30, ok_48, ok_50, ok_60, ok_80, ok_120, ok_180, ok_192, ok_200, ok_900, ok_1000, ok_84000, hp]
  grind
theorem xt_freeHosts_6 (hS : m_S M K L R) (hR : mR M I) {a b s : Int32} {V : Int32} (hC : ∀ o i w, a_at (d + 1) (a_xm a_m225) 111 [some (a_rf M), some (.int a), some (.int b), some (.int s), some (.int V), some (.int o), i, w] [] (n, t, K, L, I, R) P) : ∀ o : Int32, o ≤ 30 → ∀ y i w, 0 ≤ o → o ≤ I M 17 → fbO (yv M I) a s ((I M 17).toNatClampNeg - o.toNatClampNeg) o y = V → a_at (d + 1) (a_xm a_m225) 6 [some (a_rf M), some (.int a), some (.int b), some (.int s), some (.int y), some (.int o), i, w] [] (n, t, K, L, I, R) P := by
  refine up_ind 30 (fun o ho ih => ?_)
  intro y i w h0 h1 hV
  have ga := rg_asks hR
  have gl := rg_length hR o.toNatClampNeg
  have hexit : ¬ o < I M 17 → a_at (d + 1) (a_xm a_m225) 111 [some (a_rf M), some (.int a), some (.int b), some (.int s), some (.int y), some (.int o), i, w] [] (n, t, K, L, I, R) P := fun q => by
    have eo : o = I M 17 := by
      clear ih hC hV
      grind
    have hc := hC o i w
    rw [← eo, Nat.sub_self] at hV
    rw [← hV] at hc
    exact hc
  have hgo : o < I M 17 → ∀ z (i : Int32) w, z = (if 0 ≤ I (M + 20) o.toNatClampNeg ∧ ¬ o = a then fbI (yv M I) s o (I (M + 10) o.toNatClampNeg).toNatClampNeg 0 y else y) → a_at (d + 1) (a_xm a_m225) 105 [some (a_rf M), some (.int a), some (.int b), some (.int s), some (.int z), some (.int o), some (.int i), w] [] (n, t, K, L, I, R) P := fun q z i w hz => by
    have i3 := cl_lt h0 q
    have o30 : o < 30 := by
      clear ih hC hV hexit hz
      grind
    have eo : (o + 1).toNatClampNeg = o.toNatClampNeg + 1 := cl_up h0 (by clear ih hC hV hexit hz; grind)
    have hi := ih o30 z (some (.int i)) w (by clear ih hC hV hexit hz; grind) (by clear ih hC hV hexit hz; grind) (by
      rw [← hV, eo, show (I M 17).toNatClampNeg - o.toNatClampNeg = ((I M 17).toNatClampNeg - (o.toNatClampNeg + 1)) + 1 by omega, hz]
      rfl)
    clear ih hC hV hexit hz
    simp only [q225_105, q225_108, as_nil, as_i, as_r, Nat.reduceAdd, Nat.reduceLeDiff, z_eq0, z_eq1, z_or, z_em, Classical.not_not, not_false_eq_true, not_true_eq_false, true_and, and_true, false_and, and_false, and_self, true_implies, false_implies, implies_true, Option.toList_some, Option.toList_none, List.cons_append, List.nil_append, Nat.add_eq_zero_iff, a_nl_i, a_nl_r, a_nl_n, true_or, or_true, eq_self, ok_4, ok_5, ok_6, ok_7, ok_9, ok_10, ok_20, ok_21, ok_24, ok_30, ok_48, ok_50, ok_60, ok_80, ok_120, ok_180, ok_192, ok_200, ok_900, ok_1000, ok_84000]
    exact hi
  have h18 : o < I M 17 → a_at (d + 1) (a_xm a_m225) 18 [some (a_rf M), some (.int a), some (.int b), some (.int s), some (.int y), some (.int o), some (.int 0), w] [] (n, t, K, L, I, R) P := fun q => by
    have hgo := hgo q
    have o30 : 0 ≤ o ∧ o < 30 := by
      clear ih hC hV hexit hgo
      grind
    by_cases c : 0 ≤ I (M + 20) o.toNatClampNeg ∧ ¬ o = a
    · exact xt_freeHosts_18 (d := d) hS hR o30 c (fun i w => hgo _ i w (by rw [if_pos c])) 0 (by decide) y w (by decide) gl.1 (by rw [show (0 : Int32).toNatClampNeg = 0 from rfl, Nat.sub_zero])
    · have hg := hgo y 0 w (by rw [if_neg c])
      clear ih hC hV hexit hgo
      rw [q225_18]
      simp only [q225_20, q225_21, q225_24, q225_26, q225_27, q225_30, q225_31, q225_33, q225_36, q225_39, q225_41, q225_42, m_0 hS, m_K hS, mR_length hS, mK_length hS, mL_length hS, sp_hasPlace hS, as_nil, as_i, as_r, Nat.reduceAdd, Nat.reduceLeDiff, z_eq0, z_eq1, z_or, z_em, Classical.not_not, not_false_eq_true, not_true_eq_false, true_and, and_true, false_and, and_false, and_self, true_implies, false_implies, implies_true, Option.toList_some, Option.toList_none, List.cons_append, List.nil_append, Nat.add_eq_zero_iff, a_nl_i, a_nl_r, a_nl_n, true_or, or_true, eq_self, ok_4, ok_5, ok_6, ok_7, ok_9, ok_10, ok_20, ok_21, ok_24, ok_30, ok_48, ok_50, ok_60, ok_80, ok_120, ok_180, ok_192, ok_200, ok_900, ok_1000, ok_84000]
      grind
  clear ih hC hV hgo
  rw [q225_6]
  repeat' first
    | with_reducible apply And.intro
    | with_reducible assumption
    | with_reducible intro _
    | refine hexit ?_
    | refine h18 ?_
    | simp only [q225_8, q225_9, q225_12, q225_15, q225_16, m_0 hS, m_K hS, as_nil, as_i, as_r, Nat.reduceAdd, Nat.reduceLeDiff, z_eq0, z_eq1, z_or, z_em, Classical.not_not, not_false_eq_true, not_true_eq_false, true_and, and_true, false_and, and_false, and_self, true_implies, false_implies, implies_true, Option.toList_some, Option.toList_none, List.cons_append, List.nil_append, Nat.add_eq_zero_iff, a_nl_i, a_nl_r, a_nl_n, true_or, or_true, eq_self, ok_4, ok_5, ok_6, ok_7, ok_9, ok_10, ok_20, ok_21, ok_24, ok_30, ok_48, ok_50, ok_60, ok_80, ok_120, ok_180, ok_192, ok_200, ok_900, ok_1000, ok_84000]
  all_goals ((try clear hexit); (try clear h18); (try clear hS); (try clear hR); grind [ui_ap])
theorem xt_freeHosts (hS : m_S M K L R) (hR : mR M I) {a b s : Int32} (hb : 0 ≤ b ∧ b ≤ 5) (hP : P (some (.int (fhY (yv M I) a b s))) (n, t, K, L, I, R)) : a_does (d + 2) 225 [a_rf M, .int a, .int b, .int s] (n, t, K, L, I, R) P := by
  have ga := rg_asks hR
  have hl := xt_freeHosts_6 (d := d) (n := n) (t := t) (P := P) (a := a) (b := b) (s := s) hS hR (V := fbO (yv M I) a s (I M 17).toNatClampNeg 0 0) (fun o i w => by
    change P (some (.int (I (M + 6) b.toNatClampNeg &&& (fbO (yv M I) a s (I M 17).toNatClampNeg 0 0 ^^^ -1)))) (n, t, K, L, I, R) at hP
    simp only [q225_111, q225_112, q225_115, q225_116, q225_117, q225_119, q225_120, q225_121, q225_122, m_0 hS, m_K hS, mR_hostsOf hS, mK_hostsOf hS, mL_hostsOf hS, as_nil, as_i, as_r, Nat.reduceAdd, Nat.reduceLeDiff, z_eq0, z_eq1, z_or, z_em, Classical.not_not, not_false_eq_true, not_true_eq_false, true_and, and_true, false_and, and_false, and_self, true_implies, false_implies, implies_true, Option.toList_some, Option.toList_none, List.cons_append, List.nil_append, Nat.add_eq_zero_iff, a_nl_i, a_nl_r, a_nl_n, true_or, or_true, eq_self, ok_4, ok_5, ok_6, ok_7, ok_9, ok_10, ok_20, ok_21, ok_24, ok_30, ok_48, ok_50, ok_60, ok_80, ok_120, ok_180, ok_192, ok_200, ok_900, ok_1000, ok_84000]
    generalize fbO (yv M I) a s (I M 17).toNatClampNeg 0 0 = z at hP ⊢
    first
      | exact ⟨by grind, hP⟩
      | grind) 0 (by decide) 0 none none (by decide) ga.1 (by rw [show (0 : Int32).toNatClampNeg = 0 from rfl, Nat.sub_zero])
  clear hP
  rw [a_enter1 (M := a_m225) rfl (a_cat_rf (a_cat_int (a_cat_int (a_cat_int a_cat_nil)))) (show 4 ≤ 8 by decide)]
  show a_at _ (a_xm a_m225) 0 [some (a_rf M), some (.int a), some (.int b), some (.int s), none, none, none, none] [] _ _
  repeat' first
    | with_reducible apply And.intro
    | with_reducible assumption
    | with_reducible intro _
    | with_reducible apply hl
    | simp only [q225_0, q225_1, q225_3, q225_4, as_nil, as_i, as_r, Nat.reduceAdd, Nat.reduceLeDiff, z_eq0, z_eq1, z_or, z_em, Classical.not_not, not_false_eq_true, not_true_eq_false, true_and, and_true, false_and, and_false, and_self, true_implies, false_implies, implies_true, Option.toList_some, Option.toList_none, List.cons_append, List.nil_append, Nat.add_eq_zero_iff, a_nl_i, a_nl_r, a_nl_n, true_or, or_true, eq_self, ok_4, ok_5, ok_6, ok_7, ok_9, ok_10, ok_20, ok_21, ok_24, ok_30, ok_48, ok_50, ok_60, ok_80, ok_120, ok_180, ok_192, ok_200, ok_900, ok_1000, ok_84000]
  all_goals grind [ui_ap]
end YJ
end
section
/-! who is busy, host by host -/
section YK
variable {Y : Nat → Nat → Int32}
def nrY (Y : Nat → Nat → Int32) (s o x : Int32) : Prop := Y 21 o.toNatClampNeg + x - s ≤ Y 0 9 ∧ -(Y 0 9) ≤ Y 21 o.toNatClampNeg + x - s
theorem c_ll {a b c : Int32} (h1 : a < b) (h2 : b ≤ c) : a < c := by grind
theorem cl_lt2 {x y : Int32} (h0 : 0 ≤ x) (h1 : 0 ≤ y) (h : x.toNatClampNeg < y.toNatClampNeg) : x < y := by
  have a := Int32.le_iff_toInt_le.mp h0
  have b := Int32.le_iff_toInt_le.mp h1
  have c0 : (0 : Int32).toInt = 0 := rfl
  have e1 : x.toNatClampNeg = x.toInt.toNat := rfl
  have e2 : y.toNatClampNeg = y.toInt.toNat := rfl
  rw [Int32.lt_iff_toInt_lt]
  omega
theorem fbI_bit {s o m : Int32} (hm : m ≤ 4) {h : Nat} : ∀ (k : Nat) (i p : Int32), 0 ≤ i → i ≤ m → m.toNatClampNeg = i.toNatClampNeg + k → (bq (fbI Y s o k i p) h = true ↔ (bq p h = true ∨ ∃ x : Int32, i ≤ x ∧ x < m ∧ nrY Y s o x ∧ bq (Y 22 (4 * o + x).toNatClampNeg) h = true)) := by
  intro k
  induction k with
  | zero =>
    intro i p h0 h1 h2
    have e : i = m := cl_inj h0 (Int32.le_trans h0 h1) (by omega)
    subst e
    refine ⟨fun q => Or.inl q, fun q => ?_⟩
    rcases q with q | ⟨x, x1, x2, -⟩
    · exact q
    · exact absurd (c_ll x2 x1) Int32.lt_irrefl
  | succ k ih =>
    intro i p h0 h1 h2
    have him : i < m := cl_lt2 h0 (Int32.le_trans h0 h1) (by omega)
    have ei : (i + 1).toNatClampNeg = i.toNatClampNeg + 1 := cl_up h0 (by clear ih h2; grind)
    unfold fbI
    rw [ih (i + 1) _ (by clear ih h2 ei; grind) (by clear ih h2 ei; grind) (by omega), bq_or, Bool.or_eq_true]
    refine ⟨fun q => ?_, fun q => ?_⟩
    · rcases q with (q | q) | ⟨x, x1, x2, x3, x4⟩
      · exact Or.inl q
      · by_cases c : Y 21 o.toNatClampNeg + i - s ≤ Y 0 9 ∧ -(Y 0 9) ≤ Y 21 o.toNatClampNeg + i - s
        · rw [if_pos c] at q
          exact Or.inr ⟨i, Int32.le_refl i, him, c, q⟩
        · rw [if_neg c, bq_0] at q
          exact absurd q Bool.false_ne_true
      · exact Or.inr ⟨x, by clear ih h2 ei x3 x4; grind, x2, x3, x4⟩
    · rcases q with q | ⟨x, x1, x2, x3, x4⟩
      · exact Or.inl (Or.inl q)
      · by_cases e : x = i
        · subst e
          exact Or.inl (Or.inr (by unfold nrY at x3; rw [if_pos x3]; exact x4))
        · exact Or.inr ⟨x, by clear ih h2 ei x3 x4; grind, x2, x3, x4⟩
/-- a host is busy near a SHIFT by others than one ASK -/
def buY (Y : Nat → Nat → Int32) (a s o : Int32) (h : Nat) : Prop := 0 ≤ Y 20 o.toNatClampNeg ∧ ¬ o = a ∧ ∃ x : Int32, 0 ≤ x ∧ x < Y 10 o.toNatClampNeg ∧ nrY Y s o x ∧ bq (Y 22 (4 * o + x).toNatClampNeg) h = true
theorem fbO_bit {a s m : Int32} (hm : m ≤ 30) (hl : ∀ j, 0 ≤ Y 10 j ∧ Y 10 j ≤ 4) {h : Nat} : ∀ (k : Nat) (o p : Int32), 0 ≤ o → o ≤ m → m.toNatClampNeg = o.toNatClampNeg + k → (bq (fbO Y a s k o p) h = true ↔ (bq p h = true ∨ ∃ x : Int32, o ≤ x ∧ x < m ∧ buY Y a s x h)) := by
  intro k
  induction k with
  | zero =>
    intro i p h0 h1 h2
    have e : i = m := cl_inj h0 (Int32.le_trans h0 h1) (by omega)
    subst e
    refine ⟨fun q => Or.inl q, fun q => ?_⟩
    rcases q with q | ⟨x, x1, x2, -⟩
    · exact q
    · exact absurd (c_ll x2 x1) Int32.lt_irrefl
  | succ k ih =>
    intro i p h0 h1 h2
    have him : i < m := cl_lt2 h0 (Int32.le_trans h0 h1) (by omega)
    have ei : (i + 1).toNatClampNeg = i.toNatClampNeg + 1 := cl_up h0 (by clear ih h2 hl; grind)
    have hli := hl i.toNatClampNeg
    unfold fbO
    rw [ih (i + 1) _ (by clear ih h2 ei hl hli; grind) (by clear ih h2 ei hl hli; grind) (by omega)]
    by_cases c : 0 ≤ Y 20 i.toNatClampNeg ∧ ¬ i = a
    · rw [if_pos c, fbI_bit hli.2 _ 0 p (by decide) hli.1 (by rw [show (0 : Int32).toNatClampNeg = 0 from rfl, Nat.zero_add])]
      refine ⟨fun q => ?_, fun q => ?_⟩
      · rcases q with (q | ⟨y, y1, y2, y3, y4⟩) | ⟨x, x1, x2, x3⟩
        · exact Or.inl q
        · exact Or.inr ⟨i, Int32.le_refl i, him, c.1, c.2, y, y1, y2, y3, y4⟩
        · exact Or.inr ⟨x, by clear ih h2 ei hl hli x3 c; grind, x2, x3⟩
      · rcases q with q | ⟨x, x1, x2, x3⟩
        · exact Or.inl (Or.inl q)
        · by_cases e : x = i
          · subst e
            exact Or.inl (Or.inr x3.2.2)
          · exact Or.inr ⟨x, by clear ih h2 ei hl hli x3 c; grind, x2, x3⟩
    · rw [if_neg c]
      refine ⟨fun q => ?_, fun q => ?_⟩
      · rcases q with q | ⟨x, x1, x2, x3⟩
        · exact Or.inl q
        · exact Or.inr ⟨x, by clear ih h2 ei hl hli x3 c; grind, x2, x3⟩
      · rcases q with q | ⟨x, x1, x2, x3⟩
        · exact Or.inl q
        · by_cases e : x = i
          · subst e
            exact absurd ⟨x3.1, x3.2.1⟩ c
          · exact Or.inr ⟨x, by clear ih h2 ei hl hli x3 c; grind, x2, x3⟩
end YK
end
section
/-! places on benches -/
section YL
variable {Y : Nat → Nat → Int32} {W T : Int32 → Nat → Int32}
/-- W b x: who has a bench in a SHIFT, T b x: who stands there, are the model's places -/
def plP (W T : Int32 → Nat → Int32) (Y : Nat → Nat → Int32) : Prop :=
  (∀ o : Int32, 0 ≤ o → o < Y 0 17 → 0 ≤ Y 20 o.toNatClampNeg → Y 20 o.toNatClampNeg < Y 0 6 ∧ (0 ≤ Y 21 o.toNatClampNeg ∧ Y 21 o.toNatClampNeg ≤ 200) ∧ Y 21 o.toNatClampNeg + Y 10 o.toNatClampNeg ≤ 200 ∧ ∀ x : Int32, 0 ≤ x → x < Y 10 o.toNatClampNeg → W (Y 20 o.toNatClampNeg) (Y 21 o.toNatClampNeg + x).toNatClampNeg = o ∧ T (Y 20 o.toNatClampNeg) (Y 21 o.toNatClampNeg + x).toNatClampNeg = Y 22 (4 * o + x).toNatClampNeg) ∧
  (∀ b x : Int32, 0 ≤ b → b < Y 0 6 → 0 ≤ x → x < 200 → (W b x.toNatClampNeg = -9 ∧ T b x.toNatClampNeg = 0) ∨ ∃ o i : Int32, 0 ≤ o ∧ o < Y 0 17 ∧ Y 20 o.toNatClampNeg = b ∧ 0 ≤ i ∧ i < Y 10 o.toNatClampNeg ∧ x = Y 21 o.toNatClampNeg + i)
theorem busy_same (hp : plP W T Y) (hl : ∀ j, 0 ≤ Y 10 j ∧ Y 10 j ≤ 4) {a s f e : Int32} (hfe : ∀ x : Int32, (0 ≤ x ∧ x ≤ 199 ∧ x - s ≤ Y 0 9 ∧ -(Y 0 9) ≤ x - s) ↔ (f ≤ x ∧ x ≤ e)) {h : Nat} : (∃ o : Int32, 0 ≤ o ∧ o < Y 0 17 ∧ buY Y a s o h) ↔ ∃ b x : Int32, 0 ≤ b ∧ b < Y 0 6 ∧ f ≤ x ∧ x ≤ e ∧ ¬ W b x.toNatClampNeg = a ∧ bq (T b x.toNatClampNeg) h = true := by
  refine ⟨fun ⟨o, o1, o2, o3, o4, x, x1, x2, x3, x4⟩ => ?_, fun ⟨b, x, b1, b2, x1, x2, x3, x4⟩ => ?_⟩
  · obtain ⟨p1, p2, p3, p4⟩ := hp.1 o o1 o2 o3
    obtain ⟨w1, w2⟩ := p4 x x1 x2
    have hlo := hl o.toNatClampNeg
    have hx : 0 ≤ Y 21 o.toNatClampNeg + x ∧ Y 21 o.toNatClampNeg + x ≤ 199 := by
      clear hp hl hfe w1 w2 x3 x4 p4
      grind
    have hr := (hfe (Y 21 o.toNatClampNeg + x)).mp ⟨hx.1, hx.2, x3.1, x3.2⟩
    exact ⟨Y 20 o.toNatClampNeg, Y 21 o.toNatClampNeg + x, o3, p1, hr.1, hr.2, by rw [w1]; exact o4, by rw [w2]; exact x4⟩
  · obtain ⟨r1, r2, r3, r4⟩ := (hfe x).mpr ⟨x1, x2⟩
    rcases hp.2 b x b1 b2 r1 (by clear hp hl hfe x3 x4; grind) with ⟨q1, q2⟩ | ⟨o, i, o1, o2, o3, i1, i2, i3⟩
    · rw [q2, bq_0] at x4
      exact absurd x4 Bool.false_ne_true
    · have o4 : 0 ≤ Y 20 o.toNatClampNeg := by rw [o3]; exact b1
      obtain ⟨p1, p2, p3, p4⟩ := hp.1 o o1 o2 o4
      obtain ⟨w1, w2⟩ := p4 i i1 i2
      rw [o3, ← i3] at w1 w2
      refine ⟨o, o1, o2, o4, by rw [← w1]; exact x3, i, i1, i2, ?_, by rw [← w2]; exact x4⟩
      unfold nrY
      rw [← i3]
      exact ⟨r3, r4⟩
/-- an ASK holds a bench in a SHIFT just if it stands in the class's row -/
theorem who_is (hp : plP W T Y) {b x o : Int32} (hb : 0 ≤ b ∧ b < Y 0 6) (hx : 0 ≤ x ∧ x < 200) (ho : 0 ≤ o ∧ o < Y 0 17) : W b x.toNatClampNeg = o ↔ (Y 20 o.toNatClampNeg = b ∧ ∃ i : Int32, 0 ≤ i ∧ i < Y 10 o.toNatClampNeg ∧ x = Y 21 o.toNatClampNeg + i) := by
  refine ⟨fun q => ?_, fun ⟨q1, i, i1, i2, i3⟩ => ?_⟩
  · rcases hp.2 b x hb.1 hb.2 hx.1 hx.2 with ⟨q1, q2⟩ | ⟨u, i, o1, o2, o3, i1, i2, i3⟩
    · rw [q1] at q
      exact absurd ho.1 (by rw [← q]; decide)
    · have w := ((hp.1 u o1 o2 (by rw [o3]; exact hb.1)).2.2.2 i i1 i2).1
      rw [o3, ← i3, q] at w
      rw [w]
      exact ⟨o3, i, i1, i2, i3⟩
  · have w := ((hp.1 o ho.1 ho.2 (by rw [q1]; exact hb.1)).2.2.2 i i1 i2).1
    rw [q1, ← i3] at w
    exact w
end YL
end
section
/-! the class: free hosts -/
/-- who stands in a row of SHIFTS, but for one ASK -/
def stI (w u : Nat → Int32) (a : Int32) : Nat → Int32 → Int32 → Int32
  | 0, _, p => p
  | k + 1, x, p => stI w u a k (x + 1) (if w x.toNatClampNeg = a then p else p ||| u x.toNatClampNeg)
def ftB (W T : Int32 → Nat → Int32) (a f : Int32) (c : Nat) : Nat → Int32 → Int32 → Int32
  | 0, _, p => p
  | k + 1, b, p => ftB W T a f c k (b + 1) (p ||| stI (W b) (T b) a c f 0)
/-- the class's rows: who has a bench, who stands there -/
def whC (C : Nat) (I : Nat → Nat → Int32) (R : Nat → Nat → Nat) (b : Int32) : Nat → Int32 := I (R (R (C + 16) b.toNatClampNeg) 2)
def snC (C : Nat) (I : Nat → Nat → Int32) (R : Nat → Nat → Nat) (b : Int32) : Nat → Int32 := I (R (R (C + 16) b.toNatClampNeg) 3)
section YM
variable {d n t C : Nat} {K L : Nat → Nat} {I I0 J J0 J1 J2 : Nat → Nat → Int32} {R : Nat → Nat → Nat} {P : Option Value → AH → Prop}
variable {Y : Nat → Nat → Int32} {W T : Int32 → Nat → Int32}
theorem stI_bit {w u : Nat → Int32} {a m : Int32} (hm : m ≤ 200) {h : Nat} : ∀ (k : Nat) (i p : Int32), 0 ≤ i → i ≤ m → m.toNatClampNeg = i.toNatClampNeg + k → (bq (stI w u a k i p) h = true ↔ (bq p h = true ∨ ∃ x : Int32, i ≤ x ∧ x < m ∧ ¬ w x.toNatClampNeg = a ∧ bq (u x.toNatClampNeg) h = true)) := by
  intro k
  induction k with
  | zero =>
    intro i p h0 h1 h2
    have e : i = m := cl_inj h0 (Int32.le_trans h0 h1) (by omega)
    subst e
    refine ⟨fun q => Or.inl q, fun q => ?_⟩
    rcases q with q | ⟨x, x1, x2, -⟩
    · exact q
    · exact absurd (c_ll x2 x1) Int32.lt_irrefl
  | succ k ih =>
    intro i p h0 h1 h2
    have him : i < m := cl_lt2 h0 (Int32.le_trans h0 h1) (by omega)
    have ei : (i + 1).toNatClampNeg = i.toNatClampNeg + 1 := cl_up h0 (by clear ih h2; grind)
    unfold stI
    rw [ih (i + 1) _ (by clear ih h2 ei; grind) (by clear ih h2 ei; grind) (by omega)]
    by_cases c : w i.toNatClampNeg = a
    · rw [if_pos c]
      refine ⟨fun q => ?_, fun q => ?_⟩
      · rcases q with q | ⟨x, x1, x2, x3⟩
        · exact Or.inl q
        · exact Or.inr ⟨x, by clear ih h2 ei x3 c; grind, x2, x3⟩
      · rcases q with q | ⟨x, x1, x2, x3⟩
        · exact Or.inl q
        · by_cases e : x = i
          · subst e
            exact absurd c x3.1
          · exact Or.inr ⟨x, by clear ih h2 ei x3 c; grind, x2, x3⟩
    · rw [if_neg c, bq_or, Bool.or_eq_true]
      refine ⟨fun q => ?_, fun q => ?_⟩
      · rcases q with (q | q) | ⟨x, x1, x2, x3⟩
        · exact Or.inl q
        · exact Or.inr ⟨i, Int32.le_refl i, him, c, q⟩
        · exact Or.inr ⟨x, by clear ih h2 ei x3 c; grind, x2, x3⟩
      · rcases q with q | ⟨x, x1, x2, x3⟩
        · exact Or.inl (Or.inl q)
        · by_cases e : x = i
          · subst e
            exact Or.inl (Or.inr x3.2)
          · exact Or.inr ⟨x, by clear ih h2 ei x3 c; grind, x2, x3⟩
theorem ftB_bit {a f m e1 : Int32} {c : Nat} (hm : m ≤ 6) (he : e1 ≤ 200) (hf : 0 ≤ f ∧ f ≤ e1) (hc : e1.toNatClampNeg = f.toNatClampNeg + c) {h : Nat} : ∀ (k : Nat) (i p : Int32), 0 ≤ i → i ≤ m → m.toNatClampNeg = i.toNatClampNeg + k → (bq (ftB W T a f c k i p) h = true ↔ (bq p h = true ∨ ∃ b x : Int32, i ≤ b ∧ b < m ∧ f ≤ x ∧ x < e1 ∧ ¬ W b x.toNatClampNeg = a ∧ bq (T b x.toNatClampNeg) h = true)) := by
  intro k
  induction k with
  | zero =>
    intro i p h0 h1 h2
    have e : i = m := cl_inj h0 (Int32.le_trans h0 h1) (by omega)
    subst e
    refine ⟨fun q => Or.inl q, fun q => ?_⟩
    rcases q with q | ⟨b, x, x1, x2, -⟩
    · exact q
    · exact absurd (c_ll x2 x1) Int32.lt_irrefl
  | succ k ih =>
    intro i p h0 h1 h2
    have him : i < m := cl_lt2 h0 (Int32.le_trans h0 h1) (by omega)
    have ei : (i + 1).toNatClampNeg = i.toNatClampNeg + 1 := cl_up h0 (by clear ih h2 hc hf he; grind)
    unfold ftB
    rw [ih (i + 1) _ (by clear ih h2 ei hc hf he; grind) (by clear ih h2 ei hc hf he; grind) (by omega), bq_or, Bool.or_eq_true, stI_bit he c f 0 hf.1 hf.2 hc, bq_0]
    refine ⟨fun q => ?_, fun q => ?_⟩
    · rcases q with (q | q | ⟨x, x1, x2, x3⟩) | ⟨b, x, x1, x2, x3⟩
      · exact Or.inl q
      · exact absurd q Bool.false_ne_true
      · exact Or.inr ⟨i, x, Int32.le_refl i, him, x1, x2, x3⟩
      · exact Or.inr ⟨b, x, by clear ih h2 ei x3 hc hf he; grind, x2, x3⟩
    · rcases q with q | ⟨b, x, x1, x2, x3⟩
      · exact Or.inl (Or.inl q)
      · by_cases e : b = i
        · subst e
          exact Or.inl (Or.inr (Or.inr ⟨x, x3⟩))
        · exact Or.inr ⟨b, x, by clear ih h2 ei x3 hc hf he; grind, x2, x3⟩
/-- free hosts are the same by the class's rows and by the model's places -/
theorem busy_eq (hp : plP W T Y) (hl : ∀ j, 0 ≤ Y 10 j ∧ Y 10 j ≤ 4) (hn : 0 ≤ Y 0 17 ∧ Y 0 17 ≤ 30) (hb : 0 ≤ Y 0 6 ∧ Y 0 6 ≤ 6) {a s f e : Int32} (hfe : ∀ x : Int32, (0 ≤ x ∧ x ≤ 199 ∧ x - s ≤ Y 0 9 ∧ -(Y 0 9) ≤ x - s) ↔ (f ≤ x ∧ x ≤ e)) (hf : 0 ≤ f ∧ f ≤ e + 1) (he : e ≤ 199) {c : Nat} (hc : (e + 1).toNatClampNeg = f.toNatClampNeg + c) : ftB W T a f c (Y 0 6).toNatClampNeg 0 0 = fbO Y a s (Y 0 17).toNatClampNeg 0 0 := by
  refine bq_ext (fun h h32 => ?_)
  rw [Bool.eq_iff_iff, fbO_bit hn.2 hl _ 0 0 (by decide) hn.1 (by rw [show (0 : Int32).toNatClampNeg = 0 from rfl, Nat.zero_add]), ftB_bit hb.2 (e1 := e + 1) (by clear hp hl hfe hc; grind) hf hc _ 0 0 (by decide) hb.1 (by rw [show (0 : Int32).toNatClampNeg = 0 from rfl, Nat.zero_add]), busy_same hp hl hfe, bq_0]
  refine ⟨fun q => ?_, fun q => ?_⟩
  · rcases q with q | ⟨b, x, x1, x2, x3, x4, x5⟩
    · exact Or.inl q
    · exact Or.inr ⟨b, x, x1, x2, x3, by clear hp hl hfe hc x5; grind, x5⟩
  · rcases q with q | ⟨b, x, x1, x2, x3, x4, x5⟩
    · exact Or.inl q
    · exact Or.inr ⟨b, x, x1, x2, x3, by clear hp hl hfe hc x5; grind, x5⟩
theorem le_standing_6 {b : Nat} (hb : K b = 3) (hT : cT C K L I R) {f e a : Int32} (he : e ≤ 199) {V : Int32} (hP : P (some (.int V)) (n, t, K, L, I, R)) : ∀ x : Int32, x ≤ 200 → ∀ p, 0 ≤ x → x ≤ e + 1 → stI (I (R b 2)) (I (R b 3)) a ((e + 1).toNatClampNeg - x.toNatClampNeg) x p = V → a_at d (a_xm a_m109) 6 [some (a_rf b), some (.int f), some (.int e), some (.int a), some (.int p), some (.int x)] [] (n, t, K, L, I, R) P := by
  have hS := hT.s
  obtain ⟨b1, ⟨w1, w2, w3⟩, ⟨s1, s2, s3⟩, ⟨h1, h2, h3⟩, ⟨p1, p2, p3⟩, q1⟩ := hT.g_bnc b hb
  have b0 : (b = 0) = False := eq_false (by omega)
  have w0 : (R b 2 = 0) = False := eq_false (by omega)
  have s0 : (R b 3 = 0) = False := eq_false (by omega)
  have h0 : (R b 4 = 0) = False := eq_false (by omega)
  have p0 : (R b 5 = 0) = False := eq_false (by omega)
  refine up_ind 200 (fun x hk ih => ?_)
  intro p y0 y1 hV
  have hexit : e < x → P (some (.int p)) (n, t, K, L, I, R) := fun w => by
    have ex : x = e + 1 := by
      clear ih hP hV hT hS b0 w0 s0 h0 p0 w1 w2 w3 s1 s2 s3 h1 h2 h3 p1 p2 p3 q1
      grind
    rw [← ex, Nat.sub_self] at hV
    rw [← hV] at hP
    exact hP
  have hgo : ¬ e < x → ∀ z, z = (if I (R b 2) x.toNatClampNeg = a then p else p ||| I (R b 3) x.toNatClampNeg) → a_at d (a_xm a_m109) 6 [some (a_rf b), some (.int f), some (.int e), some (.int a), some (.int z), some (.int (x + 1))] [] (n, t, K, L, I, R) P := fun w z hz => by
    have x2 : x < 200 := by
      clear ih hP hV hT hS b0 w0 s0 h0 p0 w1 w2 w3 s1 s2 s3 h1 h2 h3 p1 p2 p3 q1 hz hexit
      grind
    have xe : x < e + 1 := by
      clear ih hP hV hT hS b0 w0 s0 h0 p0 w1 w2 w3 s1 s2 s3 h1 h2 h3 p1 p2 p3 q1 hz hexit
      grind
    have x3 := cl_lt y0 xe
    have ei : (x + 1).toNatClampNeg = x.toNatClampNeg + 1 := cl_up y0 (by
      clear ih hP hV hT hS b0 w0 s0 h0 p0 w1 w2 w3 s1 s2 s3 h1 h2 h3 p1 p2 p3 q1 hz hexit
      grind)
    refine ih x2 z ?_ ?_ ?_
    · clear ih hP hV hT hS b0 w0 s0 h0 p0 w1 w2 w3 s1 s2 s3 h1 h2 h3 p1 p2 p3 q1 hz hexit
      grind
    · clear ih hP hV hT hS b0 w0 s0 h0 p0 w1 w2 w3 s1 s2 s3 h1 h2 h3 p1 p2 p3 q1 hz hexit
      grind
    · rw [← hV, ei, show (e + 1).toNatClampNeg - x.toNatClampNeg = ((e + 1).toNatClampNeg - (x.toNatClampNeg + 1)) + 1 by omega, hz]
      rfl
  have x200 : ¬ e < x → 0 ≤ x ∧ x < 200 := fun w => by
    clear ih hP hV hT hS b0 w0 s0 h0 p0 w1 w2 w3 s1 s2 s3 h1 h2 h3 p1 p2 p3 q1 hexit hgo
    grind
  clear ih hP hV
  rw [q109_6]
  by_cases c : I (R b 2) x.toNatClampNeg = a
  · have hgo := fun w => hgo w p (by rw [if_pos c])
    simp only [q109_8, q109_9, q109_12, q109_13, q109_16, q109_18, q109_19, q109_20, q109_23, q109_25, q109_26, q109_29, q109_31, q109_32, q109_33, q109_35, q109_38, q109_41, q109_43, as_nil, as_i, as_r, Nat.reduceAdd, Nat.reduceLeDiff, z_eq0, z_eq1, z_or, z_em, Classical.not_not, not_false_eq_true, not_true_eq_false, true_and, and_true, false_and, and_false, and_self, true_implies, false_implies, implies_true, Option.toList_some, Option.toList_none, List.cons_append, List.nil_append, Nat.add_eq_zero_iff, a_nl_i, a_nl_r, a_nl_n, true_or, or_true, eq_self, a_isRA_22, a_isRA_24, a_isRA_32, a_isA_20, ok_4, ok_5, ok_6, ok_7, ok_9, ok_20, ok_21, ok_30, ok_50, ok_180, ok_192, ok_200, hb, b0, w0, w2, w3, s0, s2, s3, h0, h2, h3, p0, p2, c]
    clear hT hS
    grind
  · have hgo := fun w => hgo w (p ||| I (R b 3) x.toNatClampNeg) (by rw [if_neg c])
    simp only [q109_8, q109_9, q109_12, q109_13, q109_16, q109_18, q109_19, q109_20, q109_23, q109_25, q109_26, q109_29, q109_31, q109_32, q109_33, q109_35, q109_38, q109_41, q109_43, as_nil, as_i, as_r, Nat.reduceAdd, Nat.reduceLeDiff, z_eq0, z_eq1, z_or, z_em, Classical.not_not, not_false_eq_true, not_true_eq_false, true_and, and_true, false_and, and_false, and_self, true_implies, false_implies, implies_true, Option.toList_some, Option.toList_none, List.cons_append, List.nil_append, Nat.add_eq_zero_iff, a_nl_i, a_nl_r, a_nl_n, true_or, or_true, eq_self, a_isRA_22, a_isRA_24, a_isRA_32, a_isA_20, ok_4, ok_5, ok_6, ok_7, ok_9, ok_20, ok_21, ok_30, ok_50, ok_180, ok_192, ok_200, hb, b0, w0, w2, w3, s0, s2, s3, h0, h2, h3, p0, p2, c]
    clear hT hS
    grind
theorem ce_standing {b : Nat} (hb : K b = 3) (hT : cT C K L I R) {f e a : Int32} (hf : 0 ≤ f ∧ f ≤ e + 1) (he : e ≤ 199) (hP : P (some (.int (stI (I (R b 2)) (I (R b 3)) a ((e + 1).toNatClampNeg - f.toNatClampNeg) f 0))) (n, t, K, L, I, R)) : a_does (d + 1) 109 [a_rf b, .int f, .int e, .int a] (n, t, K, L, I, R) P := by
  have hl := le_standing_6 (d := d) (n := n) (t := t) (P := P) (f := f) hb hT he hP f (by clear hP hT hb; grind) 0 hf.1 hf.2 rfl
  clear hP
  rw [a_enter1 (M := a_m109) rfl (a_cat_rf (a_cat_int (a_cat_int (a_cat_int a_cat_nil)))) (show 4 ≤ 6 by decide)]
  show a_at _ (a_xm a_m109) 0 [some (a_rf b), some (.int f), some (.int e), some (.int a), none, none] [] _ _
  simp only [q109_0, q109_1, q109_3, q109_4, as_nil, as_i, as_r, Nat.reduceAdd, Nat.reduceLeDiff, z_eq0, z_eq1, z_or, z_em, Classical.not_not, not_false_eq_true, not_true_eq_false, true_and, and_true, false_and, and_false, and_self, true_implies, false_implies, implies_true, Option.toList_some, Option.toList_none, List.cons_append, List.nil_append, Nat.add_eq_zero_iff, a_nl_i, a_nl_r, a_nl_n, true_or, or_true, eq_self, a_isRA_22, a_isRA_24, a_isRA_32, a_isA_20, ok_4, ok_5, ok_6, ok_7, ok_9, ok_20, ok_21, ok_30, ok_50, ok_180, ok_192, ok_200]
  exact hl
end YM
end
section
/-! the class: free hosts of a bench -/
section YN
variable {d n t C : Nat} {K L : Nat → Nat} {I I0 J J0 J1 J2 : Nat → Nat → Int32} {R : Nat → Nat → Nat} {P : Option Value → AH → Prop}
variable {Y : Nat → Nat → Int32}
/-- the class's benches are the model's -/
def bhP (C : Nat) (K : Nat → Nat) (I : Nat → Nat → Int32) (R : Nat → Nat → Nat) (Y : Nat → Nat → Int32) : Prop := I (C + 14) 5 = Y 0 6 ∧ I (C + 14) 6 = Y 0 9 ∧ (∀ i : Int32, 0 ≤ i → i < Y 0 6 → K (R (C + 16) i.toNatClampNeg) = 3 ∧ ¬ (R (C + 16) i.toNatClampNeg) = 0 ∧ I (R (C + 16) i.toNatClampNeg) 0 = Y 5 i.toNatClampNeg ∧ I (R (C + 16) i.toNatClampNeg) 1 = Y 6 i.toNatClampNeg) ∧ plP (whC C I R) (snC C I R) Y
theorem le_freeHosts_32 (hT : cT C K L I R) (hB : bhP C K I R Y) {a : Nat} (ha : K a = 1) {b s f e : Int32} (hf : 0 ≤ f ∧ f ≤ e + 1) (he : e ≤ 199) {V : Int32} (hn : ∀ i u, a_at (d + 1) (a_xm a_m108) 78 [some (a_rf (C + 14)), some (a_rf a), some (.int b), some (.int s), some (.int f), some (.int e), some (.int V), some (.int i), u] [] (n, t, K, L, I, R) P) : ∀ i : Int32, i ≤ 6 → ∀ o u, 0 ≤ i → i ≤ Y 0 6 → ftB (whC C I R) (snC C I R) (I a 4) f ((e + 1).toNatClampNeg - f.toNatClampNeg) ((Y 0 6).toNatClampNeg - i.toNatClampNeg) i o = V → a_at (d + 1) (a_xm a_m108) 32 [some (a_rf (C + 14)), some (a_rf a), some (.int b), some (.int s), some (.int f), some (.int e), some (.int o), some (.int i), u] [] (n, t, K, L, I, R) P := by
  have hS := hT.s
  have gB := hT.g_benchesR
  have gc := hT.g_benches
  rw [hB.1] at gc
  obtain ⟨a1, a2, a4, a3⟩ := hT.g_ask a ha
  have a0 : (a = 0) = False := eq_false (by omega)
  refine up_ind 6 (fun i hk ih => ?_)
  intro o u q0 q1 hV
  have hexit : ¬ i < Y 0 6 → a_at (d + 1) (a_xm a_m108) 78 [some (a_rf (C + 14)), some (a_rf a), some (.int b), some (.int s), some (.int f), some (.int e), some (.int o), some (.int i), u] [] (n, t, K, L, I, R) P := fun w => by
    have ei : i = Y 0 6 := by
      clear ih hn hV hB hT hS gB a1 a2 a3 a4 a0 hf he
      grind
    have hc := hn i u
    rw [← ei, Nat.sub_self] at hV
    rw [← hV] at hc
    exact hc
  have hgo : i < Y 0 6 → a_at (d + 1) (a_xm a_m108) 32 [some (a_rf (C + 14)), some (a_rf a), some (.int b), some (.int s), some (.int f), some (.int e), some (.int (o ||| stI (whC C I R i) (snC C I R i) (I a 4) ((e + 1).toNatClampNeg - f.toNatClampNeg) f 0)), some (.int (i + 1)), some (a_rf (R (C + 16) i.toNatClampNeg))] [] (n, t, K, L, I, R) P := fun w => by
    have i6 : i < 6 := by
      clear ih hn hV hB hT hS gB a1 a2 a3 a4 a0 hf he hexit
      grind
    have i3 := cl_lt q0 w
    have ei : (i + 1).toNatClampNeg = i.toNatClampNeg + 1 := cl_up q0 (by
      clear ih hn hV hB hT hS gB a1 a2 a3 a4 a0 hf he hexit
      grind)
    refine ih i6 _ _ ?_ ?_ ?_
    · clear ih hn hV hB hT hS gB a1 a2 a3 a4 a0 hf he hexit
      grind
    · clear ih hn hV hB hT hS gB a1 a2 a3 a4 a0 hf he hexit
      grind
    · rw [← hV, ei, show (Y 0 6).toNatClampNeg - i.toNatClampNeg = ((Y 0 6).toNatClampNeg - (i.toNatClampNeg + 1)) + 1 by omega]
      rfl
  have h41 : i < Y 0 6 → a_at (d + 1) (a_xm a_m108) 41 [some (a_rf (C + 14)), some (a_rf a), some (.int b), some (.int s), some (.int f), some (.int e), some (.int o), some (.int i), u] [] (n, t, K, L, I, R) P := fun w => by
    have hgo := hgo w
    obtain ⟨k1, k2, k3, k4⟩ := hB.2.2.1 i q0 w
    have i6 : i < 6 := by
      clear ih hn hV hB hT hS gB a1 a2 a3 a4 a0 hf he hexit hgo
      grind
    have hc : 0 ≤ i ∧ i < I (C + 14) 5 ∧ i < 6 := ⟨q0, by rw [hB.1]; exact w, i6⟩
    simp only [q108_41, q108_42, q108_44, q108_47, q108_49, q108_51, q108_54, q108_56, q108_58, q108_60, q108_62, q108_63, q108_66, k_14 hS, z_14, sp_benchAt hS gB, as_nil, as_i, as_r, Nat.reduceAdd, Nat.reduceLeDiff, z_eq0, z_eq1, z_or, z_em, Classical.not_not, not_false_eq_true, not_true_eq_false, true_and, and_true, false_and, and_false, and_self, true_implies, false_implies, implies_true, Option.toList_some, Option.toList_none, List.cons_append, List.nil_append, Nat.add_eq_zero_iff, a_nl_i, a_nl_r, a_nl_n, true_or, or_true, eq_self, a_isRA_22, a_isRA_24, a_isRA_32, a_isA_20, ok_4, ok_5, ok_6, ok_7, ok_9, ok_20, ok_21, ok_30, ok_50, ok_180, ok_192, ok_200, ha, a0, hc, k1, k2]
    try simp only [true_and, and_true, true_implies, false_implies, implies_true, not_true_eq_false, not_false_eq_true]
    refine ce_standing k1 hT hf he ?_
    clear ih hn hV hB hexit
    simp only [q108_69, q108_70, q108_72, q108_75, as_nil, as_i, as_r, Nat.reduceAdd, Nat.reduceLeDiff, z_eq0, z_eq1, z_or, z_em, Classical.not_not, not_false_eq_true, not_true_eq_false, true_and, and_true, false_and, and_false, and_self, true_implies, false_implies, implies_true, Option.toList_some, Option.toList_none, List.cons_append, List.nil_append, Nat.add_eq_zero_iff, a_nl_i, a_nl_r, a_nl_n, true_or, or_true, eq_self, a_isRA_22, a_isRA_24, a_isRA_32, a_isA_20, ok_4, ok_5, ok_6, ok_7, ok_9, ok_20, ok_21, ok_30, ok_50, ok_180, ok_192, ok_200]
    exact hgo
  clear ih hn hV hgo
  rw [q108_32]
  simp only [q108_34, q108_35, q108_38, k_14 hS, z_14, as_nil, as_i, as_r, Nat.reduceAdd, Nat.reduceLeDiff, z_eq0, z_eq1, z_or, z_em, Classical.not_not, not_false_eq_true, not_true_eq_false, true_and, and_true, false_and, and_false, and_self, true_implies, false_implies, implies_true, Option.toList_some, Option.toList_none, List.cons_append, List.nil_append, Nat.add_eq_zero_iff, a_nl_i, a_nl_r, a_nl_n, true_or, or_true, eq_self, a_isRA_22, a_isRA_24, a_isRA_32, a_isA_20, ok_4, ok_5, ok_6, ok_7, ok_9, ok_20, ok_21, ok_30, ok_50, ok_180, ok_192, ok_200, ha, a0, hB.1]
  clear hB hT
  grind
theorem fe_is {s r f e : Int32} (hs : 0 ≤ s ∧ s < 200) (hr : 0 ≤ r ∧ r ≤ 3) (hf : f = if 0 < s - r then s - r else 0) (he : e = if s + r < 199 then s + r else 199) : (∀ x : Int32, (0 ≤ x ∧ x ≤ 199 ∧ x - s ≤ r ∧ -r ≤ x - s) ↔ (f ≤ x ∧ x ≤ e)) ∧ (0 ≤ f ∧ f ≤ e + 1) ∧ e ≤ 199 := by
  have s0 := Int32.le_iff_toInt_le.mp hs.1
  have s1 := Int32.lt_iff_toInt_lt.mp hs.2
  have r0 := Int32.le_iff_toInt_le.mp hr.1
  have r1 := Int32.le_iff_toInt_le.mp hr.2
  have w0 : (0 : Int32).toInt = 0 := rfl
  have w1 : (1 : Int32).toInt = 1 := rfl
  have w3 : (3 : Int32).toInt = 3 := rfl
  have w199 : (199 : Int32).toInt = 199 := rfl
  have w200 : (200 : Int32).toInt = 200 := rfl
  rw [w0] at s0 r0
  rw [w200] at s1
  rw [w3] at r1
  have d1 : (s - r).toInt = s.toInt - r.toInt := by rw [Int32.toInt_sub, in_bm (by omega) (by omega)]
  have d2 : (s + r).toInt = s.toInt + r.toInt := by rw [Int32.toInt_add, in_bm (by omega) (by omega)]
  have d3 : (-r).toInt = -r.toInt := by rw [Int32.toInt_neg, in_bm (by omega) (by omega)]
  have ef : f.toInt = if 0 < s.toInt - r.toInt then s.toInt - r.toInt else 0 := by
    rw [hf]
    by_cases c : 0 < s - r
    · have c2 := Int32.lt_iff_toInt_lt.mp c
      rw [d1, w0] at c2
      rw [if_pos c, if_pos c2, d1]
    · have c2 : ¬ 0 < s.toInt - r.toInt := fun q => c (by rw [Int32.lt_iff_toInt_lt, d1, w0]; exact q)
      rw [if_neg c, if_neg c2, w0]
  have ee : e.toInt = if s.toInt + r.toInt < 199 then s.toInt + r.toInt else 199 := by
    rw [he]
    by_cases c : s + r < 199
    · have c2 := Int32.lt_iff_toInt_lt.mp c
      rw [d2, w199] at c2
      rw [if_pos c, if_pos c2, d2]
    · have c2 : ¬ s.toInt + r.toInt < 199 := fun q => c (by rw [Int32.lt_iff_toInt_lt, d2, w199]; exact q)
      rw [if_neg c, if_neg c2, w199]
  have f0 : 0 ≤ f.toInt ∧ f.toInt ≤ 199 ∧ s.toInt - r.toInt ≤ f.toInt ∧ (f.toInt = s.toInt - r.toInt ∨ f.toInt = 0) := by
    rw [ef]
    split <;> omega
  have e0 : 0 ≤ e.toInt ∧ e.toInt ≤ 199 ∧ e.toInt ≤ s.toInt + r.toInt ∧ (e.toInt = s.toInt + r.toInt ∨ e.toInt = 199) := by
    rw [ee]
    split <;> omega
  clear ef ee hf he
  have e1 : (e + 1).toInt = e.toInt + 1 := by rw [Int32.toInt_add, w1, in_bm (by omega) (by omega)]
  refine ⟨fun x => ?_, ⟨by rw [Int32.le_iff_toInt_le, w0]; omega, by rw [Int32.le_iff_toInt_le, e1]; omega⟩, by rw [Int32.le_iff_toInt_le, w199]; omega⟩
  simp only [Int32.le_iff_toInt_le, w0, w199, d3]
  by_cases c : 0 ≤ x.toInt ∧ x.toInt ≤ 199
  · have d4 : (x - s).toInt = x.toInt - s.toInt := by rw [Int32.toInt_sub, in_bm (by omega) (by omega)]
    rw [d4]
    omega
  · omega
theorem ce_freeHosts (hT : cT C K L I R) (hB : bhP C K I R Y) (hl : ∀ j, 0 ≤ Y 10 j ∧ Y 10 j ≤ 4) (hr : 0 ≤ Y 0 9 ∧ Y 0 9 ≤ 3) (hn : 0 ≤ Y 0 17 ∧ Y 0 17 ≤ 30) {a : Nat} (ha : K a = 1) {b s : Int32} (hb : 0 ≤ b ∧ b < Y 0 6) (hs : 0 ≤ s ∧ s < 200) (hP : P (some (.int (fhY Y (I a 4) b s))) (n, t, K, L, I, R)) : a_does (d + 2) 108 [a_rf (C + 14), a_rf a, .int b, .int s] (n, t, K, L, I, R) P := by
  have hS := hT.s
  have gB := hT.g_benchesR
  have gc := hT.g_benches
  rw [hB.1] at gc
  obtain ⟨a1, a2, a4, a3⟩ := hT.g_ask a ha
  have a0 : (a = 0) = False := eq_false (by omega)
  have er := hB.2.1
  have b6 : b < 6 := by
    clear hB hT hS gB a1 a2 a3 a4 a0 hP hl
    grind
  have hgo : ∀ f e : Int32, (f = if 0 < s - Y 0 9 then s - Y 0 9 else 0) → (e = if s + Y 0 9 < 199 then s + Y 0 9 else 199) → a_at (d + 1) (a_xm a_m108) 32 [some (a_rf (C + 14)), some (a_rf a), some (.int b), some (.int s), some (.int f), some (.int e), some (.int 0), some (.int 0), none] [] (n, t, K, L, I, R) P := fun f e hf he => by
    obtain ⟨hfe, hf2, he2⟩ := fe_is hs hr hf he
    have hce : (e + 1).toNatClampNeg = f.toNatClampNeg + ((e + 1).toNatClampNeg - f.toNatClampNeg) := by
      have := cl_le0 hf2.1 hf2.2
      omega
    have hbq := busy_eq (a := I a 4) hB.2.2.2 hl hn gc hfe hf2 he2 hce
    refine le_freeHosts_32 (d := d) hT hB ha hf2 he2 (V := fbO Y (I a 4) s (Y 0 17).toNatClampNeg 0 0) (fun i u => ?_) 0 (by decide) 0 none (by decide) gc.1 (by rw [show (0 : Int32).toNatClampNeg = 0 from rfl, Nat.sub_zero]; exact hbq)
    obtain ⟨k1, k2, k3, k4⟩ := hB.2.2.1 b hb.1 hb.2
    have hc : 0 ≤ b ∧ b < I (C + 14) 5 ∧ b < 6 := ⟨hb.1, by rw [hB.1]; exact hb.2, b6⟩
    unfold fhY at hP
    rw [← k4] at hP
    clear hbq hce hfe hf he hB hl
    simp only [q108_78, q108_79, q108_80, q108_83, q108_85, q108_87, q108_90, q108_91, q108_94, q108_96, q108_99, q108_101, q108_102, q108_103, q108_104, k_14 hS, z_14, sp_benchAt hS gB, as_nil, as_i, as_r, Nat.reduceAdd, Nat.reduceLeDiff, z_eq0, z_eq1, z_or, z_em, Classical.not_not, not_false_eq_true, not_true_eq_false, true_and, and_true, false_and, and_false, and_self, true_implies, false_implies, implies_true, Option.toList_some, Option.toList_none, List.cons_append, List.nil_append, Nat.add_eq_zero_iff, a_nl_i, a_nl_r, a_nl_n, true_or, or_true, eq_self, a_isRA_22, a_isRA_24, a_isRA_32, a_isA_20, ok_4, ok_5, ok_6, ok_7, ok_9, ok_20, ok_21, ok_30, ok_50, ok_180, ok_192, ok_200, ha, a0, hc, k1, k2]
    try simp only [true_and, and_true, true_implies, false_implies, implies_true, not_true_eq_false, not_false_eq_true]
    exact hP
  rw [a_enter1 (M := a_m108) rfl (a_cat_rf (a_cat_rf (a_cat_int (a_cat_int a_cat_nil)))) (show 4 ≤ 9 by decide)]
  show a_at _ (a_xm a_m108) 0 [some (a_rf (C + 14)), some (a_rf a), some (.int b), some (.int s), none, none, none, none, none] [] _ _
  clear hP hl hB
  repeat' first
    | with_reducible apply And.intro
    | with_reducible assumption
    | with_reducible intro _
    | refine hgo _ _ ?_ ?_
    | simp only [q108_0, q108_1, q108_2, q108_3, q108_6, q108_7, q108_10, q108_12, q108_15, q108_16, q108_17, q108_20, q108_21, q108_24, q108_26, q108_27, q108_29, q108_30, k_14 hS, z_14, sp_max, sp_min, as_nil, as_i, as_r, Nat.reduceAdd, Nat.reduceLeDiff, z_eq0, z_eq1, z_or, z_em, Classical.not_not, not_false_eq_true, not_true_eq_false, true_and, and_true, false_and, and_false, and_self, true_implies, false_implies, implies_true, Option.toList_some, Option.toList_none, List.cons_append, List.nil_append, Nat.add_eq_zero_iff, a_nl_i, a_nl_r, a_nl_n, true_or, or_true, eq_self, a_isRA_22, a_isRA_24, a_isRA_32, a_isA_20, ok_4, ok_5, ok_6, ok_7, ok_9, ok_20, ok_21, ok_30, ok_50, ok_180, ok_192, ok_200, er]
  all_goals ((try clear hgo); (try clear hT); (try clear hS); (try clear gB); grind [ui_ap])
end YN
end
section
/-! tools -/
section YO
variable {d n t M : Nat} {K L : Nat → Nat} {I I0 J J0 J1 J2 : Nat → Nat → Int32} {R : Nat → Nat → Nat} {P : Option Value → AH → Prop} {f : Nat → Int32} {e : Int32}
theorem lp_st {i z : Int32} (h0 : 0 ≤ i) (w : i < z) : z.toNatClampNeg - i.toNatClampNeg = (z.toNatClampNeg - (i + 1).toNatClampNeg) + 1 ∧ 0 ≤ i + 1 ∧ i + 1 ≤ z ∧ (i + 1).toNatClampNeg = i.toNatClampNeg + 1 := by
  have a := Int32.le_iff_toInt_le.mp h0
  have b := Int32.lt_iff_toInt_lt.mp w
  have c := Int32.toInt_lt z
  have c0 : (0 : Int32).toInt = 0 := rfl
  have c1 : (1 : Int32).toInt = 1 := rfl
  rw [c0] at a
  have e : (i + 1).toInt = i.toInt + 1 := by rw [ti_add (by omega), c1]
  refine ⟨?_, by rw [Int32.le_iff_toInt_le, e, c0]; omega, by rw [Int32.le_iff_toInt_le, e]; omega, ?_⟩
  · show z.toInt.toNat - i.toInt.toNat = (z.toInt.toNat - (i + 1).toInt.toNat) + 1
    rw [e]
    omega
  · show (i + 1).toInt.toNat = i.toInt.toNat + 1
    rw [e]
    omega
theorem lt_p1 {i z : Int32} (w : i < z) : i < i + 1 := by
  have b := Int32.lt_iff_toInt_lt.mp w
  have c := Int32.toInt_lt z
  have c2 := Int32.le_toInt i
  have c1 : (1 : Int32).toInt = 1 := rfl
  have e : (i + 1).toInt = i.toInt + 1 := by rw [ti_add (by omega), c1]
  rw [Int32.lt_iff_toInt_lt, e]
  omega
theorem lp_end {i z : Int32} (h1 : i ≤ z) (w : ¬ i < z) : z.toNatClampNeg - i.toNatClampNeg = 0 ∧ i = z := by
  have e : i = z := Int32.le_antisymm h1 (Int32.not_lt.mp w)
  subst e
  exact ⟨Nat.sub_self _, rfl⟩
theorem lp_0 {z : Int32} : z.toNatClampNeg - (0 : Int32).toNatClampNeg = z.toNatClampNeg := by
  rw [show (0 : Int32).toNatClampNeg = 0 from rfl, Nat.sub_zero]
/-- what a call comes to is one thing -/
theorem does_and {d mid : Nat} {as : List Value} {h : AH} {P Q : Option Value → AH → Prop} (h1 : a_does d mid as h P) (h2 : a_does d mid as h Q) : a_does d mid as h (fun r h' => P r h' ∧ Q r h') := by
  obtain ⟨f, r, k, e1, p⟩ := h1
  obtain ⟨g, r2, k2, e2, q⟩ := h2
  have e3 := a_meth_more _ _ _ _ _ f (max f g) (by omega) e1
  have e4 := a_meth_more _ _ _ _ _ g (max f g) (by omega) e2
  rw [e3] at e4
  cases e4
  exact ⟨max f g, r, k, e3, p, q⟩
end YO
end

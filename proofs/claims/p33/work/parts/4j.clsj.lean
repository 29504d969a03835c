/-! the class: public methods that the first rows compare -/
section KL
variable {d n t C c n0 n' n'' t' : Nat} {K L K0 L0 K' L' K'' L'' : Nat → Nat} {I I0 J J0 J1 J2 : Nat → Nat → Int32} {R R0 R' R'' : Nat → Nat → Nat} {P : Option Value → AH → Prop}
theorem sT_fr {k : Nat} (h : cT C K L I R) (hk : ¬ k = 0 ∧ ¬ k = 1 ∧ ¬ k = 3 ∧ ¬ k = 7 ∧ ¬ k = 11 ∧ ¬ k = 14 ∧ ¬ k = 22 ∧ ¬ k = 27 ∧ ¬ k = 31 ∧ ¬ k = 35 ∧ k ≤ 43) (hJ : ∀ x j, ¬ x = C + k → J x j = I x j) : cT C K L J R := by
  exact cT_mk
    (s := h.s)
    (g_now := by rw [hJ _ _ (by omega)]; exact h.g_now)
    (g_trips := by rw [hJ _ _ (by omega)]; exact h.g_trips)
    (g_texts := by rw [hJ _ _ (by omega)]; exact h.g_texts)
    (g_size := by rw [hJ _ _ (by omega)]; exact h.g_size)
    (g_code := by rw [hJ _ _ (by omega)]; exact h.g_code)
    (g_at := by rw [hJ _ _ (by omega)]; exact h.g_at)
    (g_asks := by rw [hJ _ _ (by omega)]; exact h.g_asks)
    (g_benches := by rw [hJ _ _ (by omega)]; exact h.g_benches)
    (g_orderSize := by rw [hJ _ _ (by omega)]; exact h.g_orderSize)
    (g_passed := by rw [hJ _ _ (by omega)]; exact h.g_passed)
    (g_best := by rw [hJ _ _ (by omega)]; exact h.g_best)
    (g_circle := by rw [hJ _ _ (by omega)]; exact h.g_circle)
    (g_row := by rw [hJ _ _ (by omega)]; exact h.g_row)
    (g_rest := by rw [hJ _ _ (by omega)]; exact h.g_rest)
    (g_lost := fun j => by rw [hJ _ _ (by omega)]; exact h.g_lost j)
    (g_spots := fun j => by rw [hJ _ _ (by omega)]; exact h.g_spots j)
    (g_ask := fun a ha => by
      have q := h.g_ask a ha
      rw [hJ _ _ (by omega), hJ _ _ (by omega), hJ _ _ (by omega), hJ _ _ (by omega)]
      exact q)
    (g_bnc := fun b hb => by
      have q := h.g_bnc b hb
      rw [hJ _ _ (by omega)]
      exact q)
    (g_txt := h.g_txt) (g_asksR := h.g_asksR)
    (g_asksN := fun i h0 h1 => by rw [hJ _ _ (by omega)] at h1; exact h.g_asksN i h0 h1)
    (g_benchesR := h.g_benchesR) (g_textsR := h.g_textsR) (g_orderR := h.g_orderR) (g_bestR := h.g_bestR) (g_ringR := h.g_ringR) (g_draft := h.g_draft)
    (g_benN := fun j h1 => by rw [hJ _ _ (by omega)] at h1; exact h.g_benN j h1)
    (g_benY := fun j h1 => by rw [hJ _ _ (by omega)] at h1; exact h.g_benY j h1)
theorem lk_change_6 (hS : cS C K L R) {a b m : Int32} (ha : 0 ≤ a ∧ a ≤ 199) (hb : 0 ≤ b ∧ b ≤ 199) (hab : a ≤ b) (hP : ∀ J, (∀ x j, ¬ x = C + 2 → J x j = I x j) → (∀ j, J (C + 2) j = if a.toNatClampNeg ≤ j ∧ j ≤ b.toNatClampNeg then m else I (C + 2) j) → P (some (.int (cn (I (C + 2)) m a.toNatClampNeg (b.toNatClampNeg + 1 - a.toNatClampNeg)))) (n, t, K, L, J, R)) : ∀ s : Int32, s ≤ 200 → ∀ v J, a ≤ s → s ≤ b + 1 → (∀ x j, ¬ x = C + 2 → J x j = I x j) → (∀ j, J (C + 2) j = if a.toNatClampNeg ≤ j ∧ j < s.toNatClampNeg then m else I (C + 2) j) → v = cn (I (C + 2)) m a.toNatClampNeg (s.toNatClampNeg - a.toNatClampNeg) → a_at d (a_xm a_m14) 6 [some (a_rf (C + 1)), some (.int a), some (.int b), some (.int m), some (.int v), some (.int s)] [] (n, t, K, L, J, R) P := by
  refine up_ind 200 (fun s hs ih => ?_)
  intro v J h0 h1 hx hm hv
  rw [q14_6]
  simp only [q14_8, q14_9, q14_12, q14_13, q14_16, q14_18, q14_19, q14_20, q14_23, q14_24, q14_27, q14_29, q14_30, q14_31, q14_34, q14_37, q14_40, q14_42, k_1 hS, z_1, r_1_0 hS, k_2 hS, l_2 hS, z_2, as_nil, as_i, as_r, Nat.reduceAdd, Nat.reduceLeDiff, z_eq0, z_eq1, z_or, z_em, Classical.not_not, not_false_eq_true, not_true_eq_false, true_and, and_true, false_and, and_false, and_self, true_implies, false_implies, implies_true, Option.toList_some, Option.toList_none, List.cons_append, List.nil_append, Nat.add_eq_zero_iff, a_nl_i, a_nl_r, a_nl_n, true_or, or_true, eq_self, a_isRA_22, a_isRA_24, a_isRA_32, a_isA_20, ok_4, ok_5, ok_6, ok_7, ok_9, ok_20, ok_21, ok_30, ok_50, ok_180, ok_192, ok_200]
  have hsb : ∀ x : Int32, 0 ≤ x → x ≤ 200 → (x + 1).toNatClampNeg = x.toNatClampNeg + 1 := fun x q1 q2 => cl_up q1 (by grind)
  have hle : ∀ {x y : Int32}, 0 ≤ x → x ≤ y → x.toNatClampNeg ≤ y.toNatClampNeg := fun {x y} q1 q2 => by
    by_cases h : x = y
    · rw [h]; exact Nat.le_refl _
    · exact Nat.le_of_lt (cl_lt q1 (by grind))
  have h3 := hle ha.1 h0
  have es : J (C + 2) s.toNatClampNeg = I (C + 2) s.toNatClampNeg := by rw [hm, if_neg (by omega)]
  have hc : s ≤ b → cn (I (C + 2)) m a.toNatClampNeg ((s + 1).toNatClampNeg - a.toNatClampNeg) = v + (if J (C + 2) s.toNatClampNeg = m then 0 else 1) := by
    intro q
    rw [hsb s (by grind) hs, show s.toNatClampNeg + 1 - a.toNatClampNeg = (s.toNatClampNeg - a.toNatClampNeg) + 1 by omega, es, hv]
    show _ + (if I (C + 2) (a.toNatClampNeg + (s.toNatClampNeg - a.toNatClampNeg)) = m then 0 else 1) = _
    rw [show a.toNatClampNeg + (s.toNatClampNeg - a.toNatClampNeg) = s.toNatClampNeg by omega]
  have hnext : s ≤ b → ∀ J2 : Nat → Nat → Int32, (∀ x j, ¬ x = C + 2 → J2 x j = I x j) → (∀ j, J2 (C + 2) j = if j = s.toNatClampNeg then m else J (C + 2) j) → ∀ w, w = v + (if J (C + 2) s.toNatClampNeg = m then 0 else 1) → a_at d (a_xm a_m14) 6 [some (a_rf (C + 1)), some (.int a), some (.int b), some (.int m), some (.int w), some (.int (s + 1))] [] (n, t, K, L, J2, R) P := by
    intro q J2 f1 f2 w hw
    refine ih (by grind) _ _ (by grind) (by grind) f1 (fun j => ?_) (hw.trans (hc q).symm)
    rw [f2, hm, hsb s (by grind) hs]
    by_cases hj : j = s.toNatClampNeg
    · rw [if_pos hj, if_pos (by omega)]
    · rw [if_neg hj]
      by_cases hj2 : a.toNatClampNeg ≤ j ∧ j < s.toNatClampNeg
      · rw [if_pos hj2, if_pos (by omega)]
      · rw [if_neg hj2, if_neg (by omega)]
  refine ⟨fun h => ?_, fun h => ?_⟩
  · have hsb1 : s = b + 1 := by grind
    rw [hv, hsb1, hsb b hb.1 (by grind)]
    refine hP J hx (fun j => ?_)
    rw [hm, hsb1, hsb b hb.1 (by grind)]
    by_cases hj : a.toNatClampNeg ≤ j ∧ j ≤ b.toNatClampNeg
    · rw [if_pos hj, if_pos (by omega)]
    · rw [if_neg hj, if_neg (by omega)]
  · have hsb2 : s ≤ b := by grind
    have hs2 : 0 ≤ s ∧ s < 200 := by grind
    have hn := hnext hsb2
    refine ⟨hs2, fun h2 => ?_, fun h2 => ⟨hs2, ?_⟩⟩
    · exact hn J hx (fun j => by split; rename_i e; rw [e]; exact h2; rfl) v (by rw [if_pos h2]; simp)
    · exact hn (a_ui J (C + 2) s.toNatClampNeg m) (fun x j e => by rw [ui_ap, if_neg (fun q => e q.1)]; exact hx x j e) (fun j => by rw [ui_ap]; simp) _ (by rw [if_neg h2])
theorem ke_mode (hH : cH C c (n + 1) t K L I R) {a b m : Int32} (h1 : ¬ ((0 ≤ a ∧ a < 200) ∧ (0 ≤ b ∧ b < 200) ∧ a ≤ b) → ∀ J, cZ C c (n + 1) K L I R (n + 1) t K L J R → P (some (.int (-1))) (n + 1, t, K, L, J, R)) (h2 : ((0 ≤ a ∧ a < 200) ∧ (0 ≤ b ∧ b < 200) ∧ a ≤ b) → (m < 0 ∨ 4 < m) → ∀ J, cZ C c (n + 1) K L I R (n + 1) t K L J R → P (some (.int (-2))) (n + 1, t, K, L, J, R)) (hP : ((0 ≤ a ∧ a < 200) ∧ (0 ≤ b ∧ b < 200) ∧ a ≤ b) → ¬ (m < 0 ∨ 4 < m) → ∀ J, cH C c (n + 1) t K L J R → (∀ x j, ¬ x = C + 2 → J x j = I x j) → (∀ j, J (C + 2) j = if a.toNatClampNeg ≤ j ∧ j ≤ b.toNatClampNeg then m else I (C + 2) j) → P (some (.int (cn (I (C + 2)) m a.toNatClampNeg (b.toNatClampNeg + 1 - a.toNatClampNeg)))) (n + 1, t, K, L, J, R)) : a_does (d + 70) 11 [a_rf C, .int a, .int b, .int m] (n + 1, t, K, L, I, R) P := by
  have hT := hH.1
  have hS := hT.s
  have hZ := cZ_refl hH
  have hgo : ((0 ≤ a ∧ a < 200) ∧ (0 ≤ b ∧ b < 200) ∧ a ≤ b) → ¬ (m < 0 ∨ 4 < m) → a_at (d + 69) (a_xm a_m11) 30 [some (a_rf C), some (.int a), some (.int b), some (.int m)] [] (n + 1, t, K, L, I, R) P := fun q1 q2 => by
    have hP := hP q1 q2
    have qa : 0 ≤ a ∧ a ≤ 199 := by clear hP h1 h2 hZ hH hT; grind
    have qb : 0 ≤ b ∧ b ≤ 199 := by clear hP h1 h2 hZ hH hT; grind
    simp only [q11_30, q11_31, q11_34, q11_35, q11_36, q11_37, k_0 hS, z_C hS, r_0_0 hS, k_1 hS, z_1, as_nil, as_i, as_r, Nat.reduceAdd, Nat.reduceLeDiff, z_eq0, z_eq1, z_or, z_em, Classical.not_not, not_false_eq_true, not_true_eq_false, true_and, and_true, false_and, and_false, and_self, true_implies, false_implies, implies_true, Option.toList_some, Option.toList_none, List.cons_append, List.nil_append, Nat.add_eq_zero_iff, a_nl_i, a_nl_r, a_nl_n, true_or, or_true, eq_self, a_isRA_22, a_isRA_24, a_isRA_32, a_isA_20, ok_4, ok_5, ok_6, ok_7, ok_9, ok_20, ok_21, ok_30, ok_50, ok_180, ok_192, ok_200]
    rw [a_enter1 (M := a_m14) rfl (a_cat_rf (a_cat_int (a_cat_int (a_cat_int a_cat_nil)))) (show 4 ≤ 6 by decide)]
    show a_at _ (a_xm a_m14) 0 [some (a_rf (C + 1)), some (.int a), some (.int b), some (.int m), none, none] [] _ _
    simp only [q14_0, q14_1, q14_3, q14_4, as_nil, as_i, as_r, Nat.reduceAdd, Nat.reduceLeDiff, z_eq0, z_eq1, z_or, z_em, Classical.not_not, not_false_eq_true, not_true_eq_false, true_and, and_true, false_and, and_false, and_self, true_implies, false_implies, implies_true, Option.toList_some, Option.toList_none, List.cons_append, List.nil_append, Nat.add_eq_zero_iff, a_nl_i, a_nl_r, a_nl_n, true_or, or_true, eq_self, a_isRA_22, a_isRA_24, a_isRA_32, a_isA_20, ok_4, ok_5, ok_6, ok_7, ok_9, ok_20, ok_21, ok_30, ok_50, ok_180, ok_192, ok_200]
    refine lk_change_6 hS qa qb q1.2.2 (fun J f1 f2 => ?_) a (by grind) 0 I (by grind) (by grind) (fun _ _ _ => rfl) (fun j => by rw [if_neg (by omega)]) (by rw [Nat.sub_self]; rfl)
    simp only [q11_40, as_nil, as_i, as_r, Nat.reduceAdd, Nat.reduceLeDiff, z_eq0, z_eq1, z_or, z_em, Classical.not_not, not_false_eq_true, not_true_eq_false, true_and, and_true, false_and, and_false, and_self, true_implies, false_implies, implies_true, Option.toList_some, Option.toList_none, List.cons_append, List.nil_append, Nat.add_eq_zero_iff, a_nl_i, a_nl_r, a_nl_n, true_or, or_true, eq_self, a_isRA_22, a_isRA_24, a_isRA_32, a_isA_20, ok_4, ok_5, ok_6, ok_7, ok_9, ok_20, ok_21, ok_30, ok_50, ok_180, ok_192, ok_200]
    exact hP J (cH_J hH (sT_fr (k := 2) hT (by decide) f1)) f1 f2
  have g1 : m < 0 → m < 0 ∨ 4 < m := Or.inl
  have g2 : ¬ m ≤ 4 → m < 0 ∨ 4 < m := fun h => Or.inr (Int32.not_le.mp h)
  have g3 : ¬ m < 0 → m ≤ 4 → ¬ (m < 0 ∨ 4 < m) := fun h h2 h3 => h3.elim h (fun h4 => absurd h2 (Int32.not_le.mpr h4))
  rw [a_enter1 (M := a_m11) rfl (a_cat_rf (a_cat_int (a_cat_int (a_cat_int a_cat_nil)))) (show 4 ≤ 4 by decide)]
  show a_at _ (a_xm a_m11) 0 [some (a_rf C), some (.int a), some (.int b), some (.int m)] [] _ _
  repeat' first
    | with_reducible apply And.intro
    | with_reducible assumption
    | with_reducible intro _
    | refine ck_refuse hZ (fun _ _ => ?_)
    | exact h1 (by assumption) _ (by assumption)
    | exact h2 (by assumption) (g1 (by assumption)) _ (by assumption)
    | exact h2 (by assumption) (g2 (by assumption)) _ (by assumption)
    | exact hgo (by assumption) (g3 (by assumption) (by assumption))
    | simp only [q11_0, q11_1, q11_2, q11_5, q11_8, q11_9, q11_10, q11_13, q11_14, q11_15, q11_18, q11_19, q11_20, q11_23, q11_24, q11_26, q11_29, k_0 hS, z_C hS, sp_areShifts, as_nil, as_i, as_r, Nat.reduceAdd, Nat.reduceLeDiff, z_eq0, z_eq1, z_or, z_em, Classical.not_not, not_false_eq_true, not_true_eq_false, true_and, and_true, false_and, and_false, and_self, true_implies, false_implies, implies_true, Option.toList_some, Option.toList_none, List.cons_append, List.nil_append, Nat.add_eq_zero_iff, a_nl_i, a_nl_r, a_nl_n, true_or, or_true, eq_self, a_isRA_22, a_isRA_24, a_isRA_32, a_isA_20, ok_4, ok_5, ok_6, ok_7, ok_9, ok_20, ok_21, ok_30, ok_50, ok_180, ok_192, ok_200]
  all_goals ((try clear hgo); (try clear h1); (try clear h2); (try clear hP); (try clear hZ); (try clear hH); (try clear hT); grind [ui_ap])
theorem ke_hours (hH : cH C c (n + 1) t K L I R) {v : Int32} (h1 : v < 0 → ∀ J, cZ C c (n + 1) K L I R (n + 1) t K L J R → P (some (.int (-4))) (n + 1, t, K, L, J, R)) (h2 : ¬ v < 0 → 1600 - I (C + 1) 6 < v → ∀ J, cZ C c (n + 1) K L I R (n + 1) t K L J R → P (some (.int (-6))) (n + 1, t, K, L, J, R)) (hP : ¬ v < 0 → ¬ 1600 - I (C + 1) 6 < v → cH C c (n + 1) t K L (a_ui I (C + 1) 6 (I (C + 1) 6 + v)) R → P (some (.int (I (C + 1) 6 + v))) (n + 1, t, K, L, (a_ui I (C + 1) 6 (I (C + 1) 6 + v)), R)) : a_does (d + 70) 9 [a_rf C, .int v] (n + 1, t, K, L, I, R) P := by
  have hT := hH.1
  have hS := hT.s
  have hZ := cZ_refl hH
  have g := hT.g_now
  have hc : ¬ v < 0 → ¬ 1600 - I (C + 1) 6 < v → cH C c (n + 1) t K L (a_ui I (C + 1) 6 (I (C + 1) 6 + v)) R := fun q1 q2 => cH_J hH (sT_Beam_now hT (by clear h1 h2 hP hZ hH hT hS; grind))
  rw [a_enter1 (M := a_m9) rfl (a_cat_rf (a_cat_int a_cat_nil)) (show 2 ≤ 2 by decide)]
  show a_at _ (a_xm a_m9) 0 [some (a_rf C), some (.int v)] [] _ _
  simp only [q9_0, q9_1, q9_4, q9_5, q9_7, q9_10, q9_11, q9_12, q9_15, q9_16, q9_19, q9_22, q9_23, q9_26, q9_27, q9_29, q9_32, q9_33, q9_34, q9_37, q9_38, q9_41, q9_42, q9_43, q9_46, q9_47, q9_50, q9_53, k_0 hS, z_C hS, r_0_0 hS, k_1 hS, z_1, as_nil, as_i, as_r, Nat.reduceAdd, Nat.reduceLeDiff, z_eq0, z_eq1, z_or, z_em, Classical.not_not, not_false_eq_true, not_true_eq_false, true_and, and_true, false_and, and_false, and_self, true_implies, false_implies, implies_true, Option.toList_some, Option.toList_none, List.cons_append, List.nil_append, Nat.add_eq_zero_iff, a_nl_i, a_nl_r, a_nl_n, true_or, or_true, eq_self, a_isRA_22, a_isRA_24, a_isRA_32, a_isA_20, ok_4, ok_5, ok_6, ok_7, ok_9, ok_20, ok_21, ok_30, ok_50, ok_180, ok_192, ok_200, ui_ap, cc_ne, cc_n0, cc_0n, Nat.reduceEqDiff, reduceIte, if_true, if_false]
  have hr4 : v < 0 → a_does (d + 69) 10 [a_rf C, .int (-4)] (n + 1, t, K, L, I, R) (fun r h' => a_at (d + 69) (a_xm a_m9) 10 [some (a_rf C), some (.int v)] (r.toList ++ []) h' P) := fun q => ck_refuse hZ (fun J z => by
    simp only [q9_10, as_nil, as_i, as_r, Nat.reduceAdd, Nat.reduceLeDiff, z_eq0, z_eq1, z_or, z_em, Classical.not_not, not_false_eq_true, not_true_eq_false, true_and, and_true, false_and, and_false, and_self, true_implies, false_implies, implies_true, Option.toList_some, Option.toList_none, List.cons_append, List.nil_append, Nat.add_eq_zero_iff, a_nl_i, a_nl_r, a_nl_n, true_or, or_true, eq_self, a_isRA_22, a_isRA_24, a_isRA_32, a_isA_20, ok_4, ok_5, ok_6, ok_7, ok_9, ok_20, ok_21, ok_30, ok_50, ok_180, ok_192, ok_200]
    exact h1 q J z)
  have hr6 : ¬ v < 0 → 1600 - I (C + 1) 6 < v → a_does (d + 69) 10 [a_rf C, .int (-6)] (n + 1, t, K, L, I, R) (fun r h' => a_at (d + 69) (a_xm a_m9) 32 [some (a_rf C), some (.int v)] (r.toList ++ []) h' P) := fun q q2 => ck_refuse hZ (fun J z => by
    simp only [q9_32, as_nil, as_i, as_r, Nat.reduceAdd, Nat.reduceLeDiff, z_eq0, z_eq1, z_or, z_em, Classical.not_not, not_false_eq_true, not_true_eq_false, true_and, and_true, false_and, and_false, and_self, true_implies, false_implies, implies_true, Option.toList_some, Option.toList_none, List.cons_append, List.nil_append, Nat.add_eq_zero_iff, a_nl_i, a_nl_r, a_nl_n, true_or, or_true, eq_self, a_isRA_22, a_isRA_24, a_isRA_32, a_isA_20, ok_4, ok_5, ok_6, ok_7, ok_9, ok_20, ok_21, ok_30, ok_50, ok_180, ok_192, ok_200]
    exact h2 q q2 J z)
  clear h1 h2
  clear hZ
  have hfin := fun q1 q2 => hP q1 q2 (hc q1 q2)
  clear hP hc
  clear hH hT hS
  grind
end KL
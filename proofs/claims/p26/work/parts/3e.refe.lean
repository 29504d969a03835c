/-! public methods 4 -/
section SE
variable {d n t M c : Nat} {K L : Nat → Nat} {I I0 J J0 J1 J2 : Nat → Nat → Int32} {R : Nat → Nat → Nat} {P : Option Value → AH → Prop}
theorem a_init_ril {r : Nat} {v : Int32} {w : Int64} : a_init [a_rf r, .int v, .long w] 5 = [some (a_rf r), some (.int v), some (.long w), none, none] := by
  by_cases hr : r = 0
  · subst hr; rfl
  · rw [a_rf_pos hr]; rfl
theorem a_init_ril4 {r : Nat} {v : Int32} {w : Int64} : a_init [a_rf r, .int v, .long w] 4 = [some (a_rf r), some (.int v), some (.long w), none] := by
  by_cases hr : r = 0
  · subst hr; rfl
  · rw [a_rf_pos hr]; rfl
theorem a_len_ril {r : Nat} {v : Int32} {w : Int64} : (lg_sl [a_rf r, .int v, .long w]).length = 4 := by
  by_cases hr : r = 0
  · subst hr; rfl
  · rw [a_rf_pos hr]; rfl
theorem pe_hours (hS : m_S M K L R) {v : Int32} (h1 : v < 1 → P (some (.int (-4))) (n, t, K, L, (a_ui I (M + 23) 4 (I (M + 23) 4 + 1)), R)) (h2 : ¬ v < 1 → 1600 - I M 0 < v → P (some (.int (-6))) (n, t, K, L, (a_ui I (M + 23) 6 (I (M + 23) 6 + 1)), R)) (h3 : ¬ v < 1 → ¬ 1600 - I M 0 < v → P (some (.int (I M 0 + v))) (n, t, K, L, (a_ui I M 0 (I M 0 + v)), R)) : a_does (d + 2) 170 [a_rf M, .int v] (n, t, K, L, I, R) P := by
  rw [a_enter1 (M := a_m170) rfl (a_cat_rf (a_cat_int a_cat_nil)) (show 2 ≤ 2 by decide)]
  show a_at _ (a_xm a_m170) 0 [some (a_rf M), some (.int v)] [] _ _
  simp only [q170_0, q170_1, q170_2, q170_5, q170_6, q170_8, q170_11, q170_12, q170_13, q170_16, q170_17, q170_20, q170_21, q170_24, q170_25, q170_27, q170_30, q170_31, q170_32, q170_33, q170_36, q170_37, q170_38, q170_41, q170_42, q170_45, m_0 hS, m_K hS, sp_refuse_1 hS, sp_refuse_2 hS, sp_refuse_3 hS, sp_refuse_4 hS, sp_refuse_5 hS, sp_refuse_6 hS, as_nil, as_i, as_r, Nat.reduceAdd, Nat.reduceLeDiff, z_eq0, z_eq1, z_or, z_em, Classical.not_not, not_false_eq_true, not_true_eq_false, true_and, and_true, false_and, and_false, and_self, true_implies, false_implies, implies_true, Option.toList_some, Option.toList_none, List.cons_append, List.nil_append, Nat.add_eq_zero_iff, a_nl_i, a_nl_r, a_nl_n, true_or, or_true, eq_self, ok_4, ok_5, ok_6, ok_7, ok_9, ok_10, ok_20, ok_21, ok_24, ok_30, ok_48, ok_50, ok_60, ok_80, ok_120, ok_180, ok_192, ok_200, ok_900, ok_1000, ok_84000, ui_ap, ne_MM, ne_M0, ne_0M, Nat.reduceEqDiff, reduceIte, if_true, if_false]
  grind
theorem pe_trip (hS : m_S M K L R) {h v : Int32} (hb : 0 ≤ I M 2 ∧ I M 2 ≤ 20) (h1 : (h < 0 ∨ v < 1) → P (some (.int (-4))) (n, t, K, L, (a_ui I (M + 23) 4 (I (M + 23) 4 + 1)), R)) (h2 : ¬ (h < 0 ∨ v < 1) → (I M 0 < h ∨ 60 < v ∨ I M 2 = 20) → P (some (.int (-6))) (n, t, K, L, (a_ui I (M + 23) 6 (I (M + 23) 6 + 1)), R)) (h3 : ¬ (h < 0 ∨ v < 1) → ¬ (I M 0 < h ∨ 60 < v ∨ I M 2 = 20) → P (some (.int (I M 2 + 1))) (n, t, K, L, (a_ui (a_ui (a_ui (a_ui I (M + 2) (I M 2).toNatClampNeg h) (M + 3) (I M 2).toNatClampNeg v) (M + 4) (I M 2).toNatClampNeg (I M 0)) M 2 (I M 2 + 1)), R)) : a_does (d + 2) 175 [a_rf M, .int h, .int v] (n, t, K, L, I, R) P := by
  rw [a_enter1 (M := a_m175) rfl (a_cat_rf (a_cat_int (a_cat_int a_cat_nil))) (show 3 ≤ 3 by decide)]
  show a_at _ (a_xm a_m175) 0 [some (a_rf M), some (.int h), some (.int v)] [] _ _
  simp only [q175_0, q175_1, q175_4, q175_5, q175_6, q175_9, q175_10, q175_12, q175_15, q175_16, q175_17, q175_18, q175_21, q175_24, q175_25, q175_27, q175_30, q175_31, q175_34, q175_36, q175_39, q175_40, q175_42, q175_45, q175_46, q175_47, q175_50, q175_51, q175_54, q175_55, q175_56, q175_57, q175_60, q175_61, q175_64, q175_65, q175_66, q175_67, q175_70, q175_71, q175_74, q175_75, q175_78, q175_79, q175_80, q175_81, q175_84, q175_85, q175_86, q175_89, q175_90, q175_93, m_0 hS, m_K hS, mR_tHour hS, mK_tHour hS, mL_tHour hS, mR_tMany hS, mK_tMany hS, mL_tMany hS, mR_tFound hS, mK_tFound hS, mL_tFound hS, sp_refuse_1 hS, sp_refuse_2 hS, sp_refuse_3 hS, sp_refuse_4 hS, sp_refuse_5 hS, sp_refuse_6 hS, as_nil, as_i, as_r, Nat.reduceAdd, Nat.reduceLeDiff, z_eq0, z_eq1, z_or, z_em, Classical.not_not, not_false_eq_true, not_true_eq_false, true_and, and_true, false_and, and_false, and_self, true_implies, false_implies, implies_true, Option.toList_some, Option.toList_none, List.cons_append, List.nil_append, Nat.add_eq_zero_iff, a_nl_i, a_nl_r, a_nl_n, true_or, or_true, eq_self, ok_4, ok_5, ok_6, ok_7, ok_9, ok_10, ok_20, ok_21, ok_24, ok_30, ok_48, ok_50, ok_60, ok_80, ok_120, ok_180, ok_192, ok_200, ok_900, ok_1000, ok_84000, ui_ap, ne_MM, ne_M0, ne_0M, Nat.reduceEqDiff, reduceIte, if_true, if_false]
  grind
theorem pe_bench (hS : m_S M K L R) {a b : Int32} (hb : 0 ≤ I M 6 ∧ I M 6 ≤ 6) (h1 : (a < 0 ∨ b < 0) → P (some (.int (-4))) (n, t, K, L, (a_ui I (M + 23) 4 (I (M + 23) 4 + 1)), R)) (h2 : ¬ (a < 0 ∨ b < 0) → (255 < a ∨ 255 < b ∨ I M 6 = 6) → P (some (.int (-6))) (n, t, K, L, (a_ui I (M + 23) 6 (I (M + 23) 6 + 1)), R)) (h3 : ¬ (a < 0 ∨ b < 0) → ¬ (255 < a ∨ 255 < b ∨ I M 6 = 6) → P (some (.int (I M 6 + 1 - 1))) (n, t, K, L, (a_ui (a_ui (a_ui I (M + 5) (I M 6).toNatClampNeg a) (M + 6) (I M 6).toNatClampNeg b) M 6 (I M 6 + 1)), R)) : a_does (d + 2) 178 [a_rf M, .int a, .int b] (n, t, K, L, I, R) P := by
  rw [a_enter1 (M := a_m178) rfl (a_cat_rf (a_cat_int (a_cat_int a_cat_nil))) (show 3 ≤ 3 by decide)]
  show a_at _ (a_xm a_m178) 0 [some (a_rf M), some (.int a), some (.int b)] [] _ _
  simp only [q178_0, q178_1, q178_4, q178_5, q178_8, q178_9, q178_11, q178_14, q178_15, q178_16, q178_19, q178_22, q178_23, q178_26, q178_29, q178_30, q178_33, q178_35, q178_38, q178_39, q178_41, q178_44, q178_45, q178_46, q178_49, q178_50, q178_53, q178_54, q178_55, q178_56, q178_59, q178_60, q178_63, q178_64, q178_65, q178_66, q178_67, q178_70, q178_71, q178_72, q178_75, q178_76, q178_79, q178_80, q178_81, m_0 hS, m_K hS, mR_can hS, mK_can hS, mL_can hS, mR_hostsOf hS, mK_hostsOf hS, mL_hostsOf hS, sp_refuse_1 hS, sp_refuse_2 hS, sp_refuse_3 hS, sp_refuse_4 hS, sp_refuse_5 hS, sp_refuse_6 hS, as_nil, as_i, as_r, Nat.reduceAdd, Nat.reduceLeDiff, z_eq0, z_eq1, z_or, z_em, Classical.not_not, not_false_eq_true, not_true_eq_false, true_and, and_true, false_and, and_false, and_self, true_implies, false_implies, implies_true, Option.toList_some, Option.toList_none, List.cons_append, List.nil_append, Nat.add_eq_zero_iff, a_nl_i, a_nl_r, a_nl_n, true_or, or_true, eq_self, ok_4, ok_5, ok_6, ok_7, ok_9, ok_10, ok_20, ok_21, ok_24, ok_30, ok_48, ok_50, ok_60, ok_80, ok_120, ok_180, ok_192, ok_200, ok_900, ok_1000, ok_84000, ui_ap, ne_MM, ne_M0, ne_0M, Nat.reduceEqDiff, reduceIte, if_true, if_false]
  grind
theorem pe_kin (hS : m_S M K L R) {r g : Int32} (h1 : ¬ ((0 ≤ r ∧ r ≤ 5) ∧ (0 ≤ g ∧ g ≤ 9)) → P (some (.int (-1))) (n, t, K, L, (a_ui I (M + 23) 1 (I (M + 23) 1 + 1)), R)) (h2 : (0 ≤ r ∧ r ≤ 5) → (0 ≤ g ∧ g ≤ 9) → P (some (.int (if I (M + 35) (10 * r + g).toNatClampNeg = 0 then 1 else 0))) (n, t, K, L, (a_ui I (M + 35) (10 * r + g).toNatClampNeg (1 &&& 1)), R)) : a_does (d + 3) 213 [a_rf M, .int r, .int g] (n, t, K, L, I, R) P := by
  rw [a_enter1 (M := a_m213) rfl (a_cat_rf (a_cat_int (a_cat_int a_cat_nil))) (show 3 ≤ 4 by decide)]
  show a_at _ (a_xm a_m213) 0 [some (a_rf M), some (.int r), some (.int g), none] [] _ _
  simp only [q213_0, q213_1, q213_4, q213_7, q213_8, q213_9, q213_11, q213_14, q213_17, q213_18, q213_19, q213_22, q213_23, q213_24, q213_27, q213_29, q213_30, q213_31, q213_32, q213_33, q213_34, q213_35, q213_36, q213_39, q213_41, q213_42, q213_43, q213_44, q213_45, q213_46, q213_47, q213_48, q213_51, q213_52, q213_55, q213_56, m_0 hS, m_K hS, mR_isKin hS, mK_isKin hS, mL_isKin hS, sp_isReader, sp_in, sp_refuse_1 hS, sp_refuse_2 hS, sp_refuse_3 hS, sp_refuse_4 hS, sp_refuse_5 hS, sp_refuse_6 hS, as_nil, as_i, as_r, Nat.reduceAdd, Nat.reduceLeDiff, z_eq0, z_eq1, z_or, z_em, Classical.not_not, not_false_eq_true, not_true_eq_false, true_and, and_true, false_and, and_false, and_self, true_implies, false_implies, implies_true, Option.toList_some, Option.toList_none, List.cons_append, List.nil_append, Nat.add_eq_zero_iff, a_nl_i, a_nl_r, a_nl_n, true_or, or_true, eq_self, ok_4, ok_5, ok_6, ok_7, ok_9, ok_10, ok_20, ok_21, ok_24, ok_30, ok_48, ok_50, ok_60, ok_80, ok_120, ok_180, ok_192, ok_200, ok_900, ok_1000, ok_84000, ui_ap, ne_MM, ne_M0, ne_0M, Nat.reduceEqDiff, reduceIte, if_true, if_false]
  grind
theorem pe_set (hS : m_S M K L R) {w v : Int32} (h0 : ¬ (0 ≤ w ∧ w ≤ 2) → P (some (.int (-2))) (n, t, K, L, (a_ui I (M + 23) 2 (I (M + 23) 2 + 1)), R)) (h1 : (0 ≤ w ∧ w ≤ 2) → v < 0 → P (some (.int (-4))) (n, t, K, L, (a_ui I (M + 23) 4 (I (M + 23) 4 + 1)), R)) (h2 : (0 ≤ w ∧ w ≤ 2) → ¬ v < 0 → ((w = 0 ∧ 3 < v) ∨ (w = 1 ∧ 100 < v) ∨ (w = 2 ∧ 1 < v)) → P (some (.int (-6))) (n, t, K, L, (a_ui I (M + 23) 6 (I (M + 23) 6 + 1)), R)) (h3 : w = 0 → ¬ v < 0 → ¬ 3 < v → P (some (.int (I M 9))) (n, t, K, L, (a_ui (a_ui (a_ui I M 9 v) M 10 (I M 10)) M 11 (I M 11)), R)) (h4 : w = 1 → ¬ v < 0 → ¬ 100 < v → P (some (.int (I M 10))) (n, t, K, L, (a_ui (a_ui (a_ui I M 9 (I M 9)) M 10 v) M 11 (I M 11)), R)) (h5 : w = 2 → ¬ v < 0 → ¬ 1 < v → P (some (.int (I M 11))) (n, t, K, L, (a_ui (a_ui (a_ui I M 9 (I M 9)) M 10 (I M 10)) M 11 v), R)) : a_does (d + 2) 179 [a_rf M, .int w, .int v] (n, t, K, L, I, R) P := by
  rw [a_enter1 (M := a_m179) rfl (a_cat_rf (a_cat_int (a_cat_int a_cat_nil))) (show 3 ≤ 4 by decide)]
  show a_at _ (a_xm a_m179) 0 [some (a_rf M), some (.int w), some (.int v), none] [] _ _
  repeat' first
    | with_reducible apply And.intro
    | with_reducible assumption
    | with_reducible intro _
    | with_reducible apply h0
    | with_reducible apply h1
    | with_reducible apply h2
    | with_reducible apply h3
    | with_reducible apply h4
    | with_reducible apply h5
    | simp only [q179_0, q179_1, q179_2, q179_3, q179_6, q179_9, q179_10, q179_12, q179_15, q179_16, q179_17, q179_20, q179_21, q179_23, q179_26, q179_27, q179_28, q179_29, q179_32, q179_33, q179_36, q179_37, q179_38, q179_41, q179_43, q179_46, q179_47, q179_50, q179_51, q179_53, q179_56, q179_57, q179_58, q179_61, q179_62, q179_65, q179_68, q179_69, q179_70, q179_73, q179_74, q179_77, q179_80, q179_81, q179_84, q179_85, q179_86, q179_87, q179_90, q179_91, q179_94, q179_95, q179_98, q179_101, q179_102, q179_103, q179_104, q179_107, q179_108, q179_111, q179_112, q179_115, q179_118, q179_119, q179_120, q179_121, q179_124, q179_125, q179_128, q179_129, q179_132, q179_135, q179_136, m_0 hS, m_K hS, sp_in, sp_refuse_1 hS, sp_refuse_2 hS, sp_refuse_3 hS, sp_refuse_4 hS, sp_refuse_5 hS, sp_refuse_6 hS, as_nil, as_i, as_r, Nat.reduceAdd, Nat.reduceLeDiff, z_eq0, z_eq1, z_or, z_em, Classical.not_not, not_false_eq_true, not_true_eq_false, true_and, and_true, false_and, and_false, and_self, true_implies, false_implies, implies_true, Option.toList_some, Option.toList_none, List.cons_append, List.nil_append, Nat.add_eq_zero_iff, a_nl_i, a_nl_r, a_nl_n, true_or, or_true, eq_self, ok_4, ok_5, ok_6, ok_7, ok_9, ok_10, ok_20, ok_21, ok_24, ok_30, ok_48, ok_50, ok_60, ok_80, ok_120, ok_180, ok_192, ok_200, ok_900, ok_1000, ok_84000, ui_ap, ne_MM, ne_M0, ne_0M, Nat.reduceEqDiff, reduceIte, if_true, if_false]
  all_goals grind [ui_ap]
/-- how many of n from lo on are not m -/
def cn (f : Nat → Int32) (m : Int32) (lo : Nat) : Nat → Int32
  | 0 => 0
  | k + 1 => cn f m lo k + (if f (lo + k) = m then 0 else 1)
theorem lp_mode_47 (hS : m_S M K L R) {a b m : Int32} (ha : 0 ≤ a ∧ a ≤ 199) (hb : 0 ≤ b ∧ b ≤ 199) (hab : a ≤ b) (hP : ∀ J, (∀ x j, ¬ x = (M + 1) → J x j = I x j) → (∀ j, J (M + 1) j = if a.toNatClampNeg ≤ j ∧ j ≤ b.toNatClampNeg then m else I (M + 1) j) → P (some (.int (cn (I (M + 1)) m a.toNatClampNeg (b.toNatClampNeg + 1 - a.toNatClampNeg)))) (n, t, K, L, J, R)) : ∀ s : Int32, s ≤ 200 → ∀ v J, a ≤ s → s ≤ b + 1 → (∀ x j, ¬ x = (M + 1) → J x j = I x j) → (∀ j, J (M + 1) j = if a.toNatClampNeg ≤ j ∧ j < s.toNatClampNeg then m else I (M + 1) j) → v = cn (I (M + 1)) m a.toNatClampNeg (s.toNatClampNeg - a.toNatClampNeg) → a_at d (a_xm a_m172) 47 [some (a_rf M), some (.int a), some (.int b), some (.int m), some (.int v), some (.int s)] [] (n, t, K, L, J, R) P := by
  refine up_ind 200 (fun s hs ih => ?_)
  intro v J h0 h1 hx hm hv
  rw [q172_47]
  simp only [q172_49, q172_50, q172_53, q172_55, q172_56, q172_59, q172_61, q172_62, q172_63, q172_66, q172_67, q172_70, q172_71, q172_72, q172_74, q172_75, q172_78, q172_80, q172_81, q172_82, q172_85, q172_88, q172_90, m_0 hS, m_K hS, mR_modes hS, mK_modes hS, mL_modes hS, as_nil, as_i, as_r, Nat.reduceAdd, Nat.reduceLeDiff, z_eq0, z_eq1, z_or, z_em, Classical.not_not, not_false_eq_true, not_true_eq_false, true_and, and_true, false_and, and_false, and_self, true_implies, false_implies, implies_true, Option.toList_some, Option.toList_none, List.cons_append, List.nil_append, Nat.add_eq_zero_iff, a_nl_i, a_nl_r, a_nl_n, true_or, or_true, eq_self, ok_4, ok_5, ok_6, ok_7, ok_9, ok_10, ok_20, ok_21, ok_24, ok_30, ok_48, ok_50, ok_60, ok_80, ok_120, ok_180, ok_192, ok_200, ok_900, ok_1000, ok_84000]
  have hsb : ∀ x : Int32, 0 ≤ x → x ≤ 200 → (x + 1).toNatClampNeg = x.toNatClampNeg + 1 := fun x q1 q2 => cl_up q1 (by grind)
  have hle : ∀ {x y : Int32}, 0 ≤ x → x ≤ y → x.toNatClampNeg ≤ y.toNatClampNeg := fun {x y} q1 q2 => by
    by_cases h : x = y
    · rw [h]; exact Nat.le_refl _
    · exact Nat.le_of_lt (cl_lt q1 (by grind))
  have h3 := hle ha.1 h0
  have hc : s ≤ b → cn (I (M + 1)) m a.toNatClampNeg ((s + 1).toNatClampNeg - a.toNatClampNeg) = v + (if J (M + 1) s.toNatClampNeg = m then 0 else 1) := by
    intro q
    rw [hsb s (by grind) hs, show s.toNatClampNeg + 1 - a.toNatClampNeg = (s.toNatClampNeg - a.toNatClampNeg) + 1 by omega, show J (M + 1) s.toNatClampNeg = I (M + 1) s.toNatClampNeg by rw [hm, if_neg (by omega)], hv]
    show _ + (if I (M + 1) (a.toNatClampNeg + (s.toNatClampNeg - a.toNatClampNeg)) = m then 0 else 1) = _
    rw [show a.toNatClampNeg + (s.toNatClampNeg - a.toNatClampNeg) = s.toNatClampNeg by omega]
  have hn : s ≤ b → a_at d (a_xm a_m172) 47 [some (a_rf M), some (.int a), some (.int b), some (.int m), some (.int (v + (if J (M + 1) s.toNatClampNeg = m then 0 else 1))), some (.int (s + 1))] [] (n, t, K, L, (a_ui J (M + 1) s.toNatClampNeg m), R) P := by
    intro q
    refine ih (by grind) _ _ (by grind) (by grind) (fun x j hxm => by rw [ui_ap, if_neg (by omega)]; exact hx x j hxm) (fun j => ?_) (hc q).symm
    rw [ui_ap, hm, hsb s (by grind) hs]
    by_cases hj : j = s.toNatClampNeg
    · rw [if_pos ⟨rfl, hj⟩, if_pos (by omega)]
    · rw [if_neg (by omega)]
      by_cases hj2 : a.toNatClampNeg ≤ j ∧ j < s.toNatClampNeg
      · rw [if_pos hj2, if_pos (by omega)]
      · rw [if_neg hj2, if_neg (by omega)]
  refine ⟨fun h => ?_, fun h => ?_⟩
  · have hsb1 : s = b + 1 := by grind
    rw [hv, hsb1, hsb b hb.1 (by grind)]
    refine hP J hx (fun j => ?_)
    rw [hm, hsb1, hsb b hb.1 (by grind)]
    by_cases hj : a.toNatClampNeg ≤ j ∧ j ≤ b.toNatClampNeg
    · rw [if_pos hj, if_pos (by omega)]
    · rw [if_neg hj, if_neg (by omega)]
  · have hn2 := hn (by grind)
    grind
theorem pe_mode (hS : m_S M K L R) {a b m : Int32} (h1 : ¬ ((0 ≤ a ∧ a ≤ 199) ∧ (0 ≤ b ∧ b ≤ 199) ∧ a ≤ b) → P (some (.int (-1))) (n, t, K, L, (a_ui I (M + 23) 1 (I (M + 23) 1 + 1)), R)) (h2 : ((0 ≤ a ∧ a ≤ 199) ∧ (0 ≤ b ∧ b ≤ 199) ∧ a ≤ b) → ¬ (0 ≤ m ∧ m ≤ 4) → P (some (.int (-2))) (n, t, K, L, (a_ui I (M + 23) 2 (I (M + 23) 2 + 1)), R)) (hP : ((0 ≤ a ∧ a ≤ 199) ∧ (0 ≤ b ∧ b ≤ 199) ∧ a ≤ b) → (0 ≤ m ∧ m ≤ 4) → ∀ J, (∀ x j, ¬ x = (M + 1) → J x j = I x j) → (∀ j, J (M + 1) j = if a.toNatClampNeg ≤ j ∧ j ≤ b.toNatClampNeg then m else I (M + 1) j) → P (some (.int (cn (I (M + 1)) m a.toNatClampNeg (b.toNatClampNeg + 1 - a.toNatClampNeg)))) (n, t, K, L, J, R)) : a_does (d + 3) 172 [a_rf M, .int a, .int b, .int m] (n, t, K, L, I, R) P := by
  rw [a_enter1 (M := a_m172) rfl (a_cat_rf (a_cat_int (a_cat_int (a_cat_int a_cat_nil)))) (show 4 ≤ 6 by decide)]
  show a_at _ (a_xm a_m172) 0 [some (a_rf M), some (.int a), some (.int b), some (.int m), none, none] [] _ _
  simp only [q172_0, q172_1, q172_4, q172_7, q172_8, q172_11, q172_14, q172_15, q172_16, q172_19, q172_20, q172_21, q172_24, q172_25, q172_26, q172_27, q172_28, q172_31, q172_34, q172_35, q172_37, q172_40, q172_41, q172_42, q172_44, q172_45, m_0 hS, m_K hS, sp_isShift, sp_refuse_1 hS, sp_refuse_2 hS, sp_refuse_3 hS, sp_refuse_4 hS, sp_refuse_5 hS, sp_refuse_6 hS, sp_in, as_nil, as_i, as_r, Nat.reduceAdd, Nat.reduceLeDiff, z_eq0, z_eq1, z_or, z_em, Classical.not_not, not_false_eq_true, not_true_eq_false, true_and, and_true, false_and, and_false, and_self, true_implies, false_implies, implies_true, Option.toList_some, Option.toList_none, List.cons_append, List.nil_append, Nat.add_eq_zero_iff, a_nl_i, a_nl_r, a_nl_n, true_or, or_true, eq_self, ok_4, ok_5, ok_6, ok_7, ok_9, ok_10, ok_20, ok_21, ok_24, ok_30, ok_48, ok_50, ok_60, ok_80, ok_120, ok_180, ok_192, ok_200, ok_900, ok_1000, ok_84000]
  have hz : (0 ≤ a ∧ a ≤ 199) ∧ (0 ≤ b ∧ b ≤ 199) ∧ a ≤ b → (0 ≤ m ∧ m ≤ 4) → a_at (d + 2) (a_xm a_m172) 47 [some (a_rf M), some (.int a), some (.int b), some (.int m), some (.int 0), some (.int a)] [] (n, t, K, L, I, R) P := by
    intro q1 q2
    refine lp_mode_47 hS q1.1 q1.2.1 q1.2.2 (hP q1 q2) a (by grind) 0 I (by grind) (by grind) (fun _ _ _ => rfl) (fun j => by rw [if_neg (by omega)]) (by rw [Nat.sub_self]; rfl)
  grind
theorem lp_check_75 (hS : m_S M K L R) (hR : mR M I) {b a k m : Int32} (hm : m ≤ 21) (hP : ∀ v, P (some (.int v)) (n, t, K, L, I, R)) : ∀ i : Int32, i ≤ 21 → 0 ≤ i → a_at (d + 1) (a_xm a_m260) 75 [some (a_rf M), some (.int b), some (.int a), some (.int k), some (.int m), some (.int i)] [] (n, t, K, L, I, R) P := by
  refine up_ind 21 (fun i hi ih => ?_)
  intro h0
  rw [q260_75]
  repeat' first
    | with_reducible apply And.intro
    | with_reducible assumption
    | with_reducible intro _
    | with_reducible apply ih
    | with_reducible apply hP
    | with_reducible apply ct_hadAt hS hR
    | simp only [q260_77, q260_79, q260_82, q260_83, q260_86, q260_88, q260_89, q260_90, q260_91, q260_92, q260_94, q260_95, q260_96, q260_99, q260_102, q260_104, q260_105, q260_108, q260_111, q260_113, m_0 hS, m_K hS, mR_row hS, mK_row hS, mL_row hS, as_nil, as_i, as_r, Nat.reduceAdd, Nat.reduceLeDiff, z_eq0, z_eq1, z_or, z_em, Classical.not_not, not_false_eq_true, not_true_eq_false, true_and, and_true, false_and, and_false, and_self, true_implies, false_implies, implies_true, Option.toList_some, Option.toList_none, List.cons_append, List.nil_append, Nat.add_eq_zero_iff, a_nl_i, a_nl_r, a_nl_n, true_or, or_true, eq_self, ok_4, ok_5, ok_6, ok_7, ok_9, ok_10, ok_20, ok_21, ok_24, ok_30, ok_48, ok_50, ok_60, ok_80, ok_120, ok_180, ok_192, ok_200, ok_900, ok_1000, ok_84000]
  all_goals grind [ui_ap]
theorem pe_check (hS : m_S M K L R) (hR : mR M I) {b a k : Int32} (h1 : ¬ ((0 ≤ b ∧ b ≤ I M 6 - 1) ∧ (0 ≤ a ∧ a ≤ 199) ∧ a + I M 79 - 1 ≤ 199) → P (some (.int (-1))) (n, t, K, L, (a_ui I (M + 23) 1 (I (M + 23) 1 + 1)), R)) (h2 : (0 ≤ b ∧ b ≤ I M 6 - 1) ∧ (0 ≤ a ∧ a ≤ 199) ∧ a + I M 79 - 1 ≤ 199 → k < 0 → P (some (.int (-4))) (n, t, K, L, (a_ui I (M + 23) 4 (I (M + 23) 4 + 1)), R)) (h3 : (0 ≤ b ∧ b ≤ I M 6 - 1) ∧ (0 ≤ a ∧ a ≤ 199) ∧ a + I M 79 - 1 ≤ 199 → ¬ k < 0 → I M 0 < k → P (some (.int (-6))) (n, t, K, L, (a_ui I (M + 23) 6 (I (M + 23) 6 + 1)), R)) (hP : (0 ≤ b ∧ b ≤ I M 6 - 1) ∧ (0 ≤ a ∧ a ≤ 199) ∧ a + I M 79 - 1 ≤ 199 → ¬ k < 0 → ¬ I M 0 < k → ∀ v, P (some (.int v)) (n, t, K, L, (a_ui I M 79 0), R)) : a_does (d + 3) 260 [a_rf M, .int b, .int a, .int k] (n, t, K, L, I, R) P := by
  have g1 := rg_rowMany hR
  rw [a_enter1 (M := a_m260) rfl (a_cat_rf (a_cat_int (a_cat_int (a_cat_int a_cat_nil)))) (show 4 ≤ 6 by decide)]
  show a_at _ (a_xm a_m260) 0 [some (a_rf M), some (.int b), some (.int a), some (.int k), none, none] [] _ _
  have hz : (0 ≤ b ∧ b ≤ I M 6 - 1) ∧ (0 ≤ a ∧ a ≤ 199) ∧ a + I M 79 - 1 ≤ 199 → ¬ k < 0 → ¬ I M 0 < k → a_at (d + 2) (a_xm a_m260) 75 [some (a_rf M), some (.int b), some (.int a), some (.int k), some (.int (I M 79)), some (.int 0)] [] (n, t, K, L, (a_ui I M 79 0), R) P := fun q1 q2 q3 => lp_check_75 hS (sR_rowMany hR (by decide)) g1.2 (hP q1 q2 q3) 0 (by decide) (by decide)
  simp only [q260_0, q260_1, q260_2, q260_5, q260_8, q260_9, q260_12, q260_15, q260_16, q260_17, q260_20, q260_21, q260_22, q260_23, q260_26, q260_29, q260_30, q260_31, q260_34, q260_35, q260_36, q260_39, q260_40, q260_42, q260_45, q260_46, q260_47, q260_48, q260_51, q260_54, q260_55, q260_57, q260_60, q260_61, q260_62, q260_65, q260_67, q260_68, q260_69, q260_72, q260_73, m_0 hS, m_K hS, sp_isBench hS, sp_isShift, sp_refuse_1 hS, sp_refuse_2 hS, sp_refuse_3 hS, sp_refuse_4 hS, sp_refuse_5 hS, sp_refuse_6 hS, as_nil, as_i, as_r, Nat.reduceAdd, Nat.reduceLeDiff, z_eq0, z_eq1, z_or, z_em, Classical.not_not, not_false_eq_true, not_true_eq_false, true_and, and_true, false_and, and_false, and_self, true_implies, false_implies, implies_true, Option.toList_some, Option.toList_none, List.cons_append, List.nil_append, Nat.add_eq_zero_iff, a_nl_i, a_nl_r, a_nl_n, true_or, or_true, eq_self, ok_4, ok_5, ok_6, ok_7, ok_9, ok_10, ok_20, ok_21, ok_24, ok_30, ok_48, ok_50, ok_60, ok_80, ok_120, ok_180, ok_192, ok_200, ok_900, ok_1000, ok_84000, ui_ap, ne_MM, ne_M0, ne_0M, Nat.reduceEqDiff, reduceIte, if_true, if_false]
  grind
end SE

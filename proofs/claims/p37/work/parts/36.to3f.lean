section
/-! what holds, what fits -/
section RV
variable {d n t M : Nat} {K L : Nat → Nat} {I I0 : Nat → Nat → Int32} {R : Nat → Nat → Nat} {P : Option Value → AH → Prop}
theorem ct_readRule (hS : m_S M K L R) (hC : mC M I0 I) (hat : 0 ≤ I M 49 ∧ I M 49 ≤ 52) (he : I M 48 ≤ 50) (hba : 0 ≤ I M 47 ∧ I M 47 ≤ 950) (hP : ∀ v J, mC M I0 J → J M 48 = I M 48 → (v = 0 ∨ v = 1) → P (some (.int v)) (n, t, K, L, J, R)) : a_does (d + 5) 202 [a_rf M] (n, t, K, L, I, R) P := by
  rw [a_enter1 (M := a_m202) rfl (a_cat_rf a_cat_nil) (show 1 ≤ 3 by decide)]
  show a_at _ (a_xm a_m202) 0 [some (a_rf M), none, none] [] _ _
  simp only [q202_0, q202_1, q202_2, q202_5, q202_6, q202_7, q202_10, q202_11, q202_12, q202_15, q202_16, m_0 hS, m_K hS, as_nil, as_i, as_r, Nat.reduceAdd, Nat.reduceLeDiff, z_eq0, z_eq1, z_or, z_em, Classical.not_not, not_false_eq_true, not_true_eq_false, true_and, and_true, false_and, and_false, and_self, true_implies, false_implies, implies_true, Option.toList_some, Option.toList_none, List.cons_append, List.nil_append, Nat.add_eq_zero_iff, a_nl_i, a_nl_r, a_nl_n, true_or, or_true, eq_self, ok_4, ok_5, ok_6, ok_7, ok_9, ok_10, ok_20, ok_21, ok_24, ok_30, ok_48, ok_50, ok_60, ok_80, ok_120, ok_180, ok_192, ok_200, ok_900, ok_1000, ok_84000]
  have hz1 : (1 : Int32) - 1 = 0 := by decide
  have hf : (a_ui (a_ui (a_ui I M 51 0) M 54 0) M 56 0) (M + 34) = I (M + 34) := by funext j; simp [ui_ap]
  have hb : bci (I (M + 34)) 0 = 0 := rfl
  refine lp_readRule_17 hS (e := I M 48) he hP _ hat.2 _ 1 _ (by simp [ui_ap]) (Or.inr rfl) (rW_i (sC_signMany (sC_valueMany (sC_deep hC))) ?_ ?_ ?_ ?_ (by simp [ui_ap, hf, hb])) <;> grind [ui_ap]
theorem ct_open (hS : m_S M K L R) (hC : mC M I0 I) {a : Int32} (ha : 0 ≤ a ∧ a < 20) (hP : ∀ J, mC M I0 J → J M 49 = 2 → J M 48 ≤ 50 → (0 ≤ J M 47 ∧ J M 47 ≤ 950) → P none (n, t, K, L, J, R)) : a_does (d + 1) 195 [a_rf M, .int a] (n, t, K, L, I, R) P := by
  have g1 := rg_writtenMany hC.1
  rw [a_enter1 (M := a_m195) rfl (a_cat_rf (a_cat_int a_cat_nil)) (show 2 ≤ 2 by decide)]
  show a_at _ (a_xm a_m195) 0 [some (a_rf M), some (.int a)] [] _ _
  repeat' first
    | with_reducible apply And.intro
    | with_reducible assumption
    | with_reducible intro _
    | with_reducible apply hP
    | with_reducible apply sC_facts
    | with_reducible apply sC_values
    | with_reducible apply sC_signs
    | with_reducible apply sC_isTold
    | with_reducible apply sC_base
    | with_reducible apply sC_end
    | with_reducible apply sC_at
    | with_reducible apply sC_isBad
    | with_reducible apply sC_deep
    | with_reducible apply sC_valueMany
    | with_reducible apply sC_signMany
    | simp only [q195_0, q195_1, q195_2, q195_5, q195_6, q195_8, q195_9, q195_10, q195_13, q195_14, q195_15, q195_18, q195_19, q195_20, q195_23, q195_24, q195_25, q195_28, q195_29, q195_30, q195_33, m_0 hS, m_K hS, mR_writtenMany hS, mK_writtenMany hS, mL_writtenMany hS, as_nil, as_i, as_r, Nat.reduceAdd, Nat.reduceLeDiff, z_eq0, z_eq1, z_or, z_em, Classical.not_not, not_false_eq_true, not_true_eq_false, true_and, and_true, false_and, and_false, and_self, true_implies, false_implies, implies_true, Option.toList_some, Option.toList_none, List.cons_append, List.nil_append, Nat.add_eq_zero_iff, a_nl_i, a_nl_r, a_nl_n, true_or, or_true, eq_self, ok_4, ok_5, ok_6, ok_7, ok_9, ok_10, ok_20, ok_21, ok_24, ok_30, ok_48, ok_50, ok_60, ok_80, ok_120, ok_180, ok_192, ok_200, ok_900, ok_1000, ok_84000, ui_ap, ne_MM, ne_M0, ne_0M, Nat.reduceEqDiff, reduceIte, if_true, if_false]
  all_goals grind [ui_ap]
theorem ct_doesHold (hS : m_S M K L R) (hC : mC M I0 I) {a : Int32} (ha : 0 ≤ a ∧ a < 20) (hP : ∀ v J, mC M I0 J → P (some (.int v)) (n, t, K, L, J, R)) : a_does (d + 6) 211 [a_rf M, .int a] (n, t, K, L, I, R) P := by
  rw [a_enter1 (M := a_m211) rfl (a_cat_rf (a_cat_int a_cat_nil)) (show 2 ≤ 2 by decide)]
  show a_at _ (a_xm a_m211) 0 [some (a_rf M), some (.int a)] [] _ _
  repeat' first
    | with_reducible apply And.intro
    | with_reducible assumption
    | with_reducible intro _
    | with_reducible apply hP
    | with_reducible apply ct_open hS hC ha
    | with_reducible apply ct_readRule hS (I0 := I0)
    | simp only [q211_0, q211_1, q211_2, q211_5, q211_6, q211_9, m_0 hS, m_K hS, as_nil, as_i, as_r, Nat.reduceAdd, Nat.reduceLeDiff, z_eq0, z_eq1, z_or, z_em, Classical.not_not, not_false_eq_true, not_true_eq_false, true_and, and_true, false_and, and_false, and_self, true_implies, false_implies, implies_true, Option.toList_some, Option.toList_none, List.cons_append, List.nil_append, Nat.add_eq_zero_iff, a_nl_i, a_nl_r, a_nl_n, true_or, or_true, eq_self, ok_4, ok_5, ok_6, ok_7, ok_9, ok_10, ok_20, ok_21, ok_24, ok_30, ok_48, ok_50, ok_60, ok_80, ok_120, ok_180, ok_192, ok_200, ok_900, ok_1000, ok_84000]
  all_goals grind [ui_ap]
theorem ct_findFacts (hS : m_S M K L R) (hC : mC M I0 I) {a b s l : Int32} (ha : 0 ≤ a ∧ a < 30) (hP : ∀ J, mC M I0 J → P none (n, t, K, L, J, R)) : a_does (d + 3) 192 [a_rf M, .int a, .int b, .int s, .int l] (n, t, K, L, I, R) P := by
  have hR := hC.1
  rw [a_enter1 (M := a_m192) rfl (a_cat_rf (a_cat_int (a_cat_int (a_cat_int (a_cat_int a_cat_nil))))) (show 5 ≤ 5 by decide)]
  show a_at _ (a_xm a_m192) 0 [some (a_rf M), some (.int a), some (.int b), some (.int s), some (.int l)] [] _ _
  repeat' first
    | with_reducible apply And.intro
    | with_reducible assumption
    | with_reducible intro _
    | with_reducible apply hP
    | with_reducible apply ct_markFor hS
    | with_reducible apply sR_facts
    | with_reducible apply sC_facts
    | with_reducible apply sC_values
    | with_reducible apply sC_signs
    | with_reducible apply sC_isTold
    | with_reducible apply sC_base
    | with_reducible apply sC_end
    | with_reducible apply sC_at
    | with_reducible apply sC_isBad
    | with_reducible apply sC_deep
    | with_reducible apply sC_valueMany
    | with_reducible apply sC_signMany
    | simp only [q192_0, q192_1, q192_4, q192_5, q192_6, q192_9, q192_10, q192_11, q192_12, q192_13, q192_16, q192_17, q192_18, q192_21, q192_22, q192_23, q192_24, q192_25, q192_28, q192_29, q192_30, q192_33, q192_34, q192_35, q192_36, q192_37, q192_40, q192_41, q192_42, q192_45, q192_46, q192_47, q192_48, q192_49, q192_52, q192_53, q192_54, q192_57, q192_58, q192_59, q192_60, q192_61, q192_64, q192_65, q192_66, q192_67, q192_70, q192_73, q192_74, q192_77, q192_78, q192_79, q192_82, q192_83, q192_84, q192_87, q192_89, q192_90, q192_91, q192_92, q192_95, q192_97, q192_98, q192_99, q192_100, q192_103, q192_105, q192_107, q192_108, m_0 hS, m_K hS, mR_facts hS, mK_facts hS, mL_facts hS, mR_kind hS, mK_kind hS, mL_kind hS, mR_group hS, mK_group hS, mL_group hS, mR_land hS, mK_land hS, mL_land hS, mR_length hS, mK_length hS, mL_length hS, mR_danger hS, mK_danger hS, mL_danger hS, as_nil, as_i, as_r, Nat.reduceAdd, Nat.reduceLeDiff, z_eq0, z_eq1, z_or, z_em, Classical.not_not, not_false_eq_true, not_true_eq_false, true_and, and_true, false_and, and_false, and_self, true_implies, false_implies, implies_true, Option.toList_some, Option.toList_none, List.cons_append, List.nil_append, Nat.add_eq_zero_iff, a_nl_i, a_nl_r, a_nl_n, true_or, or_true, eq_self, ok_4, ok_5, ok_6, ok_7, ok_9, ok_10, ok_20, ok_21, ok_24, ok_30, ok_48, ok_50, ok_60, ok_80, ok_120, ok_180, ok_192, ok_200, ok_900, ok_1000, ok_84000]
  all_goals grind [ui_ap]
theorem lp_holding_12 (hS : m_S M K L R) {g a b s : Int32} (hP : ∀ v J, mC M I0 J → P (some (.int v)) (n, t, K, L, J, R)) : ∀ i : Int32, i ≤ 20 → ∀ J, 0 ≤ i → mC M I0 J → a_at (d + 6) (a_xm a_m210) 12 [some (a_rf M), some (.int g), some (.int a), some (.int b), some (.int s), some (.int i)] [] (n, t, K, L, J, R) P := by
  refine up_ind 20 (fun i hi ih => ?_)
  intro J h0 hC
  have g1 := rg_texts hC.1
  rw [q210_12]
  repeat' first
    | with_reducible apply And.intro
    | with_reducible assumption
    | with_reducible intro _
    | with_reducible apply ih
    | with_reducible apply hP
    | with_reducible apply ct_doesHold hS (I0 := I0)
    | simp only [q210_0, q210_1, q210_2, q210_3, q210_5, q210_6, q210_9, q210_10, q210_14, q210_15, q210_18, q210_21, q210_22, q210_24, q210_25, q210_27, q210_30, q210_33, q210_34, q210_36, q210_39, q210_42, q210_44, q210_45, q210_48, q210_51, q210_53, m_0 hS, m_K hS, sp_isInForce hS, as_nil, as_i, as_r, Nat.reduceAdd, Nat.reduceLeDiff, z_eq0, z_eq1, z_or, z_em, Classical.not_not, not_false_eq_true, not_true_eq_false, true_and, and_true, false_and, and_false, and_self, true_implies, false_implies, implies_true, Option.toList_some, Option.toList_none, List.cons_append, List.nil_append, Nat.add_eq_zero_iff, a_nl_i, a_nl_r, a_nl_n, true_or, or_true, eq_self, ok_4, ok_5, ok_6, ok_7, ok_9, ok_10, ok_20, ok_21, ok_24, ok_30, ok_48, ok_50, ok_60, ok_80, ok_120, ok_180, ok_192, ok_200, ok_900, ok_1000, ok_84000]
  all_goals grind [ui_ap]
theorem ct_holding (hS : m_S M K L R) (hC : mC M I0 I) {g a b s : Int32} (ha : 0 ≤ a ∧ a < 30) (hP : ∀ v J, mC M I0 J → P (some (.int v)) (n, t, K, L, J, R)) : a_does (d + 7) 210 [a_rf M, .int g, .int a, .int b, .int s] (n, t, K, L, I, R) P := by
  rw [a_enter1 (M := a_m210) rfl (a_cat_rf (a_cat_int (a_cat_int (a_cat_int (a_cat_int a_cat_nil))))) (show 5 ≤ 6 by decide)]
  show a_at _ (a_xm a_m210) 0 [some (a_rf M), some (.int g), some (.int a), some (.int b), some (.int s), none] [] _ _
  repeat' first
    | with_reducible apply And.intro
    | with_reducible assumption
    | with_reducible intro _
    | with_reducible apply hP
    | with_reducible apply ct_findFacts hS hC
    | with_reducible apply lp_holding_12 hS hP
    | simp only [q210_0, q210_1, q210_2, q210_3, q210_5, q210_6, q210_9, q210_10, q210_14, q210_15, q210_18, q210_21, q210_22, q210_24, q210_25, q210_27, q210_30, q210_33, q210_34, q210_36, q210_39, q210_42, q210_44, q210_45, q210_48, q210_51, q210_53, m_0 hS, m_K hS, sp_isInForce hS, as_nil, as_i, as_r, Nat.reduceAdd, Nat.reduceLeDiff, z_eq0, z_eq1, z_or, z_em, Classical.not_not, not_false_eq_true, not_true_eq_false, true_and, and_true, false_and, and_false, and_self, true_implies, false_implies, implies_true, Option.toList_some, Option.toList_none, List.cons_append, List.nil_append, Nat.add_eq_zero_iff, a_nl_i, a_nl_r, a_nl_n, true_or, or_true, eq_self, ok_4, ok_5, ok_6, ok_7, ok_9, ok_10, ok_20, ok_21, ok_24, ok_30, ok_48, ok_50, ok_60, ok_80, ok_120, ok_180, ok_192, ok_200, ok_900, ok_1000, ok_84000]
  all_goals grind [ui_ap]
theorem ct_isWatched (hS : m_S M K L R) (hC : mC M I0 I) {a b s : Int32} (ha : 0 ≤ a ∧ a < 30) (hP : ∀ v J, mC M I0 J → P (some (.int v)) (n, t, K, L, J, R)) : a_does (d + 8) 227 [a_rf M, .int a, .int b, .int s] (n, t, K, L, I, R) P := by
  rw [a_enter1 (M := a_m227) rfl (a_cat_rf (a_cat_int (a_cat_int (a_cat_int a_cat_nil)))) (show 4 ≤ 4 by decide)]
  show a_at _ (a_xm a_m227) 0 [some (a_rf M), some (.int a), some (.int b), some (.int s)] [] _ _
  repeat' first
    | with_reducible apply And.intro
    | with_reducible assumption
    | with_reducible intro _
    | with_reducible apply hP
    | with_reducible apply ct_holding hS hC ha
    | simp only [q227_0, q227_1, q227_3, q227_4, q227_5, q227_6, q227_9, q227_12, q227_13, q227_16, q227_17, m_0 hS, m_K hS, as_nil, as_i, as_r, Nat.reduceAdd, Nat.reduceLeDiff, z_eq0, z_eq1, z_or, z_em, Classical.not_not, not_false_eq_true, not_true_eq_false, true_and, and_true, false_and, and_false, and_self, true_implies, false_implies, implies_true, Option.toList_some, Option.toList_none, List.cons_append, List.nil_append, Nat.add_eq_zero_iff, a_nl_i, a_nl_r, a_nl_n, true_or, or_true, eq_self, ok_4, ok_5, ok_6, ok_7, ok_9, ok_10, ok_20, ok_21, ok_24, ok_30, ok_48, ok_50, ok_60, ok_80, ok_120, ok_180, ok_192, ok_200, ok_900, ok_1000, ok_84000]
  all_goals grind [ui_ap]
theorem lp_quarrel_26 (hS : m_S M K L R) {a b s o i : Int32} (hi : 0 ≤ i ∧ i < 20) (hP : ∀ v J, mC M I0 J → P (some (.int v)) (n, t, K, L, J, R)) (hN : ∀ J u, mC M I0 J → a_at (d + 6) (a_xm a_m212) 11 [some (a_rf M), some (.int a), some (.int b), some (.int s), some (.int o), some (.int (i + 1)), some (.int u)] [] (n, t, K, L, J, R) P) : ∀ u : Int32, u ≤ 20 → ∀ J, 0 ≤ u → mC M I0 J → a_at (d + 6) (a_xm a_m212) 26 [some (a_rf M), some (.int a), some (.int b), some (.int s), some (.int o), some (.int i), some (.int u)] [] (n, t, K, L, J, R) P := by
  refine up_ind 20 (fun u hu ih => ?_)
  intro J h0 hC
  have g1 := rg_texts hC.1
  rw [q212_26]
  repeat' first
    | with_reducible apply And.intro
    | with_reducible assumption
    | with_reducible intro _
    | with_reducible apply ih
    | with_reducible apply hP
    | with_reducible apply hN
    | with_reducible apply ct_doesHold hS (I0 := I0)
    | simp only [q212_0, q212_1, q212_2, q212_3, q212_4, q212_5, q212_8, q212_9, q212_13, q212_14, q212_17, q212_20, q212_22, q212_23, q212_24, q212_28, q212_29, q212_32, q212_35, q212_36, q212_38, q212_40, q212_41, q212_44, q212_47, q212_48, q212_50, q212_52, q212_53, q212_56, q212_59, q212_60, q212_63, q212_65, q212_66, q212_67, q212_70, q212_72, q212_73, q212_76, q212_77, q212_79, q212_82, q212_83, q212_85, q212_88, q212_91, q212_93, q212_96, q212_98, q212_101, q212_103, q212_104, q212_107, q212_110, q212_113, q212_116, q212_118, m_0 hS, m_K hS, mR_textFrom hS, mK_textFrom hS, mL_textFrom hS, sp_isInForce hS, as_nil, as_i, as_r, Nat.reduceAdd, Nat.reduceLeDiff, z_eq0, z_eq1, z_or, z_em, Classical.not_not, not_false_eq_true, not_true_eq_false, true_and, and_true, false_and, and_false, and_self, true_implies, false_implies, implies_true, Option.toList_some, Option.toList_none, List.cons_append, List.nil_append, Nat.add_eq_zero_iff, a_nl_i, a_nl_r, a_nl_n, true_or, or_true, eq_self, ok_4, ok_5, ok_6, ok_7, ok_9, ok_10, ok_20, ok_21, ok_24, ok_30, ok_48, ok_50, ok_60, ok_80, ok_120, ok_180, ok_192, ok_200, ok_900, ok_1000, ok_84000]
  all_goals grind [ui_ap]
theorem lp_quarrel_11 (hS : m_S M K L R) {a b s o : Int32} (hP : ∀ v J, mC M I0 J → P (some (.int v)) (n, t, K, L, J, R)) : ∀ i : Int32, i ≤ 20 → ∀ J u, 0 ≤ i → mC M I0 J → a_at (d + 6) (a_xm a_m212) 11 [some (a_rf M), some (.int a), some (.int b), some (.int s), some (.int o), some (.int i), u] [] (n, t, K, L, J, R) P := by
  refine up_ind 20 (fun i hi ih => ?_)
  intro J u h0 hC
  have g1 := rg_texts hC.1
  rw [q212_11]
  repeat' first
    | with_reducible apply And.intro
    | with_reducible assumption
    | with_reducible intro _
    | with_reducible apply ih
    | with_reducible apply hP
    | with_reducible apply lp_quarrel_26 hS (I0 := I0)
    | simp only [q212_0, q212_1, q212_2, q212_3, q212_4, q212_5, q212_8, q212_9, q212_13, q212_14, q212_17, q212_20, q212_22, q212_23, q212_24, q212_28, q212_29, q212_32, q212_35, q212_36, q212_38, q212_40, q212_41, q212_44, q212_47, q212_48, q212_50, q212_52, q212_53, q212_56, q212_59, q212_60, q212_63, q212_65, q212_66, q212_67, q212_70, q212_72, q212_73, q212_76, q212_77, q212_79, q212_82, q212_83, q212_85, q212_88, q212_91, q212_93, q212_96, q212_98, q212_101, q212_103, q212_104, q212_107, q212_110, q212_113, q212_116, q212_118, m_0 hS, m_K hS, mR_textFrom hS, mK_textFrom hS, mL_textFrom hS, sp_isInForce hS, as_nil, as_i, as_r, Nat.reduceAdd, Nat.reduceLeDiff, z_eq0, z_eq1, z_or, z_em, Classical.not_not, not_false_eq_true, not_true_eq_false, true_and, and_true, false_and, and_false, and_self, true_implies, false_implies, implies_true, Option.toList_some, Option.toList_none, List.cons_append, List.nil_append, Nat.add_eq_zero_iff, a_nl_i, a_nl_r, a_nl_n, true_or, or_true, eq_self, ok_4, ok_5, ok_6, ok_7, ok_9, ok_10, ok_20, ok_21, ok_24, ok_30, ok_48, ok_50, ok_60, ok_80, ok_120, ok_180, ok_192, ok_200, ok_900, ok_1000, ok_84000]
  all_goals grind [ui_ap]
theorem ct_quarrel (hS : m_S M K L R) (hC : mC M I0 I) {a b s o : Int32} (ha : 0 ≤ a ∧ a < 30) (hP : ∀ v J, mC M I0 J → P (some (.int v)) (n, t, K, L, J, R)) : a_does (d + 7) 212 [a_rf M, .int a, .int b, .int s, .int o] (n, t, K, L, I, R) P := by
  rw [a_enter1 (M := a_m212) rfl (a_cat_rf (a_cat_int (a_cat_int (a_cat_int (a_cat_int a_cat_nil))))) (show 5 ≤ 7 by decide)]
  show a_at _ (a_xm a_m212) 0 [some (a_rf M), some (.int a), some (.int b), some (.int s), some (.int o), none, none] [] _ _
  repeat' first
    | with_reducible apply And.intro
    | with_reducible assumption
    | with_reducible intro _
    | with_reducible apply hP
    | with_reducible apply ct_findFacts hS hC
    | with_reducible apply lp_quarrel_11 hS hP
    | simp only [q212_0, q212_1, q212_2, q212_3, q212_4, q212_5, q212_8, q212_9, q212_13, q212_14, q212_17, q212_20, q212_22, q212_23, q212_24, q212_28, q212_29, q212_32, q212_35, q212_36, q212_38, q212_40, q212_41, q212_44, q212_47, q212_48, q212_50, q212_52, q212_53, q212_56, q212_59, q212_60, q212_63, q212_65, q212_66, q212_67, q212_70, q212_72, q212_73, q212_76, q212_77, q212_79, q212_82, q212_83, q212_85, q212_88, q212_91, q212_93, q212_96, q212_98, q212_101, q212_103, q212_104, q212_107, q212_110, q212_113, q212_116, q212_118, m_0 hS, m_K hS, mR_textFrom hS, mK_textFrom hS, mL_textFrom hS, sp_isInForce hS, as_nil, as_i, as_r, Nat.reduceAdd, Nat.reduceLeDiff, z_eq0, z_eq1, z_or, z_em, Classical.not_not, not_false_eq_true, not_true_eq_false, true_and, and_true, false_and, and_false, and_self, true_implies, false_implies, implies_true, Option.toList_some, Option.toList_none, List.cons_append, List.nil_append, Nat.add_eq_zero_iff, a_nl_i, a_nl_r, a_nl_n, true_or, or_true, eq_self, ok_4, ok_5, ok_6, ok_7, ok_9, ok_10, ok_20, ok_21, ok_24, ok_30, ok_48, ok_50, ok_60, ok_80, ok_120, ok_180, ok_192, ok_200, ok_900, ok_1000, ok_84000]
  all_goals grind [ui_ap]
theorem ct_readSumC (hS : m_S M K L R) (hC : mC M I0 I) (hat : 0 ≤ I M 49 ∧ I M 49 ≤ 52) (he : I M 48 ≤ 50) (hba : 0 ≤ I M 47 ∧ I M 47 ≤ 950) (hP : ∀ v J, mC M I0 J → J M 48 = I M 48 → P (some (.int v)) (n, t, K, L, J, R)) : a_does (d + 3) 196 [a_rf M] (n, t, K, L, I, R) P :=
  ct_readSum hS (I0 := I) ⟨hat, he, hba⟩ (rT_refl hC.1 ⟨hat, he, hba⟩) (fun v J h _ => hP v J (mC_T hC h) (rT_end h))
theorem lp_owedOf_80 (hS : m_S M K L R) (hC : mC M I0 I) {a l b : Int32} {u : Option Value} (ha : 0 ≤ a ∧ a < 30) (hb : b < 20) (hl : 0 ≤ l ∧ l ≤ 32) (hP : ∀ v J, mC M I0 J → (0 ≤ v ∧ v ≤ 4) → P (some (.int v)) (n, t, K, L, J, R)) : a_at (d + 3) (a_xm a_m190) 80 [some (a_rf M), some (.int a), some (.int l), some (.int b), u] [] (n, t, K, L, I, R) P := by
  have g4 : 0 ≤ l / 8 ∧ l / 8 ≤ 4 := by
    have h1 := ti_div hl.1 (show (0 : Int32) < 8 by decide)
    have h2 := Int32.le_iff_toInt_le.mp hl.2
    refine ⟨(div_rng hl.1 (by decide)).1, ?_⟩
    rw [Int32.le_iff_toInt_le, h1]
    show l.toInt / 8 ≤ 4
    simp at h2
    omega
  have g5 := rg_length hC.1 a.toNatClampNeg
  have g6 : ∀ J, mC M I0 J → J (M + 10) a.toNatClampNeg = I0 (M + 10) a.toNatClampNeg := fun J h => eS_length h _
  have g7 := eS_length hC a.toNatClampNeg
  repeat' first
    | with_reducible apply And.intro
    | with_reducible assumption
    | with_reducible intro _
    | with_reducible apply hP
    | with_reducible apply ct_findFacts hS hC ha
    | with_reducible apply ct_open hS (I0 := I0)
    | with_reducible apply ct_readSumC hS (I0 := I0)
    | simp only [q190_80, q190_81, q190_84, q190_85, q190_87, q190_88, q190_89, q190_90, q190_91, q190_92, q190_95, q190_96, q190_97, q190_98, q190_101, q190_102, q190_103, q190_104, q190_107, q190_108, q190_109, q190_112, q190_113, q190_116, q190_118, q190_120, q190_123, q190_124, q190_127, q190_129, q190_130, q190_133, q190_134, q190_135, q190_138, q190_139, q190_142, q190_143, q190_144, q190_147, q190_149, m_0 hS, m_K hS, mR_atBench hS, mK_atBench hS, mL_atBench hS, mR_atShift hS, mK_atShift hS, mL_atShift hS, mR_length hS, mK_length hS, mL_length hS, as_nil, as_i, as_r, Nat.reduceAdd, Nat.reduceLeDiff, z_eq0, z_eq1, z_or, z_em, Classical.not_not, not_false_eq_true, not_true_eq_false, true_and, and_true, false_and, and_false, and_self, true_implies, false_implies, implies_true, Option.toList_some, Option.toList_none, List.cons_append, List.nil_append, Nat.add_eq_zero_iff, a_nl_i, a_nl_r, a_nl_n, true_or, or_true, eq_self, ok_4, ok_5, ok_6, ok_7, ok_9, ok_10, ok_20, ok_21, ok_24, ok_30, ok_48, ok_50, ok_60, ok_80, ok_120, ok_180, ok_192, ok_200, ok_900, ok_1000, ok_84000]
  all_goals grind [ui_ap]
theorem lp_owedOf_21 (hS : m_S M K L R) (hC : mC M I0 I) {a l : Int32} (ha : 0 ≤ a ∧ a < 30) (hl : 0 ≤ l ∧ l ≤ 32) (hP : ∀ v J, mC M I0 J → (0 ≤ v ∧ v ≤ 4) → P (some (.int v)) (n, t, K, L, J, R)) : ∀ i : Int32, i ≤ 20 → ∀ b, 0 ≤ i → (-1 ≤ b ∧ b < 20) → a_at (d + 3) (a_xm a_m190) 21 [some (a_rf M), some (.int a), some (.int l), some (.int b), some (.int i)] [] (n, t, K, L, I, R) P := by
  refine up_ind 20 (fun i hi ih => ?_)
  intro b h0 hb
  have g1 := rg_texts hC.1
  rw [q190_21]
  repeat' first
    | with_reducible apply And.intro
    | with_reducible assumption
    | with_reducible intro _
    | with_reducible apply ih
    | with_reducible apply hP
    | with_reducible apply lp_owedOf_80 hS hC ha
    | simp only [q190_0, q190_1, q190_2, q190_5, q190_8, q190_9, q190_10, q190_11, q190_12, q190_15, q190_16, q190_17, q190_18, q190_19, q190_23, q190_24, q190_27, q190_30, q190_31, q190_33, q190_35, q190_36, q190_39, q190_40, q190_41, q190_44, q190_47, q190_48, q190_51, q190_52, q190_55, q190_57, q190_58, q190_59, q190_62, q190_63, q190_64, q190_67, q190_69, q190_72, q190_73, q190_74, q190_77, q190_81, q190_84, q190_85, q190_87, q190_88, q190_89, q190_90, q190_91, q190_92, q190_95, q190_96, q190_97, q190_98, q190_101, q190_102, q190_103, q190_104, q190_107, q190_108, q190_109, q190_112, q190_113, q190_116, q190_118, q190_120, q190_123, q190_124, q190_127, q190_129, q190_130, q190_133, q190_134, q190_135, q190_138, q190_139, q190_142, q190_143, q190_144, q190_147, q190_149, m_0 hS, m_K hS, mR_atShift hS, mK_atShift hS, mL_atShift hS, mR_textFrom hS, mK_textFrom hS, mL_textFrom hS, mR_atBench hS, mK_atBench hS, mL_atBench hS, mR_length hS, mK_length hS, mL_length hS, sp_hasPlace hS, sp_isInForce hS, as_nil, as_i, as_r, Nat.reduceAdd, Nat.reduceLeDiff, z_eq0, z_eq1, z_or, z_em, Classical.not_not, not_false_eq_true, not_true_eq_false, true_and, and_true, false_and, and_false, and_self, true_implies, false_implies, implies_true, Option.toList_some, Option.toList_none, List.cons_append, List.nil_append, Nat.add_eq_zero_iff, a_nl_i, a_nl_r, a_nl_n, true_or, or_true, eq_self, ok_4, ok_5, ok_6, ok_7, ok_9, ok_10, ok_20, ok_21, ok_24, ok_30, ok_48, ok_50, ok_60, ok_80, ok_120, ok_180, ok_192, ok_200, ok_900, ok_1000, ok_84000]
  all_goals grind [ui_ap]
theorem ct_owedOf (hS : m_S M K L R) (hC : mC M I0 I) {a : Int32} (ha : 0 ≤ a ∧ a < 30) (hP : ∀ v J, mC M I0 J → (0 ≤ v ∧ v ≤ 4) → P (some (.int v)) (n, t, K, L, J, R)) : a_does (d + 4) 190 [a_rf M, .int a] (n, t, K, L, I, R) P := by
  have hR := hC.1
  rw [a_enter1 (M := a_m190) rfl (a_cat_rf (a_cat_int a_cat_nil)) (show 2 ≤ 5 by decide)]
  show a_at _ (a_xm a_m190) 0 [some (a_rf M), some (.int a), none, none, none] [] _ _
  repeat' first
    | with_reducible apply And.intro
    | with_reducible assumption
    | with_reducible intro _
    | with_reducible apply hP
    | with_reducible apply ct_lossOf hS hR ha
    | with_reducible apply lp_owedOf_21 hS hC ha ?_ hP
    | simp only [q190_0, q190_1, q190_2, q190_5, q190_8, q190_9, q190_10, q190_11, q190_12, q190_15, q190_16, q190_17, q190_18, q190_19, m_0 hS, m_K hS, sp_hasPlace hS, as_nil, as_i, as_r, Nat.reduceAdd, Nat.reduceLeDiff, z_eq0, z_eq1, z_or, z_em, Classical.not_not, not_false_eq_true, not_true_eq_false, true_and, and_true, false_and, and_false, and_self, true_implies, false_implies, implies_true, Option.toList_some, Option.toList_none, List.cons_append, List.nil_append, Nat.add_eq_zero_iff, a_nl_i, a_nl_r, a_nl_n, true_or, or_true, eq_self, ok_4, ok_5, ok_6, ok_7, ok_9, ok_10, ok_20, ok_21, ok_24, ok_30, ok_48, ok_50, ok_60, ok_80, ok_120, ok_180, ok_192, ok_200, ok_900, ok_1000, ok_84000]
  all_goals grind [ui_ap]
theorem lp_standFor_32 (hP : ∀ v, P (some (.int v)) (n, t, K, L, I, R)) {a b s f : Int32} : ∀ i : Int32, i ≤ 8 → ∀ m e, 0 ≤ i → a_at d (a_xm a_m232) 32 [some (a_rf M), some (.int a), some (.int b), some (.int s), some (.int f), some (.int m), some (.int e), some (.int i)] [] (n, t, K, L, I, R) P := by
  refine up_ind 8 (fun i hi ih => ?_)
  intro m e h0
  rw [q232_32]
  repeat' first
    | with_reducible apply And.intro
    | with_reducible assumption
    | with_reducible intro _
    | with_reducible apply ih
    | with_reducible apply hP
    | simp only [q232_34, q232_36, q232_39, q232_41, q232_44, q232_46, q232_48, q232_49, q232_50, q232_51, q232_52, q232_55, q232_57, q232_58, q232_60, q232_61, q232_62, q232_64, q232_67, q232_70, q232_73, q232_75, as_nil, as_i, as_r, Nat.reduceAdd, Nat.reduceLeDiff, z_eq0, z_eq1, z_or, z_em, Classical.not_not, not_false_eq_true, not_true_eq_false, true_and, and_true, false_and, and_false, and_self, true_implies, false_implies, implies_true, Option.toList_some, Option.toList_none, List.cons_append, List.nil_append, Nat.add_eq_zero_iff, a_nl_i, a_nl_r, a_nl_n, true_or, or_true, eq_self, ok_4, ok_5, ok_6, ok_7, ok_9, ok_10, ok_20, ok_21, ok_24, ok_30, ok_48, ok_50, ok_60, ok_80, ok_120, ok_180, ok_192, ok_200, ok_900, ok_1000, ok_84000]
  all_goals grind [ui_ap]
theorem ct_standFor (hS : m_S M K L R) (hC : mC M I0 I) {a b s : Int32} (ha : 0 ≤ a ∧ a < 30) (hb : 0 ≤ b ∧ b ≤ 5) (hP : ∀ v J, mC M I0 J → P (some (.int v)) (n, t, K, L, J, R)) : a_does (d + 9) 232 [a_rf M, .int a, .int b, .int s] (n, t, K, L, I, R) P := by
  have hR := hC.1
  rw [a_enter1 (M := a_m232) rfl (a_cat_rf (a_cat_int (a_cat_int (a_cat_int a_cat_nil)))) (show 4 ≤ 8 by decide)]
  show a_at _ (a_xm a_m232) 0 [some (a_rf M), some (.int a), some (.int b), some (.int s), none, none, none, none] [] _ _
  repeat' first
    | with_reducible apply And.intro
    | with_reducible assumption
    | with_reducible intro _
    | with_reducible apply hP
    | with_reducible apply ct_freeHosts hS hR hb
    | with_reducible apply ct_isWatched hS hC ha
    | with_reducible apply lp_standFor_32
    | simp only [q232_0, q232_1, q232_2, q232_3, q232_4, q232_7, q232_9, q232_10, q232_11, q232_12, q232_13, q232_16, q232_19, q232_20, q232_23, q232_24, q232_26, q232_27, q232_29, q232_30, m_0 hS, m_K hS, as_nil, as_i, as_r, Nat.reduceAdd, Nat.reduceLeDiff, z_eq0, z_eq1, z_or, z_em, Classical.not_not, not_false_eq_true, not_true_eq_false, true_and, and_true, false_and, and_false, and_self, true_implies, false_implies, implies_true, Option.toList_some, Option.toList_none, List.cons_append, List.nil_append, Nat.add_eq_zero_iff, a_nl_i, a_nl_r, a_nl_n, true_or, or_true, eq_self, ok_4, ok_5, ok_6, ok_7, ok_9, ok_10, ok_20, ok_21, ok_24, ok_30, ok_48, ok_50, ok_60, ok_80, ok_120, ok_180, ok_192, ok_200, ok_900, ok_1000, ok_84000]
  all_goals grind [ui_ap]
theorem lp_barIn_287 (hS : m_S M K L R) (hC : mC M I0 I) {a b s f : Int32} {g o u : Option Value} (ha : 0 ≤ a ∧ a < 30) (hP : ∀ v J, mC M I0 J → P (some (.int v)) (n, t, K, L, J, R)) : a_at (d + 8) (a_xm a_m222) 287 [some (a_rf M), some (.int a), some (.int b), some (.int s), some (.int f), g, o, u] [] (n, t, K, L, I, R) P := by
  have hR := hC.1
  repeat' first
    | with_reducible apply And.intro
    | with_reducible assumption
    | with_reducible intro _
    | with_reducible apply hP
    | with_reducible apply ct_isTooNear hS hR ha
    | simp only [q222_287, q222_288, q222_289, q222_291, q222_294, q222_297, q222_299, q222_300, q222_301, q222_304, q222_305, q222_306, q222_307, q222_310, q222_311, q222_312, q222_315, q222_316, q222_317, q222_318, q222_321, q222_322, q222_323, q222_326, q222_329, q222_331, q222_334, q222_335, m_0 hS, m_K hS, mR_kind hS, mK_kind hS, mL_kind hS, mR_xOf hS, mK_xOf hS, mL_xOf hS, mR_yOf hS, mK_yOf hS, mL_yOf hS, sp_in, as_nil, as_i, as_r, Nat.reduceAdd, Nat.reduceLeDiff, z_eq0, z_eq1, z_or, z_em, Classical.not_not, not_false_eq_true, not_true_eq_false, true_and, and_true, false_and, and_false, and_self, true_implies, false_implies, implies_true, Option.toList_some, Option.toList_none, List.cons_append, List.nil_append, Nat.add_eq_zero_iff, a_nl_i, a_nl_r, a_nl_n, true_or, or_true, eq_self, ok_4, ok_5, ok_6, ok_7, ok_9, ok_10, ok_20, ok_21, ok_24, ok_30, ok_48, ok_50, ok_60, ok_80, ok_120, ok_180, ok_192, ok_200, ok_900, ok_1000, ok_84000]
  all_goals grind [ui_ap]
theorem lp_barIn_256 (hS : m_S M K L R) (hC : mC M I0 I) {a b s f : Int32} {g o u : Option Value} (ha : 0 ≤ a ∧ a < 30) (hb : 0 ≤ b ∧ b ≤ 5) (hP : ∀ v J, mC M I0 J → P (some (.int v)) (n, t, K, L, J, R)) : a_at (d + 8) (a_xm a_m222) 256 [some (a_rf M), some (.int a), some (.int b), some (.int s), some (.int f), g, o, u] [] (n, t, K, L, I, R) P := by
  have hR := hC.1
  repeat' first
    | with_reducible apply And.intro
    | with_reducible assumption
    | with_reducible intro _
    | with_reducible apply hP
    | with_reducible apply ct_freeHosts hS hR hb
    | with_reducible apply ct_ones
    | with_reducible apply ct_isWatched hS hC ha
    | with_reducible apply lp_barIn_287 hS (I0 := I0)
    | simp only [q222_256, q222_257, q222_258, q222_259, q222_260, q222_263, q222_266, q222_267, q222_268, q222_269, q222_270, q222_273, q222_276, q222_277, q222_280, q222_281, q222_284, q222_286, m_0 hS, m_K hS, as_nil, as_i, as_r, Nat.reduceAdd, Nat.reduceLeDiff, z_eq0, z_eq1, z_or, z_em, Classical.not_not, not_false_eq_true, not_true_eq_false, true_and, and_true, false_and, and_false, and_self, true_implies, false_implies, implies_true, Option.toList_some, Option.toList_none, List.cons_append, List.nil_append, Nat.add_eq_zero_iff, a_nl_i, a_nl_r, a_nl_n, true_or, or_true, eq_self, ok_4, ok_5, ok_6, ok_7, ok_9, ok_10, ok_20, ok_21, ok_24, ok_30, ok_48, ok_50, ok_60, ok_80, ok_120, ok_180, ok_192, ok_200, ok_900, ok_1000, ok_84000]
  all_goals grind [ui_ap]
theorem lp_barIn_233 (hS : m_S M K L R) (hC : mC M I0 I) {a b s f g : Int32} {o u : Option Value} (ha : 0 ≤ a ∧ a < 30) (hb : 0 ≤ b ∧ b ≤ 5) (hP : ∀ v J, mC M I0 J → P (some (.int v)) (n, t, K, L, J, R)) : a_at (d + 8) (a_xm a_m222) 233 [some (a_rf M), some (.int a), some (.int b), some (.int s), some (.int f), some (.int g), o, u] [] (n, t, K, L, I, R) P := by
  repeat' first
    | with_reducible apply And.intro
    | with_reducible assumption
    | with_reducible intro _
    | with_reducible apply hP
    | with_reducible apply ct_holding hS hC ha
    | with_reducible apply lp_barIn_256 hS (I0 := I0)
    | simp only [q222_233, q222_235, q222_238, q222_240, q222_241, q222_242, q222_244, q222_245, q222_246, q222_247, q222_250, q222_253, q222_255, m_0 hS, m_K hS, as_nil, as_i, as_r, Nat.reduceAdd, Nat.reduceLeDiff, z_eq0, z_eq1, z_or, z_em, Classical.not_not, not_false_eq_true, not_true_eq_false, true_and, and_true, false_and, and_false, and_self, true_implies, false_implies, implies_true, Option.toList_some, Option.toList_none, List.cons_append, List.nil_append, Nat.add_eq_zero_iff, a_nl_i, a_nl_r, a_nl_n, true_or, or_true, eq_self, ok_4, ok_5, ok_6, ok_7, ok_9, ok_10, ok_20, ok_21, ok_24, ok_30, ok_48, ok_50, ok_60, ok_80, ok_120, ok_180, ok_192, ok_200, ok_900, ok_1000, ok_84000]
  all_goals grind [ui_ap]
theorem lp_barIn_104 (hS : m_S M K L R) (hC : mC M I0 I) {a b s f : Int32} (ha : 0 ≤ a ∧ a < 30) (hb : 0 ≤ b ∧ b ≤ 5) (hP : ∀ v J, mC M I0 J → P (some (.int v)) (n, t, K, L, J, R)) : ∀ o : Int32, o ≤ 30 → ∀ g u, 0 ≤ o → a_at (d + 8) (a_xm a_m222) 104 [some (a_rf M), some (.int a), some (.int b), some (.int s), some (.int f), some (.int g), some (.int o), u] [] (n, t, K, L, I, R) P := by
  refine up_ind 30 (fun o ho ih => ?_)
  intro g u h0
  have g1 := rg_asks hC.1
  rw [q222_104]
  repeat' first
    | with_reducible apply And.intro
    | with_reducible assumption
    | with_reducible intro _
    | with_reducible apply hP
    | with_reducible apply ih
    | with_reducible apply lp_barIn_233 hS hC ha hb
    | simp only [q222_106, q222_107, q222_110, q222_113, q222_115, q222_116, q222_119, q222_120, q222_122, q222_123, q222_124, q222_127, q222_130, q222_132, q222_133, q222_135, q222_136, q222_139, q222_140, q222_142, q222_145, q222_148, q222_149, q222_152, q222_154, q222_155, q222_156, q222_159, q222_160, q222_161, q222_164, q222_165, q222_168, q222_169, q222_170, q222_173, q222_174, q222_175, q222_178, q222_180, q222_181, q222_184, q222_185, q222_186, q222_189, q222_191, q222_192, q222_193, q222_196, q222_198, q222_199, q222_200, q222_203, q222_204, q222_207, q222_208, q222_210, q222_212, q222_215, q222_217, q222_220, q222_221, q222_224, q222_225, q222_227, q222_230, m_0 hS, m_K hS, mR_gear hS, mK_gear hS, mL_gear hS, mR_atShift hS, mK_atShift hS, mL_atShift hS, mR_length hS, mK_length hS, mL_length hS, sp_holdsAt hS, sp_hasPlace hS, as_nil, as_i, as_r, Nat.reduceAdd, Nat.reduceLeDiff, z_eq0, z_eq1, z_or, z_em, Classical.not_not, not_false_eq_true, not_true_eq_false, true_and, and_true, false_and, and_false, and_self, true_implies, false_implies, implies_true, Option.toList_some, Option.toList_none, List.cons_append, List.nil_append, Nat.add_eq_zero_iff, a_nl_i, a_nl_r, a_nl_n, true_or, or_true, eq_self, ok_4, ok_5, ok_6, ok_7, ok_9, ok_10, ok_20, ok_21, ok_24, ok_30, ok_48, ok_50, ok_60, ok_80, ok_120, ok_180, ok_192, ok_200, ok_900, ok_1000, ok_84000]
  all_goals grind [ui_ap]
theorem ct_barIn (hS : m_S M K L R) (hC : mC M I0 I) {a b s f : Int32} (ha : 0 ≤ a ∧ a < 30) (hb : 0 ≤ b ∧ b ≤ 5) (hs : -1000 ≤ s ∧ s ≤ 1000) (hP : ∀ v J, mC M I0 J → P (some (.int v)) (n, t, K, L, J, R)) : a_does (d + 9) 222 [a_rf M, .int a, .int b, .int s, .int f] (n, t, K, L, I, R) P := by
  have hR := hC.1
  have g1 := rg_now hR
  rw [a_enter1 (M := a_m222) rfl (a_cat_rf (a_cat_int (a_cat_int (a_cat_int (a_cat_int a_cat_nil))))) (show 5 ≤ 8 by decide)]
  show a_at _ (a_xm a_m222) 0 [some (a_rf M), some (.int a), some (.int b), some (.int s), some (.int f), none, none, none] [] _ _
  repeat' first
    | with_reducible apply And.intro
    | with_reducible assumption
    | with_reducible intro _
    | with_reducible apply hP
    | with_reducible apply ct_lostIn hS hR hs
    | with_reducible apply lp_barIn_104 hS hC ha hb hP
    | simp only [q222_0, q222_1, q222_4, q222_5, q222_6, q222_7, q222_8, q222_9, q222_10, q222_13, q222_14, q222_15, q222_16, q222_19, q222_20, q222_21, q222_22, q222_25, q222_26, q222_27, q222_28, q222_29, q222_30, q222_33, q222_34, q222_35, q222_36, q222_39, q222_42, q222_43, q222_44, q222_47, q222_50, q222_51, q222_52, q222_53, q222_56, q222_57, q222_58, q222_59, q222_62, q222_63, q222_64, q222_65, q222_68, q222_71, q222_73, q222_76, q222_77, q222_78, q222_79, q222_82, q222_83, q222_84, q222_85, q222_88, q222_89, q222_90, q222_91, q222_92, q222_93, q222_96, q222_97, q222_98, q222_99, q222_101, q222_102, m_0 hS, m_K hS, mR_benchSet hS, mK_benchSet hS, mL_benchSet hS, mR_can hS, mK_can hS, mL_can hS, mR_wants hS, mK_wants hS, mL_wants hS, mR_modes hS, mK_modes hS, mL_modes hS, mR_modeSet hS, mK_modeSet hS, mL_modeSet hS, sp_isBegun hS, as_nil, as_i, as_r, Nat.reduceAdd, Nat.reduceLeDiff, z_eq0, z_eq1, z_or, z_em, Classical.not_not, not_false_eq_true, not_true_eq_false, true_and, and_true, false_and, and_false, and_self, true_implies, false_implies, implies_true, Option.toList_some, Option.toList_none, List.cons_append, List.nil_append, Nat.add_eq_zero_iff, a_nl_i, a_nl_r, a_nl_n, true_or, or_true, eq_self, ok_4, ok_5, ok_6, ok_7, ok_9, ok_10, ok_20, ok_21, ok_24, ok_30, ok_48, ok_50, ok_60, ok_80, ok_120, ok_180, ok_192, ok_200, ok_900, ok_1000, ok_84000]
  all_goals grind [ui_ap]
theorem lp_fitOf_3 (hS : m_S M K L R) {a b s : Int32} (ha : 0 ≤ a ∧ a < 30) (hb : 0 ≤ b ∧ b ≤ 5) (hs : -500 ≤ s ∧ s ≤ 500) (hP : ∀ v J, mC M I0 J → P (some (.int v)) (n, t, K, L, J, R)) : ∀ i : Int32, i ≤ 4 → ∀ J u, 0 ≤ i → mC M I0 J → a_at (d + 9) (a_xm a_m221) 3 [some (a_rf M), some (.int a), some (.int b), some (.int s), some (.int i), u] [] (n, t, K, L, J, R) P := by
  refine up_ind 4 (fun i hi ih => ?_)
  intro J u h0 hC
  have g1 := rg_length hC.1
  rw [q221_3]
  repeat' first
    | with_reducible apply And.intro
    | with_reducible assumption
    | with_reducible intro _
    | with_reducible apply hP
    | with_reducible apply ih
    | with_reducible apply ct_barIn hS hC ha hb
    | simp only [q221_0, q221_1, q221_5, q221_6, q221_9, q221_10, q221_11, q221_14, q221_15, q221_16, q221_17, q221_18, q221_20, q221_21, q221_22, q221_25, q221_27, q221_29, q221_32, q221_34, q221_35, q221_38, q221_41, q221_42, m_0 hS, m_K hS, mR_length hS, mK_length hS, mL_length hS, as_nil, as_i, as_r, Nat.reduceAdd, Nat.reduceLeDiff, z_eq0, z_eq1, z_or, z_em, Classical.not_not, not_false_eq_true, not_true_eq_false, true_and, and_true, false_and, and_false, and_self, true_implies, false_implies, implies_true, Option.toList_some, Option.toList_none, List.cons_append, List.nil_append, Nat.add_eq_zero_iff, a_nl_i, a_nl_r, a_nl_n, true_or, or_true, eq_self, ok_4, ok_5, ok_6, ok_7, ok_9, ok_10, ok_20, ok_21, ok_24, ok_30, ok_48, ok_50, ok_60, ok_80, ok_120, ok_180, ok_192, ok_200, ok_900, ok_1000, ok_84000]
  all_goals grind [ui_ap]
theorem ct_fitOf (hS : m_S M K L R) (hC : mC M I0 I) {a b s : Int32} (ha : 0 ≤ a ∧ a < 30) (hb : 0 ≤ b ∧ b ≤ 5) (hs : -500 ≤ s ∧ s ≤ 500) (hP : ∀ v J, mC M I0 J → P (some (.int v)) (n, t, K, L, J, R)) : a_does (d + 10) 221 [a_rf M, .int a, .int b, .int s] (n, t, K, L, I, R) P := by
  rw [a_enter1 (M := a_m221) rfl (a_cat_rf (a_cat_int (a_cat_int (a_cat_int a_cat_nil)))) (show 4 ≤ 6 by decide)]
  show a_at _ (a_xm a_m221) 0 [some (a_rf M), some (.int a), some (.int b), some (.int s), none, none] [] _ _
  repeat' first
    | with_reducible apply And.intro
    | with_reducible assumption
    | with_reducible intro _
    | with_reducible apply hP
    | with_reducible apply lp_fitOf_3 hS ha hb hs hP
    | simp only [q221_0, q221_1, q221_5, q221_6, q221_9, q221_10, q221_11, q221_14, q221_15, q221_16, q221_17, q221_18, q221_20, q221_21, q221_22, q221_25, q221_27, q221_29, q221_32, q221_34, q221_35, q221_38, q221_41, q221_42, m_0 hS, m_K hS, mR_length hS, mK_length hS, mL_length hS, as_nil, as_i, as_r, Nat.reduceAdd, Nat.reduceLeDiff, z_eq0, z_eq1, z_or, z_em, Classical.not_not, not_false_eq_true, not_true_eq_false, true_and, and_true, false_and, and_false, and_self, true_implies, false_implies, implies_true, Option.toList_some, Option.toList_none, List.cons_append, List.nil_append, Nat.add_eq_zero_iff, a_nl_i, a_nl_r, a_nl_n, true_or, or_true, eq_self, ok_4, ok_5, ok_6, ok_7, ok_9, ok_10, ok_20, ok_21, ok_24, ok_30, ok_48, ok_50, ok_60, ok_80, ok_120, ok_180, ok_192, ok_200, ok_900, ok_1000, ok_84000]
  all_goals grind [ui_ap]
end RV
end
section
/-! what happened; places given and taken back -/
section RX
variable {d n t M : Nat} {K L : Nat → Nat} {I I0 J J0 : Nat → Nat → Int32} {R : Nat → Nat → Nat} {P : Option Value → AH → Prop}
theorem cl_inj {i j : Int32} (h0 : 0 ≤ i) (h1 : 0 ≤ j) (h : i.toNatClampNeg = j.toNatClampNeg) : i = j := by
  have h2 := Int32.le_iff_toInt_le.mp h0
  have h3 := Int32.le_iff_toInt_le.mp h1
  have h4 : i.toInt.toNat = j.toInt.toNat := h
  simp at h2 h3
  exact Int32.toInt_inj.mp (by omega)
theorem cl_lt {i j : Int32} (h0 : 0 ≤ i) (h : i < j) : i.toNatClampNeg < j.toNatClampNeg := by
  have h2 := Int32.le_iff_toInt_le.mp h0
  have h3 := Int32.lt_iff_toInt_lt.mp h
  show i.toInt.toNat < j.toInt.toNat
  simp at h2
  omega
theorem cl_add {x y k : Int32} (h0 : 0 ≤ y) (h1 : y ≤ 84000) (hk : 0 ≤ k) (hk4 : k ≤ 4) (h : x ≤ y + k) : x.toNatClampNeg ≤ y.toNatClampNeg + 4 := by
  have h2 := Int32.le_iff_toInt_le.mp h0
  have h3 := Int32.le_iff_toInt_le.mp h1
  have h4 := Int32.le_iff_toInt_le.mp h
  have h5 := Int32.le_iff_toInt_le.mp hk
  have h6 := Int32.le_iff_toInt_le.mp hk4
  rw [Int32.toInt_add] at h4
  simp [Int.bmod_def] at h2 h3 h4 h5 h6
  show x.toInt.toNat ≤ y.toInt.toNat + 4
  omega
/-- the cells of what happened -/
def evC (M x j : Nat) : Prop := x = (M + 24) ∨ x = (M + 25) ∨ x = (M + 26) ∨ (x = M ∧ j = 35)
/-- a change of a place is kept of this hour -/
def fc (M : Nat) (J : Nat → Nat → Int32) (w : Int32) : Prop := ∃ e : Int32, 0 ≤ e ∧ e < J M 35 ∧ J (M + 24) e.toNatClampNeg = w ∧ ∀ i : Int32, e ≤ i → i < J M 35 → J (M + 25) i.toNatClampNeg = J M 0
def hp (M : Nat) (w : Int32) (J J2 : Nat → Nat → Int32) : Prop := mR M J2 ∧ (∀ x j, ¬ evC M x j → J2 x j = J x j) ∧ fc M J2 w ∧ (∀ w', fc M J w' → fc M J2 w') ∧ (fc M J w → J2 M 35 = J M 35) ∧ (J2 M 35 = J M 35 ∨ J2 M 35 = J M 35 + 1)
theorem hp_over (hR : mR M J) {w v e : Int32} (h0 : 0 ≤ e) (he : e < J M 35) (hw : J (M + 24) e.toNatClampNeg = w) (hh : ∀ i : Int32, e ≤ i → i < J M 35 → J (M + 25) i.toNatClampNeg = J M 0) : hp M w J (a_ui J (M + 26) e.toNatClampNeg v) := by
  have hf : ∀ w', fc M J w' → fc M (a_ui J (M + 26) e.toNatClampNeg v) w' := by
    rintro w' ⟨e1, q1, q2, q3, q4⟩
    refine ⟨e1, q1, ?_, ?_, ?_⟩
    · simpa [ui_ap] using q2
    · simpa [ui_ap] using q3
    · simpa [ui_ap] using q4
  refine ⟨sR_eAsk hR, fun x j hx => ?_, hf w ⟨e, h0, he, hw, hh⟩, hf, fun _ => ?_, Or.inl ?_⟩
  · rw [ui_ap, if_neg (by unfold evC at hx; omega)]
  · simp [ui_ap]
  · simp [ui_ap]
theorem hp_new (hR : mR M J) {w v : Int32} (he : J M 35 < 84000) (hn : ¬ fc M J w) : hp M w J (a_ui (a_ui (a_ui (a_ui J (M + 24) (J M 35).toNatClampNeg w) (M + 25) (J M 35).toNatClampNeg (J M 0)) (M + 26) (J M 35).toNatClampNeg v) M 35 (J M 35 + 1)) := by
  have hv := rg_events hR
  have g0 : ∀ i : Int32, 0 ≤ i → i < J M 35 → ¬ i.toNatClampNeg = (J M 35).toNatClampNeg := fun i h1 h2 h3 => by have := cl_lt h1 h2; omega
  refine ⟨sR_events (sR_eAsk (sR_eHour (sR_eWhere hR))) (by grind), fun x j hx => ?_, ?_, ?_, fun h => absurd h hn, Or.inr ?_⟩
  · unfold evC at hx
    rw [ui_ap, if_neg (by omega), ui_ap, if_neg (by omega), ui_ap, if_neg (by omega), ui_ap, if_neg (by omega)]
  · refine ⟨J M 35, hv.1, ?_, ?_, ?_⟩
    · simp only [ui_ap, ne_MM, ne_M0, ne_0M, Nat.reduceEqDiff, false_and, and_false, if_false, and_self, if_true]
      grind
    · simp [ui_ap]
    · intro i h1 h2
      simp only [ui_ap, ne_MM, ne_M0, ne_0M, Nat.reduceEqDiff, false_and, and_false, if_false, and_self, if_true] at h2 ⊢
      have : i = J M 35 := by grind
      simp [this]
  · rintro w' ⟨e1, q1, q2, q3, q4⟩
    refine ⟨e1, q1, ?_, ?_, ?_⟩
    · simp only [ui_ap, ne_MM, ne_M0, ne_0M, Nat.reduceEqDiff, false_and, and_false, if_false, and_self, if_true]
      grind
    · simp only [ui_ap, ne_MM, ne_M0, ne_0M, Nat.reduceEqDiff, false_and, and_false, if_false, and_self, if_true, true_and]
      rw [if_neg (g0 e1 q1 q2)]
      exact q3
    · intro i h1 h2
      simp only [ui_ap, ne_MM, ne_M0, ne_0M, Nat.reduceEqDiff, false_and, and_false, if_false, and_self, if_true, true_and] at h2 ⊢
      by_cases hi : i = J M 35
      · simp [hi]
      · rw [if_neg (g0 i (by grind) (by grind))]
        exact q4 i h1 (by grind)
  · simp [ui_ap]
theorem lp_happened_17 (hS : m_S M K L R) (hR : mR M J) {b s a w : Int32} (hw : 200 * b + s = w) (hev : J M 35 < 84000) (hP : ∀ J2, hp M w J J2 → P none (n, t, K, L, J2, R)) : ∀ e : Int32, -1 ≤ e → e < J M 35 → (∀ i : Int32, e < i → i < J M 35 → J (M + 25) i.toNatClampNeg = J M 0 ∧ ¬ J (M + 24) i.toNatClampNeg = w) → a_at d (a_xm a_m187) 17 [some (a_rf M), some (.int b), some (.int s), some (.int a), some (.int w), some (.int e)] [] (n, t, K, L, J, R) P := by
  have hv := rg_events hR
  refine dn_ind (-1) (fun e he ih => ?_)
  intro h1 hi
  have hn : (e < 0 ∨ ¬ J (M + 25) e.toNatClampNeg = J M 0) → ¬ fc M J w := by
    rintro h2 ⟨e1, q1, q2, q3, q4⟩
    have q5 : ¬ e < e1 := fun q => (hi e1 q q2).2 q3
    cases h2 with
    | inl h2 => grind
    | inr h2 => exact h2 (q4 e (by grind) h1)
  rw [q187_17]
  simp only [q187_19, q187_22, q187_23, q187_26, q187_28, q187_29, q187_30, q187_33, q187_36, q187_37, q187_40, q187_42, q187_43, q187_45, q187_48, q187_49, q187_52, q187_54, q187_55, q187_56, q187_57, q187_60, q187_63, q187_64, q187_67, q187_68, q187_71, q187_73, q187_74, q187_75, q187_78, q187_79, q187_82, q187_83, q187_86, q187_87, q187_88, q187_91, q187_92, q187_95, q187_96, q187_97, q187_98, q187_99, q187_102, q187_103, q187_104, q187_107, m_0 hS, m_K hS, mR_eHour hS, mK_eHour hS, mL_eHour hS, mR_eWhere hS, mK_eWhere hS, mL_eWhere hS, mR_eAsk hS, mK_eAsk hS, mL_eAsk hS, as_nil, as_i, as_r, Nat.reduceAdd, Nat.reduceLeDiff, z_eq0, z_eq1, z_or, z_em, Classical.not_not, not_false_eq_true, not_true_eq_false, true_and, and_true, false_and, and_false, and_self, true_implies, false_implies, implies_true, Option.toList_some, Option.toList_none, List.cons_append, List.nil_append, Nat.add_eq_zero_iff, a_nl_i, a_nl_r, a_nl_n, true_or, or_true, eq_self, ok_4, ok_5, ok_6, ok_7, ok_9, ok_10, ok_20, ok_21, ok_24, ok_30, ok_48, ok_50, ok_60, ok_80, ok_120, ok_180, ok_192, ok_200, ok_900, ok_1000, ok_84000]
  have hnew := fun h => hP _ (hp_new (v := a) hR hev (hn h))
  have hov := fun h0 hw hh => hP _ (hp_over (e := e) (w := w) (v := a) hR h0 h1 hw hh)
  refine ⟨fun h2 => ?_, fun h2 => ⟨by grind, fun h3 => ?_, fun h3 => ⟨by grind, fun h4 => ?_, fun h4 => ?_⟩⟩⟩
  · simp only [ui_ap, ne_MM, ne_M0, ne_0M, Nat.reduceEqDiff, false_and, and_false, if_false]
    exact ⟨by grind, by grind, by grind, hnew (Or.inl h2)⟩
  · simp only [ui_ap, ne_MM, ne_M0, ne_0M, Nat.reduceEqDiff, false_and, and_false, if_false]
    exact ⟨by grind, by grind, by grind, hnew (Or.inr h3)⟩
  · exact ih (by grind) (by grind) (fun i q1 q2 => by
      by_cases hie : i = e
      · subst hie; exact ⟨by simpa using h3, h4⟩
      · exact hi i (by grind) q2)
  · exact ⟨by grind, hov (by grind) (by simpa using h4) (fun i q1 q2 => by
      by_cases hie : i = e
      · subst hie; simpa using h3
      · exact (hi i (by grind) q2).1)⟩
theorem ct_happened (hS : m_S M K L R) (hR : mR M J) {b s a : Int32} (hev : J M 35 < 84000) (hP : ∀ J2, hp M (200 * b + s) J J2 → P none (n, t, K, L, J2, R)) : a_does (d + 1) 187 [a_rf M, .int b, .int s, .int a] (n, t, K, L, J, R) P := by
  have hv := rg_events hR
  rw [a_enter1 (M := a_m187) rfl (a_cat_rf (a_cat_int (a_cat_int (a_cat_int a_cat_nil)))) (show 4 ≤ 6 by decide)]
  show a_at _ (a_xm a_m187) 0 [some (a_rf M), some (.int b), some (.int s), some (.int a), none, none] [] _ _
  simp only [q187_0, q187_3, q187_4, q187_5, q187_6, q187_7, q187_9, q187_10, q187_13, q187_14, q187_15, m_0 hS, m_K hS, as_nil, as_i, as_r, Nat.reduceAdd, Nat.reduceLeDiff, z_eq0, z_eq1, z_or, z_em, Classical.not_not, not_false_eq_true, not_true_eq_false, true_and, and_true, false_and, and_false, and_self, true_implies, false_implies, implies_true, Option.toList_some, Option.toList_none, List.cons_append, List.nil_append, Nat.add_eq_zero_iff, a_nl_i, a_nl_r, a_nl_n, true_or, or_true, eq_self, ok_4, ok_5, ok_6, ok_7, ok_9, ok_10, ok_20, ok_21, ok_24, ok_30, ok_48, ok_50, ok_60, ok_80, ok_120, ok_180, ok_192, ok_200, ok_900, ok_1000, ok_84000]
  exact lp_happened_17 hS hR rfl hev hP _ (by grind) (by grind) (fun i q1 q2 => by grind)
end RX
end
section
/-! giving and taking back -/
section RY
variable {d n t M : Nat} {K L : Nat → Nat} {I I0 J J0 J1 J2 : Nat → Nat → Int32} {R : Nat → Nat → Nat} {P : Option Value → AH → Prop}
def sm (g : Nat → Nat) : Nat → Nat
  | 0 => 0
  | k + 1 => sm g k + g k
theorem sm_eq {g g' : Nat → Nat} : ∀ {m : Nat}, (∀ x, x < m → g' x = g x) → sm g' m = sm g m := by
  intro m
  induction m with
  | zero => intro _; rfl
  | succ m ih => intro h; show sm g' m + g' m = sm g m + g m; rw [ih (fun x hx => h x (by omega)), h m (by omega)]
theorem sm_up {g : Nat → Nat} {k v : Nat} : ∀ {m : Nat}, k < m → sm (fun x => if x = k then v else g x) m + g k = sm g m + v := by
  intro m
  induction m with
  | zero => intro h; omega
  | succ m ih =>
    intro h
    show sm _ m + (if m = k then v else g m) + g k = sm g m + g m + v
    by_cases hk : m = k
    · subst hk
      rw [if_pos rfl, sm_eq (g := g) (fun x hx => by rw [if_neg (by omega)])]
      omega
    · have := ih (by omega)
      rw [if_neg hk]
      omega
theorem fc_eq (h1 : J M 35 = I M 35) (h2 : ∀ j, J (M + 24) j = I (M + 24) j) (h3 : ∀ j, J (M + 25) j = I (M + 25) j) (h4 : J M 0 = I M 0) {w : Int32} : fc M J w ↔ fc M I w := by
  unfold fc
  simp only [h1, h2, h3, h4]
/-- all of a place was given at this hour -/
def frs (M : Nat) (J : Nat → Nat → Int32) (a : Int32) : Prop := ∀ i : Int32, 0 ≤ i → i < J (M + 10) a.toNatClampNeg → fc M J (200 * J (M + 20) a.toNatClampNeg + (J (M + 21) a.toNatClampNeg + i))
/-- what happened so far, and what the places of elder hours may cost yet -/
def mE (M c : Nat) (J : Nat → Nat → Int32) : Prop := ∃ g : Nat → Nat, (∀ a : Int32, 0 ≤ a → a < J M 17 → 0 ≤ J (M + 20) a.toNatClampNeg → frs M J a ∨ 4 ≤ g a.toNatClampNeg) ∧ (J M 35).toNatClampNeg + sm g 30 ≤ c
theorem mE_le {c c' : Nat} (h : mE M c J) (hc : c ≤ c') : mE M c' J := by
  obtain ⟨g, h1, h2⟩ := h
  exact ⟨g, h1, by omega⟩
theorem mE_ev {c : Nat} (h : mE M c J) (hR : mR M J) (hc : c + 4 ≤ 84000) : J M 35 ≤ 83996 := by
  obtain ⟨g, h1, h2⟩ := h
  have h3 := rg_events hR
  have h4 := Int32.le_iff_toInt_le.mp h3.1
  rw [Int32.le_iff_toInt_le]
  have h5 : (J M 35).toInt.toNat + sm g 30 ≤ c := h2
  simp at h4 ⊢
  omega
theorem mE_eq {c : Nat} (h : mE M c I) (h1 : J M 35 = I M 35) (h2 : ∀ j, J (M + 24) j = I (M + 24) j) (h3 : ∀ j, J (M + 25) j = I (M + 25) j) (h4 : J M 0 = I M 0) (h5 : J M 17 = I M 17) (h6 : ∀ j, J (M + 10) j = I (M + 10) j) (h7 : ∀ j, J (M + 20) j = I (M + 20) j) (h8 : ∀ j, J (M + 21) j = I (M + 21) j) : mE M c J := by
  obtain ⟨g, q1, q2⟩ := h
  refine ⟨g, ?_, by rw [h1]; exact q2⟩
  intro a ha hk hb
  rw [h5] at hk
  rw [h7] at hb
  cases q1 a ha hk hb with
  | inl q => exact Or.inl (fun i i0 i1 => by rw [h6] at i1; rw [fc_eq h1 h2 h3 h4, h7, h8]; exact q i i0 i1)
  | inr q => exact Or.inr q
theorem mE_C {c : Nat} (h : mE M c I) (hC : mC M I J) : mE M c J := mE_eq h (eS_events hC) (eS_eWhere hC) (eS_eHour hC) (eS_now hC) (eS_asks hC) (eS_length hC) (eS_atBench hC) (eS_atShift hC)
/-- one ask is at another place; it is fresh there, or has none -/
theorem mE_step {c δ : Nat} {a : Int32} (ha : 0 ≤ a ∧ a < 30) (h : mE M c I) (hk : J M 17 = I M 17) (hl : ∀ j, J (M + 10) j = I (M + 10) j) (hb : ∀ j, ¬ j = a.toNatClampNeg → J (M + 20) j = I (M + 20) j) (hs : ∀ j, ¬ j = a.toNatClampNeg → J (M + 21) j = I (M + 21) j) (hf : ∀ w, fc M I w → fc M J w) (ha' : 0 ≤ J (M + 20) a.toNatClampNeg → frs M J a) (he : (J M 35).toNatClampNeg ≤ (I M 35).toNatClampNeg + δ) : mE M (c + δ) J ∧ (a < I M 17 → 0 ≤ I (M + 20) a.toNatClampNeg → δ = 4 → (frs M I a → J M 35 = I M 35) → mE M c J) := by
  obtain ⟨g, q1, q2⟩ := h
  have hk30 : a.toNatClampNeg < 30 := (show a.toNatClampNeg < (30 : Int32).toNatClampNeg from cl_lt ha.1 ha.2)
  have hs0 := sm_up (g := g) (k := a.toNatClampNeg) (v := 0) hk30
  have hg : ∀ a1 : Int32, 0 ≤ a1 → a1 < J M 17 → 0 ≤ J (M + 20) a1.toNatClampNeg → frs M J a1 ∨ 4 ≤ (fun x => if x = a.toNatClampNeg then 0 else g x) a1.toNatClampNeg := by
    intro a1 p1 p2 p3
    by_cases hc : a1 = a
    · subst hc; exact Or.inl (ha' p3)
    · have hne : ¬ a1.toNatClampNeg = a.toNatClampNeg := fun q => hc (cl_inj p1 ha.1 q)
      rw [hk] at p2
      rw [hb _ hne] at p3
      show frs M J a1 ∨ 4 ≤ (if a1.toNatClampNeg = a.toNatClampNeg then 0 else g a1.toNatClampNeg)
      rw [if_neg hne]
      cases q1 a1 p1 p2 p3 with
      | inl q => exact Or.inl (fun i i0 i1 => by rw [hl] at i1; rw [hb _ hne, hs _ hne]; exact hf _ (q i i0 i1))
      | inr q => exact Or.inr q
  refine ⟨⟨(fun x => if x = a.toNatClampNeg then 0 else g x), hg, by omega⟩, fun p1 p2 p3 p4 => ⟨(fun x => if x = a.toNatClampNeg then 0 else g x), hg, ?_⟩⟩
  cases q1 a ha.1 p1 p2 with
  | inl q => rw [p4 q]; omega
  | inr q => omega
/-- k places of a row of SHIFTS happened -/
def hq (M : Nat) (b s k : Int32) (J0 J : Nat → Nat → Int32) : Prop := mR M J ∧ (∀ x j, ¬ evC M x j → J x j = J0 x j) ∧ (∀ i : Int32, 0 ≤ i → i < k → fc M J (200 * b + (s + i))) ∧ (∀ w, fc M J0 w → fc M J w) ∧ (J0 M 35 ≤ J M 35 ∧ J M 35 ≤ J0 M 35 + k) ∧ ((∀ i : Int32, 0 ≤ i → i < k → fc M J0 (200 * b + (s + i))) → J M 35 = J0 M 35)
theorem hq_refl (hR : mR M J) {b s : Int32} : hq M b s 0 J J := ⟨hR, fun _ _ _ => rfl, fun i h0 h1 => by grind, fun _ h => h, by grind, fun _ => rfl⟩
theorem hq_step {b s k : Int32} (h : hq M b s k J0 J) (h2 : hp M (200 * b + (s + k)) J J2) (hk : 0 ≤ k ∧ k < 4) (hv : J0 M 35 ≤ 83996) (hv0 : 0 ≤ J0 M 35) : hq M b s (k + 1) J0 J2 := by
  obtain ⟨q1, q2, q3, q4, q5, q6⟩ := h
  obtain ⟨p1, p2, p3, p4, p5, p6⟩ := h2
  have q7 : J0 M 35 ≤ J2 M 35 ∧ J2 M 35 ≤ J0 M 35 + (k + 1) := by
    clear q6 q4 q3 q2 p5 p4 p3 p2 q1 p1
    rcases p6 with p6 | p6 <;> rw [p6] <;> grind
  refine ⟨p1, fun x j hx => (p2 x j hx).trans (q2 x j hx), fun i h0 h1 => ?_, fun w hw => p4 w (q4 w hw), q7, fun hz => ?_⟩
  · by_cases hik : i = k
    · subst hik; exact p3
    · exact p4 _ (q3 i h0 (by grind))
  · rw [p5 (q4 _ (hz k hk.1 (by grind))), q6 (fun i h0 h1 => hz i h0 (by grind))]
theorem lp_takeFrom_2 (hS : m_S M K L R) {a : Int32} (ha : 0 ≤ a ∧ a < 30) (hv : J0 M 35 ≤ 83996) (hv0 : 0 ≤ J0 M 35) (hP : ∀ J, hq M (J0 (M + 20) a.toNatClampNeg) (J0 (M + 21) a.toNatClampNeg) (J0 (M + 10) a.toNatClampNeg) J0 J → P none (n, t, K, L, (a_ui (a_ui J (M + 20) a.toNatClampNeg (-9)) (M + 21) a.toNatClampNeg (-9)), R)) : ∀ i : Int32, i ≤ 4 → ∀ J, 0 ≤ i → i ≤ J0 (M + 10) a.toNatClampNeg → hq M (J0 (M + 20) a.toNatClampNeg) (J0 (M + 21) a.toNatClampNeg) i J0 J → a_at (d + 1) (a_xm a_m186) 2 [some (a_rf M), some (.int a), some (.int i)] [] (n, t, K, L, J, R) P := by
  refine up_ind 4 (fun i hi ih => ?_)
  intro J h0 hl hq
  have e1 : J (M + 10) a.toNatClampNeg = J0 (M + 10) a.toNatClampNeg := hq.2.1 _ _ (by unfold evC; omega)
  have e2 : J (M + 20) a.toNatClampNeg = J0 (M + 20) a.toNatClampNeg := hq.2.1 _ _ (by unfold evC; omega)
  have e3 : J (M + 21) a.toNatClampNeg = J0 (M + 21) a.toNatClampNeg := hq.2.1 _ _ (by unfold evC; omega)
  have g1 := rg_length hq.1
  have g2 := g1 a.toNatClampNeg
  have g3 := hq.2.2.2.2.1
  rw [q186_2]
  simp only [q186_0, q186_1, q186_3, q186_4, q186_7, q186_8, q186_9, q186_12, q186_13, q186_14, q186_17, q186_18, q186_19, q186_20, q186_23, q186_24, q186_25, q186_26, q186_27, q186_29, q186_32, q186_35, q186_38, q186_39, q186_42, q186_43, q186_45, q186_46, q186_47, q186_50, q186_51, q186_53, q186_54, m_0 hS, m_K hS, mR_length hS, mK_length hS, mL_length hS, mR_atBench hS, mK_atBench hS, mL_atBench hS, mR_atShift hS, mK_atShift hS, mL_atShift hS, as_nil, as_i, as_r, Nat.reduceAdd, Nat.reduceLeDiff, z_eq0, z_eq1, z_or, z_em, Classical.not_not, not_false_eq_true, not_true_eq_false, true_and, and_true, false_and, and_false, and_self, true_implies, false_implies, implies_true, Option.toList_some, Option.toList_none, List.cons_append, List.nil_append, Nat.add_eq_zero_iff, a_nl_i, a_nl_r, a_nl_n, true_or, or_true, eq_self, ok_4, ok_5, ok_6, ok_7, ok_9, ok_10, ok_20, ok_21, ok_24, ok_30, ok_48, ok_50, ok_60, ok_80, ok_120, ok_180, ok_192, ok_200, ok_900, ok_1000, ok_84000, e1, e2, e3]
  refine ⟨by grind, fun h => ⟨by grind, by grind, hP J (by rw [show J0 (M + 10) a.toNatClampNeg = i by grind]; exact hq)⟩, fun h => ⟨by grind, by grind, ?_⟩⟩
  refine ct_happened hS hq.1 (by grind) (fun J2 hp => ?_)
  simp only [q186_0, q186_1, q186_3, q186_4, q186_7, q186_8, q186_9, q186_12, q186_13, q186_14, q186_17, q186_18, q186_19, q186_20, q186_23, q186_24, q186_25, q186_26, q186_27, q186_29, q186_32, q186_35, q186_38, q186_39, q186_42, q186_43, q186_45, q186_46, q186_47, q186_50, q186_51, q186_53, q186_54, m_0 hS, m_K hS, mR_length hS, mK_length hS, mL_length hS, mR_atBench hS, mK_atBench hS, mL_atBench hS, mR_atShift hS, mK_atShift hS, mL_atShift hS, as_nil, as_i, as_r, Nat.reduceAdd, Nat.reduceLeDiff, z_eq0, z_eq1, z_or, z_em, Classical.not_not, not_false_eq_true, not_true_eq_false, true_and, and_true, false_and, and_false, and_self, true_implies, false_implies, implies_true, Option.toList_some, Option.toList_none, List.cons_append, List.nil_append, Nat.add_eq_zero_iff, a_nl_i, a_nl_r, a_nl_n, true_or, or_true, eq_self, ok_4, ok_5, ok_6, ok_7, ok_9, ok_10, ok_20, ok_21, ok_24, ok_30, ok_48, ok_50, ok_60, ok_80, ok_120, ok_180, ok_192, ok_200, ok_900, ok_1000, ok_84000]
  exact ih (by grind) J2 (by grind) (by grind) (hq_step hq hp (by grind) hv hv0)
end RY
end
section
/-! contracts of giving and taking back -/
section RZ
variable {d n t M : Nat} {K L : Nat → Nat} {I I0 J J0 J1 J2 : Nat → Nat → Int32} {R : Nat → Nat → Nat} {P : Option Value → AH → Prop}
/-- a good successor: ranges, what only some calls may change, the row of events -/
def mF (M c : Nat) (I J : Nat → Nat → Int32) : Prop := mG M I J ∧ mE M c J
theorem mF_le {c c' : Nat} (h : mF M c I J) (hc : c ≤ c') : mF M c' I J := ⟨h.1, mE_le h.2 hc⟩
theorem mF_C {c : Nat} (h : mF M c I0 I) (hC : mC M I J) : mF M c I0 J := ⟨mG_C h.1 hC, mE_C h.2 hC⟩
theorem sE_hasDraft {c : Nat} (h : mE M c J) {v : Int32} : mE M c (a_ui J M 12 v) := mE_eq h (by simp [ui_ap]) (by simp [ui_ap]) (by simp [ui_ap]) (by simp [ui_ap]) (by simp [ui_ap]) (by simp [ui_ap]) (by simp [ui_ap]) (by simp [ui_ap])
theorem sE_draftGroup {c : Nat} (h : mE M c J) {v : Int32} : mE M c (a_ui J M 13 v) := mE_eq h (by simp [ui_ap]) (by simp [ui_ap]) (by simp [ui_ap]) (by simp [ui_ap]) (by simp [ui_ap]) (by simp [ui_ap]) (by simp [ui_ap]) (by simp [ui_ap])
theorem sE_draftLand {c : Nat} (h : mE M c J) {v : Int32} : mE M c (a_ui J M 14 v) := mE_eq h (by simp [ui_ap]) (by simp [ui_ap]) (by simp [ui_ap]) (by simp [ui_ap]) (by simp [ui_ap]) (by simp [ui_ap]) (by simp [ui_ap]) (by simp [ui_ap])
theorem sE_draftLong {c : Nat} (h : mE M c J) {v : Int32} : mE M c (a_ui J M 15 v) := mE_eq h (by simp [ui_ap]) (by simp [ui_ap]) (by simp [ui_ap]) (by simp [ui_ap]) (by simp [ui_ap]) (by simp [ui_ap]) (by simp [ui_ap]) (by simp [ui_ap])
theorem sE_draftWants {c : Nat} (h : mE M c J) {v : Int32} : mE M c (a_ui J M 16 v) := mE_eq h (by simp [ui_ap]) (by simp [ui_ap]) (by simp [ui_ap]) (by simp [ui_ap]) (by simp [ui_ap]) (by simp [ui_ap]) (by simp [ui_ap]) (by simp [ui_ap])
theorem sE_group {c : Nat} (h : mE M c J) {k : Nat} {v : Int32} : mE M c (a_ui J (M + 8) k v) := mE_eq h (by simp [ui_ap]) (by simp [ui_ap]) (by simp [ui_ap]) (by simp [ui_ap]) (by simp [ui_ap]) (by simp [ui_ap]) (by simp [ui_ap]) (by simp [ui_ap])
theorem sE_benchSet {c : Nat} (h : mE M c J) {k : Nat} {v : Int32} : mE M c (a_ui J (M + 12) k v) := mE_eq h (by simp [ui_ap]) (by simp [ui_ap]) (by simp [ui_ap]) (by simp [ui_ap]) (by simp [ui_ap]) (by simp [ui_ap]) (by simp [ui_ap]) (by simp [ui_ap])
theorem sF_benchSet {c : Nat} (h : mF M c I J) {k : Nat} {v : Int32} : mF M c I (a_ui J (M + 12) k v) := ⟨sG_benchSet h.1, sE_benchSet h.2⟩
theorem sE_modeSet {c : Nat} (h : mE M c J) {k : Nat} {v : Int32} : mE M c (a_ui J (M + 13) k v) := mE_eq h (by simp [ui_ap]) (by simp [ui_ap]) (by simp [ui_ap]) (by simp [ui_ap]) (by simp [ui_ap]) (by simp [ui_ap]) (by simp [ui_ap]) (by simp [ui_ap])
theorem sF_modeSet {c : Nat} (h : mF M c I J) {k : Nat} {v : Int32} : mF M c I (a_ui J (M + 13) k v) := ⟨sG_modeSet h.1, sE_modeSet h.2⟩
theorem sE_gear {c : Nat} (h : mE M c J) {k : Nat} {v : Int32} : mE M c (a_ui J (M + 14) k v) := mE_eq h (by simp [ui_ap]) (by simp [ui_ap]) (by simp [ui_ap]) (by simp [ui_ap]) (by simp [ui_ap]) (by simp [ui_ap]) (by simp [ui_ap]) (by simp [ui_ap])
theorem sF_gear {c : Nat} (h : mF M c I J) {k : Nat} {v : Int32} : mF M c I (a_ui J (M + 14) k v) := ⟨sG_gear h.1, sE_gear h.2⟩
theorem sE_danger {c : Nat} (h : mE M c J) {k : Nat} {v : Int32} : mE M c (a_ui J (M + 15) k v) := mE_eq h (by simp [ui_ap]) (by simp [ui_ap]) (by simp [ui_ap]) (by simp [ui_ap]) (by simp [ui_ap]) (by simp [ui_ap]) (by simp [ui_ap]) (by simp [ui_ap])
theorem sF_danger {c : Nat} (h : mF M c I J) {k : Nat} {v : Int32} : mF M c I (a_ui J (M + 15) k v) := ⟨sG_danger h.1, sE_danger h.2⟩
theorem sE_isGone {c : Nat} (h : mE M c J) {k : Nat} {v : Int32} : mE M c (a_ui J (M + 18) k v) := mE_eq h (by simp [ui_ap]) (by simp [ui_ap]) (by simp [ui_ap]) (by simp [ui_ap]) (by simp [ui_ap]) (by simp [ui_ap]) (by simp [ui_ap]) (by simp [ui_ap])
theorem sF_isGone {c : Nat} (h : mF M c I J) {k : Nat} {v : Int32} : mF M c I (a_ui J (M + 18) k v) := ⟨sG_isGone h.1, sE_isGone h.2⟩
theorem sE_wasOwed {c : Nat} (h : mE M c J) {k : Nat} {v : Int32} : mE M c (a_ui J (M + 19) k v) := mE_eq h (by simp [ui_ap]) (by simp [ui_ap]) (by simp [ui_ap]) (by simp [ui_ap]) (by simp [ui_ap]) (by simp [ui_ap]) (by simp [ui_ap]) (by simp [ui_ap])
theorem sF_wasOwed {c : Nat} (h : mF M c I J) {k : Nat} {v : Int32} : mF M c I (a_ui J (M + 19) k v) := ⟨sG_wasOwed h.1, sE_wasOwed h.2⟩
theorem sE_refused {c : Nat} (h : mE M c J) {k : Nat} {v : Int32} : mE M c (a_ui J (M + 23) k v) := mE_eq h (by simp [ui_ap]) (by simp [ui_ap]) (by simp [ui_ap]) (by simp [ui_ap]) (by simp [ui_ap]) (by simp [ui_ap]) (by simp [ui_ap]) (by simp [ui_ap])
theorem sF_refused {c : Nat} (h : mF M c I J) {k : Nat} {v : Int32} : mF M c I (a_ui J (M + 23) k v) := ⟨sG_refused h.1, sE_refused h.2⟩
theorem sE_marks {c : Nat} (h : mE M c J) {k : Nat} {v : Int32} : mE M c (a_ui J (M + 36) k v) := mE_eq h (by simp [ui_ap]) (by simp [ui_ap]) (by simp [ui_ap]) (by simp [ui_ap]) (by simp [ui_ap]) (by simp [ui_ap]) (by simp [ui_ap]) (by simp [ui_ap])
theorem sF_marks {c : Nat} (h : mF M c I J) {k : Nat} {v : Int32} : mF M c I (a_ui J (M + 36) k v) := ⟨sG_marks h.1, sE_marks h.2⟩
theorem sE_isMarked {c : Nat} (h : mE M c J) {k : Nat} {v : Int32} : mE M c (a_ui J (M + 37) k v) := mE_eq h (by simp [ui_ap]) (by simp [ui_ap]) (by simp [ui_ap]) (by simp [ui_ap]) (by simp [ui_ap]) (by simp [ui_ap]) (by simp [ui_ap]) (by simp [ui_ap])
theorem sF_isMarked {c : Nat} (h : mF M c I J) {k : Nat} {v : Int32} : mF M c I (a_ui J (M + 37) k v) := ⟨sG_isMarked h.1, sE_isMarked h.2⟩
theorem sE_doesCount {c : Nat} (h : mE M c J) {k : Nat} {v : Int32} : mE M c (a_ui J (M + 38) k v) := mE_eq h (by simp [ui_ap]) (by simp [ui_ap]) (by simp [ui_ap]) (by simp [ui_ap]) (by simp [ui_ap]) (by simp [ui_ap]) (by simp [ui_ap]) (by simp [ui_ap])
theorem sF_doesCount {c : Nat} (h : mF M c I J) {k : Nat} {v : Int32} : mF M c I (a_ui J (M + 38) k v) := ⟨sG_doesCount h.1, sE_doesCount h.2⟩
theorem sE_passedMany {c : Nat} (h : mE M c J) {v : Int32} : mE M c (a_ui J M 61 v) := mE_eq h (by simp [ui_ap]) (by simp [ui_ap]) (by simp [ui_ap]) (by simp [ui_ap]) (by simp [ui_ap]) (by simp [ui_ap]) (by simp [ui_ap]) (by simp [ui_ap])
theorem sF_passedMany {c : Nat} (h : mF M c I J) {v : Int32} (hv : (0) ≤ v ∧ v ≤ 30) : mF M c I (a_ui J M 61 v) := ⟨sG_passedMany h.1 hv, sE_passedMany h.2⟩
theorem sE_passedAsk {c : Nat} (h : mE M c J) {k : Nat} {v : Int32} : mE M c (a_ui J (M + 39) k v) := mE_eq h (by simp [ui_ap]) (by simp [ui_ap]) (by simp [ui_ap]) (by simp [ui_ap]) (by simp [ui_ap]) (by simp [ui_ap]) (by simp [ui_ap]) (by simp [ui_ap])
theorem sF_passedAsk {c : Nat} (h : mF M c I J) {k : Nat} {v : Int32} : mF M c I (a_ui J (M + 39) k v) := ⟨sG_passedAsk h.1, sE_passedAsk h.2⟩
theorem sE_order {c : Nat} (h : mE M c J) {k : Nat} {v : Int32} : mE M c (a_ui J (M + 40) k v) := mE_eq h (by simp [ui_ap]) (by simp [ui_ap]) (by simp [ui_ap]) (by simp [ui_ap]) (by simp [ui_ap]) (by simp [ui_ap]) (by simp [ui_ap]) (by simp [ui_ap])
theorem sF_order {c : Nat} (h : mF M c I J) {k : Nat} {v : Int32} (hv : (0) ≤ v ∧ v ≤ 29) : mF M c I (a_ui J (M + 40) k v) := ⟨sG_order h.1 hv, sE_order h.2⟩
theorem sE_orderMany {c : Nat} (h : mE M c J) {v : Int32} : mE M c (a_ui J M 64 v) := mE_eq h (by simp [ui_ap]) (by simp [ui_ap]) (by simp [ui_ap]) (by simp [ui_ap]) (by simp [ui_ap]) (by simp [ui_ap]) (by simp [ui_ap]) (by simp [ui_ap])
theorem sF_orderMany {c : Nat} (h : mF M c I J) {v : Int32} : mF M c I (a_ui J M 64 v) := ⟨sG_orderMany h.1, sE_orderMany h.2⟩
theorem sE_few {c : Nat} (h : mE M c J) {k : Nat} {v : Int32} : mE M c (a_ui J (M + 41) k v) := mE_eq h (by simp [ui_ap]) (by simp [ui_ap]) (by simp [ui_ap]) (by simp [ui_ap]) (by simp [ui_ap]) (by simp [ui_ap]) (by simp [ui_ap]) (by simp [ui_ap])
theorem sF_few {c : Nat} (h : mF M c I J) {k : Nat} {v : Int32} (hv : (0) ≤ v ∧ v ≤ 29) : mF M c I (a_ui J (M + 41) k v) := ⟨sG_few h.1 hv, sE_few h.2⟩
theorem sE_fewMany {c : Nat} (h : mE M c J) {v : Int32} : mE M c (a_ui J M 66 v) := mE_eq h (by simp [ui_ap]) (by simp [ui_ap]) (by simp [ui_ap]) (by simp [ui_ap]) (by simp [ui_ap]) (by simp [ui_ap]) (by simp [ui_ap]) (by simp [ui_ap])
theorem sF_fewMany {c : Nat} (h : mF M c I J) {v : Int32} : mF M c I (a_ui J M 66 v) := ⟨sG_fewMany h.1, sE_fewMany h.2⟩
theorem sE_wasBench {c : Nat} (h : mE M c J) {k : Nat} {v : Int32} : mE M c (a_ui J (M + 45) k v) := mE_eq h (by simp [ui_ap]) (by simp [ui_ap]) (by simp [ui_ap]) (by simp [ui_ap]) (by simp [ui_ap]) (by simp [ui_ap]) (by simp [ui_ap]) (by simp [ui_ap])
theorem sF_wasBench {c : Nat} (h : mF M c I J) {k : Nat} {v : Int32} : mF M c I (a_ui J (M + 45) k v) := ⟨sG_wasBench h.1, sE_wasBench h.2⟩
theorem sE_wasShift {c : Nat} (h : mE M c J) {k : Nat} {v : Int32} : mE M c (a_ui J (M + 46) k v) := mE_eq h (by simp [ui_ap]) (by simp [ui_ap]) (by simp [ui_ap]) (by simp [ui_ap]) (by simp [ui_ap]) (by simp [ui_ap]) (by simp [ui_ap]) (by simp [ui_ap])
theorem sF_wasShift {c : Nat} (h : mF M c I J) {k : Nat} {v : Int32} : mF M c I (a_ui J (M + 46) k v) := ⟨sG_wasShift h.1, sE_wasShift h.2⟩
theorem sE_isWish {c : Nat} (h : mE M c J) {k : Nat} {v : Int32} : mE M c (a_ui J (M + 47) k v) := mE_eq h (by simp [ui_ap]) (by simp [ui_ap]) (by simp [ui_ap]) (by simp [ui_ap]) (by simp [ui_ap]) (by simp [ui_ap]) (by simp [ui_ap]) (by simp [ui_ap])
theorem sF_isWish {c : Nat} (h : mF M c I J) {k : Nat} {v : Int32} : mF M c I (a_ui J (M + 47) k v) := ⟨sG_isWish h.1, sE_isWish h.2⟩
theorem sE_ringAsk {c : Nat} (h : mE M c J) {k : Nat} {v : Int32} : mE M c (a_ui J (M + 48) k v) := mE_eq h (by simp [ui_ap]) (by simp [ui_ap]) (by simp [ui_ap]) (by simp [ui_ap]) (by simp [ui_ap]) (by simp [ui_ap]) (by simp [ui_ap]) (by simp [ui_ap])
theorem sF_ringAsk {c : Nat} (h : mF M c I J) {k : Nat} {v : Int32} : mF M c I (a_ui J (M + 48) k v) := ⟨sG_ringAsk h.1, sE_ringAsk h.2⟩
theorem sE_ringMany {c : Nat} (h : mE M c J) {v : Int32} : mE M c (a_ui J M 74 v) := mE_eq h (by simp [ui_ap]) (by simp [ui_ap]) (by simp [ui_ap]) (by simp [ui_ap]) (by simp [ui_ap]) (by simp [ui_ap]) (by simp [ui_ap]) (by simp [ui_ap])
theorem sF_ringMany {c : Nat} (h : mF M c I J) {v : Int32} : mF M c I (a_ui J M 74 v) := ⟨sG_ringMany h.1, sE_ringMany h.2⟩
theorem sE_oldBench {c : Nat} (h : mE M c J) {k : Nat} {v : Int32} : mE M c (a_ui J (M + 49) k v) := mE_eq h (by simp [ui_ap]) (by simp [ui_ap]) (by simp [ui_ap]) (by simp [ui_ap]) (by simp [ui_ap]) (by simp [ui_ap]) (by simp [ui_ap]) (by simp [ui_ap])
theorem sF_oldBench {c : Nat} (h : mF M c I J) {k : Nat} {v : Int32} (hv : (-9) ≤ v ∧ v ≤ 5) : mF M c I (a_ui J (M + 49) k v) := ⟨sG_oldBench h.1 hv, sE_oldBench h.2⟩
theorem sE_oldShift {c : Nat} (h : mE M c J) {k : Nat} {v : Int32} : mE M c (a_ui J (M + 50) k v) := mE_eq h (by simp [ui_ap]) (by simp [ui_ap]) (by simp [ui_ap]) (by simp [ui_ap]) (by simp [ui_ap]) (by simp [ui_ap]) (by simp [ui_ap]) (by simp [ui_ap])
theorem sF_oldShift {c : Nat} (h : mF M c I J) {k : Nat} {v : Int32} (hv : (-9) ≤ v ∧ v ≤ 200) : mF M c I (a_ui J (M + 50) k v) := ⟨sG_oldShift h.1 hv, sE_oldShift h.2⟩
theorem evE {x j : Nat} (hx : eC M x j) : ¬ evC M x j := by unfold eC at hx; unfold evC; omega
theorem ct_takeFrom (hS : m_S M K L R) {c : Nat} (hF : mF M c I0 I) (hc : c + 4 ≤ 84000) {a : Int32} (ha : 0 ≤ a ∧ a < 30) (hP : ∀ J, mF M (c + 4) I0 J → (a < I M 17 → 0 ≤ I (M + 20) a.toNatClampNeg → mF M c I0 J) → (∀ x j, ¬ evC M x j → ¬ (j = a.toNatClampNeg ∧ (x = (M + 20) ∨ x = (M + 21))) → J x j = I x j) → J (M + 20) a.toNatClampNeg = -9 → P none (n, t, K, L, J, R)) : a_does (d + 2) 186 [a_rf M, .int a] (n, t, K, L, I, R) P := by
  have hR := hF.1.1
  have hv := mE_ev hF.2 hR hc
  have hv0 := rg_events hR
  have hl := rg_length hR a.toNatClampNeg
  rw [a_enter1 (M := a_m186) rfl (a_cat_rf (a_cat_int a_cat_nil)) (show 2 ≤ 3 by decide)]
  show a_at _ (a_xm a_m186) 0 [some (a_rf M), some (.int a), none] [] _ _
  simp only [q186_0, q186_1, as_nil, as_i, as_r, Nat.reduceAdd, Nat.reduceLeDiff, z_eq0, z_eq1, z_or, z_em, Classical.not_not, not_false_eq_true, not_true_eq_false, true_and, and_true, false_and, and_false, and_self, true_implies, false_implies, implies_true, Option.toList_some, Option.toList_none, List.cons_append, List.nil_append, Nat.add_eq_zero_iff, a_nl_i, a_nl_r, a_nl_n, true_or, or_true, eq_self, ok_4, ok_5, ok_6, ok_7, ok_9, ok_10, ok_20, ok_21, ok_24, ok_30, ok_48, ok_50, ok_60, ok_80, ok_120, ok_180, ok_192, ok_200, ok_900, ok_1000, ok_84000]
  refine lp_takeFrom_2 hS ha hv hv0.1 (fun J hq => ?_) 0 (by decide) I (by decide) hl.1 (hq_refl hR)
  obtain ⟨q1, q2, q3, q4, q5, q6⟩ := hq
  have r1 : mR M (a_ui (a_ui J (M + 20) a.toNatClampNeg (-9)) (M + 21) a.toNatClampNeg (-9)) := sR_atShift (sR_atBench q1 (by decide)) (by decide)
  have r2 : mG M I0 (a_ui (a_ui J (M + 20) a.toNatClampNeg (-9)) (M + 21) a.toNatClampNeg (-9)) := ⟨r1, fun x j hx => by
    rw [ui_ap, if_neg (by unfold eC at hx; omega), ui_ap, if_neg (by unfold eC at hx; omega), q2 x j (evE hx)]
    exact hF.1.2 x j hx⟩
  have c1 : ∀ (x j : Nat), ¬ evC M x j → ¬ (j = a.toNatClampNeg ∧ (x = (M + 20) ∨ x = (M + 21))) → (a_ui (a_ui J (M + 20) a.toNatClampNeg (-9)) (M + 21) a.toNatClampNeg (-9)) x j = I x j := by
    intro x j h1 h2
    rw [ui_ap, if_neg (by omega), ui_ap, if_neg (by omega)]
    exact q2 x j h1
  have e1 : (J M 35).toNatClampNeg ≤ (I M 35).toNatClampNeg + 4 := cl_add hv0.1 hv0.2 hl.1 hl.2 q5.2
  have st := mE_step (c := c) (δ := 4) (J := (a_ui (a_ui J (M + 20) a.toNatClampNeg (-9)) (M + 21) a.toNatClampNeg (-9))) ha hF.2 (c1 _ _ (by unfold evC; omega) (by omega)) (fun j => c1 _ _ (by unfold evC; omega) (by omega)) (fun j hj => c1 _ _ (by unfold evC; omega) (by omega)) (fun j hj => c1 _ _ (by unfold evC; omega) (by omega)) (fun w hw => (fc_eq (I := J) (by simp [ui_ap]) (by simp [ui_ap]) (by simp [ui_ap]) (by simp [ui_ap])).mpr (q4 w hw)) (fun hb => by exact absurd hb (by simp only [ui_ap, ne_MM, ne_M0, ne_0M, Nat.reduceEqDiff, false_and, and_false, if_false, and_self, if_true]; decide)) (by simpa [ui_ap] using e1)
  refine hP _ ⟨r2, st.1⟩ (fun k1 k2 => ⟨r2, st.2 k1 k2 rfl (fun hf => ?_)⟩) c1 (by simp [ui_ap])
  have := q6 (fun i h0 h1 => hf i h0 h1)
  simpa [ui_ap] using this
/-- but for the reader's cells and STANDING -/
def mS (M : Nat) (I J : Nat → Nat → Int32) : Prop := mR M J ∧ ∀ x j, ¬ sC M x j → ¬ x = (M + 22) → J x j = I x j
theorem mS_refl (hR : mR M I) : mS M I I := ⟨hR, fun _ _ _ _ => rfl⟩
theorem mS_C (h : mS M I0 I) (hC : mC M I J) : mS M I0 J := ⟨hC.1, fun x j h1 h2 => (hC.2 x j h1).trans (h.2 x j h1 h2)⟩
theorem sS_standing (h : mS M I0 J) {k : Nat} {v : Int32} : mS M I0 (a_ui J (M + 22) k v) := ⟨sR_standing h.1, fun x j h1 h2 => by rw [ui_ap, if_neg (by omega)]; exact h.2 x j h1 h2⟩
theorem lp_putAt_3 (hS : m_S M K L R) {a b s : Int32} (ha : 0 ≤ a ∧ a < 30) (hb : 0 ≤ b ∧ b ≤ 5) (hP : ∀ J, mS M I J → P none (n, t, K, L, (a_ui (a_ui J (M + 20) a.toNatClampNeg b) (M + 21) a.toNatClampNeg s), R)) : ∀ i : Int32, i ≤ 4 → ∀ J, 0 ≤ i → mS M I J → a_at (d + 9) (a_xm a_m231) 3 [some (a_rf M), some (.int a), some (.int b), some (.int s), some (.int i)] [] (n, t, K, L, J, R) P := by
  refine up_ind 4 (fun i hi ih => ?_)
  intro J h0 hm
  have g1 := rg_length hm.1
  have g2 := mC_refl hm.1
  rw [q231_3]
  repeat' first
    | with_reducible apply And.intro
    | with_reducible assumption
    | with_reducible intro _
    | with_reducible apply hP
    | with_reducible apply ih
    | with_reducible apply ct_standFor hS g2 ha hb
    | with_reducible apply sS_standing
    | with_reducible apply mS_C hm
    | simp only [q231_0, q231_1, q231_5, q231_6, q231_9, q231_10, q231_11, q231_14, q231_15, q231_18, q231_19, q231_20, q231_21, q231_23, q231_24, q231_25, q231_26, q231_27, q231_28, q231_30, q231_31, q231_34, q231_35, q231_38, q231_41, q231_42, q231_45, q231_46, q231_47, q231_48, q231_49, q231_52, q231_53, q231_54, q231_55, m_0 hS, m_K hS, mR_length hS, mK_length hS, mL_length hS, mR_standing hS, mK_standing hS, mL_standing hS, mR_atBench hS, mK_atBench hS, mL_atBench hS, mR_atShift hS, mK_atShift hS, mL_atShift hS, as_nil, as_i, as_r, Nat.reduceAdd, Nat.reduceLeDiff, z_eq0, z_eq1, z_or, z_em, Classical.not_not, not_false_eq_true, not_true_eq_false, true_and, and_true, false_and, and_false, and_self, true_implies, false_implies, implies_true, Option.toList_some, Option.toList_none, List.cons_append, List.nil_append, Nat.add_eq_zero_iff, a_nl_i, a_nl_r, a_nl_n, true_or, or_true, eq_self, ok_4, ok_5, ok_6, ok_7, ok_9, ok_10, ok_20, ok_21, ok_24, ok_30, ok_48, ok_50, ok_60, ok_80, ok_120, ok_180, ok_192, ok_200, ok_900, ok_1000, ok_84000]
  all_goals grind [ui_ap]
theorem ct_putAt (hS : m_S M K L R) (hR : mR M I) {a b s : Int32} (ha : 0 ≤ a ∧ a < 30) (hb : 0 ≤ b ∧ b ≤ 5) (hP : ∀ J, mS M I J → P none (n, t, K, L, (a_ui (a_ui J (M + 20) a.toNatClampNeg b) (M + 21) a.toNatClampNeg s), R)) : a_does (d + 10) 231 [a_rf M, .int a, .int b, .int s] (n, t, K, L, I, R) P := by
  rw [a_enter1 (M := a_m231) rfl (a_cat_rf (a_cat_int (a_cat_int (a_cat_int a_cat_nil)))) (show 4 ≤ 5 by decide)]
  show a_at _ (a_xm a_m231) 0 [some (a_rf M), some (.int a), some (.int b), some (.int s), none] [] _ _
  simp only [q231_0, q231_1, as_nil, as_i, as_r, Nat.reduceAdd, Nat.reduceLeDiff, z_eq0, z_eq1, z_or, z_em, Classical.not_not, not_false_eq_true, not_true_eq_false, true_and, and_true, false_and, and_false, and_self, true_implies, false_implies, implies_true, Option.toList_some, Option.toList_none, List.cons_append, List.nil_append, Nat.add_eq_zero_iff, a_nl_i, a_nl_r, a_nl_n, true_or, or_true, eq_self, ok_4, ok_5, ok_6, ok_7, ok_9, ok_10, ok_20, ok_21, ok_24, ok_30, ok_48, ok_50, ok_60, ok_80, ok_120, ok_180, ok_192, ok_200, ok_900, ok_1000, ok_84000]
  exact lp_putAt_3 hS ha hb hP 0 (by decide) I (by decide) (mS_refl hR)
theorem lp_giveTo_10 (hS : m_S M K L R) {a b s : Int32} (ha : 0 ≤ a ∧ a < 30) (hv : J0 M 35 ≤ 83996) (hv0 : 0 ≤ J0 M 35) (hP : ∀ J, hq M b s (J0 (M + 10) a.toNatClampNeg) J0 J → P none (n, t, K, L, J, R)) : ∀ i : Int32, i ≤ 4 → ∀ J, 0 ≤ i → i ≤ J0 (M + 10) a.toNatClampNeg → hq M b s i J0 J → a_at (d + 1) (a_xm a_m230) 10 [some (a_rf M), some (.int a), some (.int b), some (.int s), some (.int i)] [] (n, t, K, L, J, R) P := by
  refine up_ind 4 (fun i hi ih => ?_)
  intro J h0 hl hq
  have e1 : J (M + 10) a.toNatClampNeg = J0 (M + 10) a.toNatClampNeg := hq.2.1 _ _ (by unfold evC; omega)
  have g1 := rg_length hq.1
  have g2 := g1 a.toNatClampNeg
  have g3 := hq.2.2.2.2.1
  rw [q230_10]
  simp only [q230_0, q230_1, q230_2, q230_3, q230_4, q230_7, q230_8, q230_12, q230_13, q230_16, q230_17, q230_18, q230_21, q230_22, q230_23, q230_24, q230_26, q230_27, q230_28, q230_31, q230_34, q230_37, m_0 hS, m_K hS, mR_length hS, mK_length hS, mL_length hS, as_nil, as_i, as_r, Nat.reduceAdd, Nat.reduceLeDiff, z_eq0, z_eq1, z_or, z_em, Classical.not_not, not_false_eq_true, not_true_eq_false, true_and, and_true, false_and, and_false, and_self, true_implies, false_implies, implies_true, Option.toList_some, Option.toList_none, List.cons_append, List.nil_append, Nat.add_eq_zero_iff, a_nl_i, a_nl_r, a_nl_n, true_or, or_true, eq_self, ok_4, ok_5, ok_6, ok_7, ok_9, ok_10, ok_20, ok_21, ok_24, ok_30, ok_48, ok_50, ok_60, ok_80, ok_120, ok_180, ok_192, ok_200, ok_900, ok_1000, ok_84000, e1]
  refine ⟨by grind, fun h => hP J (by rw [show J0 (M + 10) a.toNatClampNeg = i by grind]; exact hq), fun h => ?_⟩
  refine ct_happened hS hq.1 (by grind) (fun J2 hp => ?_)
  simp only [q230_0, q230_1, q230_2, q230_3, q230_4, q230_7, q230_8, q230_12, q230_13, q230_16, q230_17, q230_18, q230_21, q230_22, q230_23, q230_24, q230_26, q230_27, q230_28, q230_31, q230_34, q230_37, m_0 hS, m_K hS, mR_length hS, mK_length hS, mL_length hS, as_nil, as_i, as_r, Nat.reduceAdd, Nat.reduceLeDiff, z_eq0, z_eq1, z_or, z_em, Classical.not_not, not_false_eq_true, not_true_eq_false, true_and, and_true, false_and, and_false, and_self, true_implies, false_implies, implies_true, Option.toList_some, Option.toList_none, List.cons_append, List.nil_append, Nat.add_eq_zero_iff, a_nl_i, a_nl_r, a_nl_n, true_or, or_true, eq_self, ok_4, ok_5, ok_6, ok_7, ok_9, ok_10, ok_20, ok_21, ok_24, ok_30, ok_48, ok_50, ok_60, ok_80, ok_120, ok_180, ok_192, ok_200, ok_900, ok_1000, ok_84000]
  exact ih (by grind) J2 (by grind) (by grind) (hq_step hq hp (by grind) hv hv0)
theorem ct_giveTo (hS : m_S M K L R) {c : Nat} (hF : mF M c I0 I) (hc : c + 4 ≤ 84000) {a b s : Int32} (ha : 0 ≤ a ∧ a < 30) (hb : 0 ≤ b ∧ b ≤ 5) (hs : -9 ≤ s ∧ s ≤ 200) (hP : ∀ J, mF M (c + 4) I0 J → (∀ x j, ¬ evC M x j → ¬ sC M x j → ¬ x = (M + 22) → ¬ (j = a.toNatClampNeg ∧ (x = (M + 20) ∨ x = (M + 21))) → J x j = I x j) → J (M + 20) a.toNatClampNeg = b → P none (n, t, K, L, J, R)) : a_does (d + 11) 230 [a_rf M, .int a, .int b, .int s] (n, t, K, L, I, R) P := by
  have hR := hF.1.1
  have hv := mE_ev hF.2 hR hc
  rw [a_enter1 (M := a_m230) rfl (a_cat_rf (a_cat_int (a_cat_int (a_cat_int a_cat_nil)))) (show 4 ≤ 5 by decide)]
  show a_at _ (a_xm a_m230) 0 [some (a_rf M), some (.int a), some (.int b), some (.int s), none] [] _ _
  simp only [q230_0, q230_1, q230_2, q230_3, q230_4, m_0 hS, m_K hS, as_nil, as_i, as_r, Nat.reduceAdd, Nat.reduceLeDiff, z_eq0, z_eq1, z_or, z_em, Classical.not_not, not_false_eq_true, not_true_eq_false, true_and, and_true, false_and, and_false, and_self, true_implies, false_implies, implies_true, Option.toList_some, Option.toList_none, List.cons_append, List.nil_append, Nat.add_eq_zero_iff, a_nl_i, a_nl_r, a_nl_n, true_or, or_true, eq_self, ok_4, ok_5, ok_6, ok_7, ok_9, ok_10, ok_20, ok_21, ok_24, ok_30, ok_48, ok_50, ok_60, ok_80, ok_120, ok_180, ok_192, ok_200, ok_900, ok_1000, ok_84000]
  refine ct_putAt hS hR ha hb (fun J hm => ?_)
  simp only [q230_7, q230_8, as_nil, as_i, as_r, Nat.reduceAdd, Nat.reduceLeDiff, z_eq0, z_eq1, z_or, z_em, Classical.not_not, not_false_eq_true, not_true_eq_false, true_and, and_true, false_and, and_false, and_self, true_implies, false_implies, implies_true, Option.toList_some, Option.toList_none, List.cons_append, List.nil_append, Nat.add_eq_zero_iff, a_nl_i, a_nl_r, a_nl_n, true_or, or_true, eq_self, ok_4, ok_5, ok_6, ok_7, ok_9, ok_10, ok_20, ok_21, ok_24, ok_30, ok_48, ok_50, ok_60, ok_80, ok_120, ok_180, ok_192, ok_200, ok_900, ok_1000, ok_84000]
  have r0 : mR M (a_ui (a_ui J (M + 20) a.toNatClampNeg b) (M + 21) a.toNatClampNeg s) := sR_atShift (sR_atBench hm.1 (by grind)) hs
  have c0 : ∀ (x j : Nat), ¬ sC M x j → ¬ x = (M + 22) → ¬ (j = a.toNatClampNeg ∧ (x = (M + 20) ∨ x = (M + 21))) → (a_ui (a_ui J (M + 20) a.toNatClampNeg b) (M + 21) a.toNatClampNeg s) x j = I x j := by
    intro x j h1 h2 h3
    rw [ui_ap, if_neg (by omega), ui_ap, if_neg (by omega)]
    exact hm.2 x j h1 h2
  have b0 : (a_ui (a_ui J (M + 20) a.toNatClampNeg b) (M + 21) a.toNatClampNeg s) (M + 20) a.toNatClampNeg = b := by simp [ui_ap]
  have s0 : (a_ui (a_ui J (M + 20) a.toNatClampNeg b) (M + 21) a.toNatClampNeg s) (M + 21) a.toNatClampNeg = s := by simp [ui_ap]
  generalize (a_ui (a_ui J (M + 20) a.toNatClampNeg b) (M + 21) a.toNatClampNeg s) = J1 at r0 c0 b0 s0 ⊢
  have ev0 : J1 M 35 = I M 35 := c0 _ _ (by unfold sC; omega) (by omega) (by omega)
  have hl := rg_length r0 a.toNatClampNeg
  have hv0 := rg_events r0
  refine lp_giveTo_10 hS ha (by rw [ev0]; exact hv) hv0.1 (fun J2 hq => ?_) 0 (by decide) J1 (by decide) hl.1 (hq_refl r0)
  obtain ⟨q1, q2, q3, q4, q5, q6⟩ := hq
  have c1 : ∀ (x j : Nat), ¬ evC M x j → ¬ sC M x j → ¬ x = (M + 22) → ¬ (j = a.toNatClampNeg ∧ (x = (M + 20) ∨ x = (M + 21))) → J2 x j = I x j := fun x j h0 h1 h2 h3 => (q2 x j h0).trans (c0 x j h1 h2 h3)
  have b1 : J2 (M + 20) a.toNatClampNeg = b := (q2 _ _ (by unfold evC; omega)).trans b0
  have s1 : J2 (M + 21) a.toNatClampNeg = s := (q2 _ _ (by unfold evC; omega)).trans s0
  have l1 : J2 (M + 10) a.toNatClampNeg = J1 (M + 10) a.toNatClampNeg := q2 _ _ (by unfold evC; omega)
  have e1 : (J2 M 35).toNatClampNeg ≤ (I M 35).toNatClampNeg + 4 := by rw [← ev0]; exact cl_add hv0.1 hv0.2 hl.1 hl.2 q5.2
  have st := mE_step (c := c) (δ := 4) (J := J2) ha hF.2 (c1 _ _ (by unfold evC; omega) (by unfold sC; omega) (by omega) (by omega)) (fun j => c1 _ _ (by unfold evC; omega) (by unfold sC; omega) (by omega) (by omega)) (fun j hj => c1 _ _ (by unfold evC; omega) (by unfold sC; omega) (by omega) (by omega)) (fun j hj => c1 _ _ (by unfold evC; omega) (by unfold sC; omega) (by omega) (by omega)) (fun w hw => q4 w ((fc_eq ev0 (fun j => c0 _ _ (by unfold sC; omega) (by omega) (by omega)) (fun j => c0 _ _ (by unfold sC; omega) (by omega) (by omega)) (c0 _ _ (by unfold sC; omega) (by omega) (by omega))).mpr hw)) (fun _ i h0 h1 => by rw [l1] at h1; rw [b1, s1]; exact q3 i h0 h1) e1
  refine hP J2 ⟨⟨q1, fun x j hx => ?_⟩, st.1⟩ c1 b1
  rw [c1 x j (evE hx) (by unfold eC at hx; unfold sC; omega) (by unfold eC at hx; omega) (by unfold eC at hx; omega)]
  exact hF.1.2 x j hx
end RZ
end
section
/-! orders and plans -/
section SA
variable {d n t M : Nat} {K L : Nat → Nat} {I I0 J J0 J1 J2 : Nat → Nat → Int32} {R : Nat → Nat → Nat} {P : Option Value → AH → Prop}
/-- all but what giving changes -/
def gv (M : Nat) (I J : Nat → Nat → Int32) : Prop := ∀ x j, ¬ evC M x j → ¬ sC M x j → ¬ x = (M + 22) → ¬ (x = (M + 20) ∨ x = (M + 21)) → J x j = I x j
theorem gv_refl : gv M I I := fun _ _ _ _ _ _ => rfl
theorem gv_C (h : gv M I0 I) (hC : mC M I J) : gv M I0 J := fun x j h1 h2 h3 h4 => (hC.2 x j h2).trans (h x j h1 h2 h3 h4)
theorem gv_G {a : Int32} (h : gv M I0 I) (h2 : ∀ x j, ¬ evC M x j → ¬ sC M x j → ¬ x = (M + 22) → ¬ (j = a.toNatClampNeg ∧ (x = (M + 20) ∨ x = (M + 21))) → J x j = I x j) : gv M I0 J := fun x j q1 q2 q3 q4 => (h2 x j q1 q2 q3 (by omega)).trans (h x j q1 q2 q3 q4)
theorem gv_orderMany (h : gv M I J) : J M 64 = I M 64 := h _ _ (by unfold evC; omega) (by unfold sC; omega) (by omega) (by omega)
theorem gv_passedMany (h : gv M I J) : J M 61 = I M 61 := h _ _ (by unfold evC; omega) (by unfold sC; omega) (by omega) (by omega)
theorem lp_findOrder_29 (hS : m_S M K L R) {c : Nat} {g a m : Int32} (ha : 0 ≤ a ∧ a < 30) (hm : m ≤ a) (hN : ∀ J p, mF M c I0 J → J M 64 = m + 1 → a_at (d + 3) (a_xm a_m236) 7 [some (a_rf M), some (.int g), some (.int (a + 1)), some (.int p)] [] (n, t, K, L, J, R) P) : ∀ p : Int32, 0 ≤ p → ∀ J, p ≤ m → J M 64 = m → mF M c I0 J → a_at (d + 3) (a_xm a_m236) 29 [some (a_rf M), some (.int g), some (.int a), some (.int p)] [] (n, t, K, L, J, R) P := by
  refine dn_ind 0 (fun p hp ih => ?_)
  intro J hpm hJ hF
  have hR := hF.1.1
  have g1 := rg_order hR
  have g2 := g1 (p - 1).toNatClampNeg
  rw [q236_29]
  repeat' first
    | with_reducible apply And.intro
    | with_reducible assumption
    | with_reducible intro _
    | with_reducible apply ih
    | with_reducible apply hN
    | with_reducible apply sF_order
    | with_reducible apply sF_orderMany
    | with_reducible apply ct_goesAhead hS hR
    | simp only [q236_0, q236_1, q236_2, q236_5, q236_6, q236_8, q236_9, q236_12, q236_15, q236_16, q236_17, q236_18, q236_19, q236_20, q236_21, q236_24, q236_25, q236_28, q236_30, q236_33, q236_34, q236_35, q236_36, q236_39, q236_40, q236_41, q236_42, q236_43, q236_46, q236_49, q236_50, q236_53, q236_54, q236_55, q236_58, q236_59, q236_60, q236_61, q236_62, q236_63, q236_66, q236_69, q236_70, q236_73, q236_74, q236_75, q236_76, q236_77, q236_78, q236_81, q236_82, q236_83, q236_86, q236_89, q236_92, m_0 hS, m_K hS, mR_order hS, mK_order hS, mL_order hS, as_nil, as_i, as_r, Nat.reduceAdd, Nat.reduceLeDiff, z_eq0, z_eq1, z_or, z_em, Classical.not_not, not_false_eq_true, not_true_eq_false, true_and, and_true, false_and, and_false, and_self, true_implies, false_implies, implies_true, Option.toList_some, Option.toList_none, List.cons_append, List.nil_append, Nat.add_eq_zero_iff, a_nl_i, a_nl_r, a_nl_n, true_or, or_true, eq_self, ok_4, ok_5, ok_6, ok_7, ok_9, ok_10, ok_20, ok_21, ok_24, ok_30, ok_48, ok_50, ok_60, ok_80, ok_120, ok_180, ok_192, ok_200, ok_900, ok_1000, ok_84000]
  all_goals grind [ui_ap]
theorem lp_findOrder_7 (hS : m_S M K L R) {c : Nat} {g : Int32} (hP : ∀ J, mF M c I0 J → (0 ≤ J M 64 ∧ J M 64 ≤ 30) → P none (n, t, K, L, J, R)) : ∀ a : Int32, a ≤ 30 → ∀ J p, 0 ≤ a → mF M c I0 J → (0 ≤ J M 64 ∧ J M 64 ≤ a) → a_at (d + 3) (a_xm a_m236) 7 [some (a_rf M), some (.int g), some (.int a), p] [] (n, t, K, L, J, R) P := by
  refine up_ind 30 (fun a ha ih => ?_)
  intro J p h0 hF hm
  have g1 := rg_asks hF.1.1
  rw [q236_7]
  repeat' first
    | with_reducible apply And.intro
    | with_reducible assumption
    | with_reducible intro _
    | with_reducible apply ih
    | with_reducible apply hP
    | with_reducible apply lp_findOrder_29 hS (I0 := I0) (c := c) (m := J M 64)
    | simp only [q236_0, q236_1, q236_2, q236_5, q236_6, q236_8, q236_9, q236_12, q236_15, q236_16, q236_17, q236_18, q236_19, q236_20, q236_21, q236_24, q236_25, q236_28, q236_30, q236_33, q236_34, q236_35, q236_36, q236_39, q236_40, q236_41, q236_42, q236_43, q236_46, q236_49, q236_50, q236_53, q236_54, q236_55, q236_58, q236_59, q236_60, q236_61, q236_62, q236_63, q236_66, q236_69, q236_70, q236_73, q236_74, q236_75, q236_76, q236_77, q236_78, q236_81, q236_82, q236_83, q236_86, q236_89, q236_92, m_0 hS, m_K hS, mR_order hS, mK_order hS, mL_order hS, as_nil, as_i, as_r, Nat.reduceAdd, Nat.reduceLeDiff, z_eq0, z_eq1, z_or, z_em, Classical.not_not, not_false_eq_true, not_true_eq_false, true_and, and_true, false_and, and_false, and_self, true_implies, false_implies, implies_true, Option.toList_some, Option.toList_none, List.cons_append, List.nil_append, Nat.add_eq_zero_iff, a_nl_i, a_nl_r, a_nl_n, true_or, or_true, eq_self, ok_4, ok_5, ok_6, ok_7, ok_9, ok_10, ok_20, ok_21, ok_24, ok_30, ok_48, ok_50, ok_60, ok_80, ok_120, ok_180, ok_192, ok_200, ok_900, ok_1000, ok_84000]
  all_goals grind [ui_ap]
theorem ct_findOrder (hS : m_S M K L R) {c : Nat} (hF : mF M c I0 I) {g : Int32} (hP : ∀ J, mF M c I0 J → (0 ≤ J M 64 ∧ J M 64 ≤ 30) → P none (n, t, K, L, J, R)) : a_does (d + 4) 236 [a_rf M, .int g] (n, t, K, L, I, R) P := by
  rw [a_enter1 (M := a_m236) rfl (a_cat_rf (a_cat_int a_cat_nil)) (show 2 ≤ 4 by decide)]
  show a_at _ (a_xm a_m236) 0 [some (a_rf M), some (.int g), none, none] [] _ _
  repeat' first
    | with_reducible apply And.intro
    | with_reducible assumption
    | with_reducible intro _
    | with_reducible apply lp_findOrder_7 hS hP
    | with_reducible apply sF_orderMany
    | simp only [q236_0, q236_1, q236_2, q236_5, q236_6, q236_8, q236_9, q236_12, q236_15, q236_16, q236_17, q236_18, q236_19, q236_20, q236_21, q236_24, q236_25, q236_28, q236_30, q236_33, q236_34, q236_35, q236_36, q236_39, q236_40, q236_41, q236_42, q236_43, q236_46, q236_49, q236_50, q236_53, q236_54, q236_55, q236_58, q236_59, q236_60, q236_61, q236_62, q236_63, q236_66, q236_69, q236_70, q236_73, q236_74, q236_75, q236_76, q236_77, q236_78, q236_81, q236_82, q236_83, q236_86, q236_89, q236_92, m_0 hS, m_K hS, mR_order hS, mK_order hS, mL_order hS, as_nil, as_i, as_r, Nat.reduceAdd, Nat.reduceLeDiff, z_eq0, z_eq1, z_or, z_em, Classical.not_not, not_false_eq_true, not_true_eq_false, true_and, and_true, false_and, and_false, and_self, true_implies, false_implies, implies_true, Option.toList_some, Option.toList_none, List.cons_append, List.nil_append, Nat.add_eq_zero_iff, a_nl_i, a_nl_r, a_nl_n, true_or, or_true, eq_self, ok_4, ok_5, ok_6, ok_7, ok_9, ok_10, ok_20, ok_21, ok_24, ok_30, ok_48, ok_50, ok_60, ok_80, ok_120, ok_180, ok_192, ok_200, ok_900, ok_1000, ok_84000]
  all_goals grind [ui_ap]
theorem lp_giveFirst_21 (hS : m_S M K L R) {c : Nat} (hc : c + 4 ≤ 84000) {a f e o s : Int32} (ha : 0 ≤ a ∧ a < 30) (hs : 0 ≤ s ∧ s ≤ 200) (hP : ∀ v J, mF M (c + 4) I0 J → gv M I J → (v = 0 ∨ v = 1) → P (some (.int v)) (n, t, K, L, J, R)) (hN : ∀ J b, mF M c I0 J → gv M I J → a_at (d + 11) (a_xm a_m238) 3 [some (a_rf M), some (.int a), some (.int f), some (.int e), some (.int o), some (.int (s + 1)), some (.int b)] [] (n, t, K, L, J, R) P) : ∀ b : Int32, b ≤ 6 → ∀ J, 0 ≤ b → mF M c I0 J → gv M I J → a_at (d + 11) (a_xm a_m238) 21 [some (a_rf M), some (.int a), some (.int f), some (.int e), some (.int o), some (.int s), some (.int b)] [] (n, t, K, L, J, R) P := by
  refine up_ind 6 (fun b hb ih => ?_)
  intro J h0 hF hG
  have hR := hF.1.1
  have g1 := rg_benches hR
  rw [q238_21]
  simp only [q238_23, q238_24, q238_27, q238_30, q238_31, q238_32, q238_34, q238_36, m_0 hS, m_K hS, as_nil, as_i, as_r, Nat.reduceAdd, Nat.reduceLeDiff, z_eq0, z_eq1, z_or, z_em, Classical.not_not, not_false_eq_true, not_true_eq_false, true_and, and_true, false_and, and_false, and_self, true_implies, false_implies, implies_true, Option.toList_some, Option.toList_none, List.cons_append, List.nil_append, Nat.add_eq_zero_iff, a_nl_i, a_nl_r, a_nl_n, true_or, or_true, eq_self, ok_4, ok_5, ok_6, ok_7, ok_9, ok_10, ok_20, ok_21, ok_24, ok_30, ok_48, ok_50, ok_60, ok_80, ok_120, ok_180, ok_192, ok_200, ok_900, ok_1000, ok_84000]
  refine ⟨fun h => ?_, fun h => ?_⟩
  · simp only [q238_74, q238_77, as_nil, as_i, as_r, Nat.reduceAdd, Nat.reduceLeDiff, z_eq0, z_eq1, z_or, z_em, Classical.not_not, not_false_eq_true, not_true_eq_false, true_and, and_true, false_and, and_false, and_self, true_implies, false_implies, implies_true, Option.toList_some, Option.toList_none, List.cons_append, List.nil_append, Nat.add_eq_zero_iff, a_nl_i, a_nl_r, a_nl_n, true_or, or_true, eq_self, ok_4, ok_5, ok_6, ok_7, ok_9, ok_10, ok_20, ok_21, ok_24, ok_30, ok_48, ok_50, ok_60, ok_80, ok_120, ok_180, ok_192, ok_200, ok_900, ok_1000, ok_84000]
    exact hN J b hF hG
  · refine ct_fitOf hS (mC_refl hR) ha (by grind) (by grind) (fun v J1 c1 => ?_)
    have f1 := mF_C hF c1
    have r1 := f1.1.1
    have v1 := gv_C hG c1
    simp only [q238_39, q238_42, q238_44, q238_47, q238_48, q238_49, q238_50, q238_51, m_0 hS, m_K hS, as_nil, as_i, as_r, Nat.reduceAdd, Nat.reduceLeDiff, z_eq0, z_eq1, z_or, z_em, Classical.not_not, not_false_eq_true, not_true_eq_false, true_and, and_true, false_and, and_false, and_self, true_implies, false_implies, implies_true, Option.toList_some, Option.toList_none, List.cons_append, List.nil_append, Nat.add_eq_zero_iff, a_nl_i, a_nl_r, a_nl_n, true_or, or_true, eq_self, ok_4, ok_5, ok_6, ok_7, ok_9, ok_10, ok_20, ok_21, ok_24, ok_30, ok_48, ok_50, ok_60, ok_80, ok_120, ok_180, ok_192, ok_200, ok_900, ok_1000, ok_84000]
    refine ⟨fun h1 => ?_, fun h1 => ⟨fun h2 => ?_, fun h2 => ?_⟩⟩
    · simp only [q238_68, q238_71, as_nil, as_i, as_r, Nat.reduceAdd, Nat.reduceLeDiff, z_eq0, z_eq1, z_or, z_em, Classical.not_not, not_false_eq_true, not_true_eq_false, true_and, and_true, false_and, and_false, and_self, true_implies, false_implies, implies_true, Option.toList_some, Option.toList_none, List.cons_append, List.nil_append, Nat.add_eq_zero_iff, a_nl_i, a_nl_r, a_nl_n, true_or, or_true, eq_self, ok_4, ok_5, ok_6, ok_7, ok_9, ok_10, ok_20, ok_21, ok_24, ok_30, ok_48, ok_50, ok_60, ok_80, ok_120, ok_180, ok_192, ok_200, ok_900, ok_1000, ok_84000]
      exact ih (by grind) J1 (by grind) f1 v1
    · simp only [q238_57, q238_58, q238_59, q238_61, q238_63, m_0 hS, m_K hS, as_nil, as_i, as_r, Nat.reduceAdd, Nat.reduceLeDiff, z_eq0, z_eq1, z_or, z_em, Classical.not_not, not_false_eq_true, not_true_eq_false, true_and, and_true, false_and, and_false, and_self, true_implies, false_implies, implies_true, Option.toList_some, Option.toList_none, List.cons_append, List.nil_append, Nat.add_eq_zero_iff, a_nl_i, a_nl_r, a_nl_n, true_or, or_true, eq_self, ok_4, ok_5, ok_6, ok_7, ok_9, ok_10, ok_20, ok_21, ok_24, ok_30, ok_48, ok_50, ok_60, ok_80, ok_120, ok_180, ok_192, ok_200, ok_900, ok_1000, ok_84000]
      refine ct_giveTo hS f1 hc ha (by grind) (by grind) (fun J2 f2 w2 z2 => ?_)
      simp only [q238_66, q238_67, as_nil, as_i, as_r, Nat.reduceAdd, Nat.reduceLeDiff, z_eq0, z_eq1, z_or, z_em, Classical.not_not, not_false_eq_true, not_true_eq_false, true_and, and_true, false_and, and_false, and_self, true_implies, false_implies, implies_true, Option.toList_some, Option.toList_none, List.cons_append, List.nil_append, Nat.add_eq_zero_iff, a_nl_i, a_nl_r, a_nl_n, true_or, or_true, eq_self, ok_4, ok_5, ok_6, ok_7, ok_9, ok_10, ok_20, ok_21, ok_24, ok_30, ok_48, ok_50, ok_60, ok_80, ok_120, ok_180, ok_192, ok_200, ok_900, ok_1000, ok_84000]
      exact hP _ J2 f2 (gv_G v1 w2) (Or.inr rfl)
    · refine ct_isWithinShare hS r1 ha (fun v2 => ?_)
      simp only [q238_54, as_nil, as_i, as_r, Nat.reduceAdd, Nat.reduceLeDiff, z_eq0, z_eq1, z_or, z_em, Classical.not_not, not_false_eq_true, not_true_eq_false, true_and, and_true, false_and, and_false, and_self, true_implies, false_implies, implies_true, Option.toList_some, Option.toList_none, List.cons_append, List.nil_append, Nat.add_eq_zero_iff, a_nl_i, a_nl_r, a_nl_n, true_or, or_true, eq_self, ok_4, ok_5, ok_6, ok_7, ok_9, ok_10, ok_20, ok_21, ok_24, ok_30, ok_48, ok_50, ok_60, ok_80, ok_120, ok_180, ok_192, ok_200, ok_900, ok_1000, ok_84000]
      refine ⟨fun h3 => ?_, fun h3 => ?_⟩
      · simp only [q238_68, q238_71, as_nil, as_i, as_r, Nat.reduceAdd, Nat.reduceLeDiff, z_eq0, z_eq1, z_or, z_em, Classical.not_not, not_false_eq_true, not_true_eq_false, true_and, and_true, false_and, and_false, and_self, true_implies, false_implies, implies_true, Option.toList_some, Option.toList_none, List.cons_append, List.nil_append, Nat.add_eq_zero_iff, a_nl_i, a_nl_r, a_nl_n, true_or, or_true, eq_self, ok_4, ok_5, ok_6, ok_7, ok_9, ok_10, ok_20, ok_21, ok_24, ok_30, ok_48, ok_50, ok_60, ok_80, ok_120, ok_180, ok_192, ok_200, ok_900, ok_1000, ok_84000]
        exact ih (by grind) J1 (by grind) f1 v1
      · simp only [q238_57, q238_58, q238_59, q238_61, q238_63, m_0 hS, m_K hS, as_nil, as_i, as_r, Nat.reduceAdd, Nat.reduceLeDiff, z_eq0, z_eq1, z_or, z_em, Classical.not_not, not_false_eq_true, not_true_eq_false, true_and, and_true, false_and, and_false, and_self, true_implies, false_implies, implies_true, Option.toList_some, Option.toList_none, List.cons_append, List.nil_append, Nat.add_eq_zero_iff, a_nl_i, a_nl_r, a_nl_n, true_or, or_true, eq_self, ok_4, ok_5, ok_6, ok_7, ok_9, ok_10, ok_20, ok_21, ok_24, ok_30, ok_48, ok_50, ok_60, ok_80, ok_120, ok_180, ok_192, ok_200, ok_900, ok_1000, ok_84000]
        refine ct_giveTo hS f1 hc ha (by grind) (by grind) (fun J2 f2 w2 z2 => ?_)
        simp only [q238_66, q238_67, as_nil, as_i, as_r, Nat.reduceAdd, Nat.reduceLeDiff, z_eq0, z_eq1, z_or, z_em, Classical.not_not, not_false_eq_true, not_true_eq_false, true_and, and_true, false_and, and_false, and_self, true_implies, false_implies, implies_true, Option.toList_some, Option.toList_none, List.cons_append, List.nil_append, Nat.add_eq_zero_iff, a_nl_i, a_nl_r, a_nl_n, true_or, or_true, eq_self, ok_4, ok_5, ok_6, ok_7, ok_9, ok_10, ok_20, ok_21, ok_24, ok_30, ok_48, ok_50, ok_60, ok_80, ok_120, ok_180, ok_192, ok_200, ok_900, ok_1000, ok_84000]
        exact hP _ J2 f2 (gv_G v1 w2) (Or.inr rfl)
theorem lp_giveFirst_3 (hS : m_S M K L R) {c : Nat} (hc : c + 4 ≤ 84000) {a f e o : Int32} (ha : 0 ≤ a ∧ a < 30) (he : e ≤ 199) (hP : ∀ v J, mF M (c + 4) I0 J → gv M I J → (v = 0 ∨ v = 1) → P (some (.int v)) (n, t, K, L, J, R)) : ∀ s : Int32, s ≤ 202 → ∀ J b, 0 ≤ s → mF M c I0 J → gv M I J → a_at (d + 11) (a_xm a_m238) 3 [some (a_rf M), some (.int a), some (.int f), some (.int e), some (.int o), some (.int s), b] [] (n, t, K, L, J, R) P := by
  refine up_ind 202 (fun s hs ih => ?_)
  intro J b h0 hF hG
  have g1 := rg_length hF.1.1
  have hle := mF_le (c' := c + 4) hF (by omega)
  rw [q238_3]
  repeat' first
    | with_reducible apply And.intro
    | with_reducible assumption
    | with_reducible intro _
    | with_reducible apply ih
    | with_reducible apply hP
    | with_reducible apply lp_giveFirst_21 hS (I := I) (I0 := I0) (c := c) hc
    | simp only [q238_0, q238_1, q238_5, q238_6, q238_9, q238_10, q238_11, q238_12, q238_13, q238_14, q238_15, q238_18, q238_19, q238_23, q238_24, q238_27, q238_30, q238_31, q238_32, q238_34, q238_36, q238_39, q238_42, q238_44, q238_47, q238_48, q238_49, q238_50, q238_51, q238_54, q238_57, q238_58, q238_59, q238_61, q238_63, q238_66, q238_67, q238_68, q238_71, q238_74, q238_77, q238_80, q238_81, m_0 hS, m_K hS, mR_length hS, mK_length hS, mL_length hS, as_nil, as_i, as_r, Nat.reduceAdd, Nat.reduceLeDiff, z_eq0, z_eq1, z_or, z_em, Classical.not_not, not_false_eq_true, not_true_eq_false, true_and, and_true, false_and, and_false, and_self, true_implies, false_implies, implies_true, Option.toList_some, Option.toList_none, List.cons_append, List.nil_append, Nat.add_eq_zero_iff, a_nl_i, a_nl_r, a_nl_n, true_or, or_true, eq_self, ok_4, ok_5, ok_6, ok_7, ok_9, ok_10, ok_20, ok_21, ok_24, ok_30, ok_48, ok_50, ok_60, ok_80, ok_120, ok_180, ok_192, ok_200, ok_900, ok_1000, ok_84000]
  all_goals grind [ui_ap]
theorem ct_giveFirst (hS : m_S M K L R) {c : Nat} (hF : mF M c I0 I) (hc : c + 4 ≤ 84000) {a f e o : Int32} (ha : 0 ≤ a ∧ a < 30) (hf : 0 ≤ f ∧ f ≤ 202) (he : e ≤ 199) (hP : ∀ v J, mF M (c + 4) I0 J → gv M I J → (v = 0 ∨ v = 1) → P (some (.int v)) (n, t, K, L, J, R)) : a_does (d + 12) 238 [a_rf M, .int a, .int f, .int e, .int o] (n, t, K, L, I, R) P := by
  rw [a_enter1 (M := a_m238) rfl (a_cat_rf (a_cat_int (a_cat_int (a_cat_int (a_cat_int a_cat_nil))))) (show 5 ≤ 7 by decide)]
  show a_at _ (a_xm a_m238) 0 [some (a_rf M), some (.int a), some (.int f), some (.int e), some (.int o), none, none] [] _ _
  simp only [q238_0, q238_1, as_nil, as_i, as_r, Nat.reduceAdd, Nat.reduceLeDiff, z_eq0, z_eq1, z_or, z_em, Classical.not_not, not_false_eq_true, not_true_eq_false, true_and, and_true, false_and, and_false, and_self, true_implies, false_implies, implies_true, Option.toList_some, Option.toList_none, List.cons_append, List.nil_append, Nat.add_eq_zero_iff, a_nl_i, a_nl_r, a_nl_n, true_or, or_true, eq_self, ok_4, ok_5, ok_6, ok_7, ok_9, ok_10, ok_20, ok_21, ok_24, ok_30, ok_48, ok_50, ok_60, ok_80, ok_120, ok_180, ok_192, ok_200, ok_900, ok_1000, ok_84000]
  exact lp_giveFirst_3 hS hc ha he hP f hf.2 I _ hf.1 hF gv_refl
end SA
end
section
/-! public methods 2 -/
section SC
variable {d n t M c : Nat} {K L : Nat → Nat} {I I0 J J0 J1 J2 : Nat → Nat → Int32} {R : Nat → Nat → Nat} {P : Option Value → AH → Prop}
theorem cl_le {i : Int32} (h0 : 0 ≤ i) (h : i ≤ 30) : i.toNatClampNeg ≤ 30 := by
  by_cases hi : i = 30
  · subst hi; decide
  · exact Nat.le_of_lt (show i.toNatClampNeg < (30 : Int32).toNatClampNeg from cl_lt h0 (by grind))
theorem lp_mark_27 (hS : m_S M K L R) {r a v : Int32} (ha : 0 ≤ a ∧ a < 30) (hN : ∀ s o, a_at d (a_xm a_m215) 65 [some (a_rf M), some (.int r), some (.int a), some (.int v), some (.int s), some (.int o)] [] (n, t, K, L, I, R) P) : ∀ o : Int32, o ≤ 6 → ∀ s, 0 ≤ o → a_at d (a_xm a_m215) 27 [some (a_rf M), some (.int r), some (.int a), some (.int v), some (.int s), some (.int o)] [] (n, t, K, L, I, R) P := by
  refine up_ind 6 (fun o ho ih => ?_)
  intro s h0
  rw [q215_27]
  repeat' first
    | with_reducible apply And.intro
    | with_reducible assumption
    | with_reducible intro _
    | with_reducible apply ih
    | with_reducible apply hN
    | simp only [q215_29, q215_31, q215_34, q215_36, q215_37, q215_40, q215_42, q215_44, q215_45, q215_46, q215_47, q215_48, q215_51, q215_52, q215_55, q215_56, q215_57, q215_59, q215_62, m_0 hS, m_K hS, mR_isMarked hS, mK_isMarked hS, mL_isMarked hS, as_nil, as_i, as_r, Nat.reduceAdd, Nat.reduceLeDiff, z_eq0, z_eq1, z_or, z_em, Classical.not_not, not_false_eq_true, not_true_eq_false, true_and, and_true, false_and, and_false, and_self, true_implies, false_implies, implies_true, Option.toList_some, Option.toList_none, List.cons_append, List.nil_append, Nat.add_eq_zero_iff, a_nl_i, a_nl_r, a_nl_n, true_or, or_true, eq_self, ok_4, ok_5, ok_6, ok_7, ok_9, ok_10, ok_20, ok_21, ok_24, ok_30, ok_48, ok_50, ok_60, ok_80, ok_120, ok_180, ok_192, ok_200, ok_900, ok_1000, ok_84000]
  all_goals grind [ui_ap]
theorem lp_hosts_26 (hS : m_S M K L R) (hR : mR M I) {b s : Int32} (hP : ∀ v, P (some (.int v)) (n, t, K, L, I, R)) : ∀ a : Int32, a ≤ 30 → ∀ e, 0 ≤ a → a_at (d + 2) (a_xm a_m245) 26 [some (a_rf M), some (.int b), some (.int s), some (.int e), some (.int a)] [] (n, t, K, L, I, R) P := by
  refine up_ind 30 (fun a ha ih => ?_)
  intro e h0
  have g1 := rg_asks hR
  have g2 := rg_length hR a.toNatClampNeg
  have g4 := rg_atShift hR a.toNatClampNeg
  rw [q245_26]
  repeat' first
    | with_reducible apply And.intro
    | with_reducible assumption
    | with_reducible intro _
    | with_reducible apply ih
    | with_reducible apply hP
    | simp only [q245_28, q245_29, q245_32, q245_35, q245_36, q245_37, q245_39, q245_40, q245_41, q245_44, q245_47, q245_48, q245_51, q245_52, q245_54, q245_55, q245_56, q245_57, q245_58, q245_61, q245_63, q245_64, q245_65, q245_66, q245_69, q245_70, q245_71, q245_72, q245_75, q245_78, q245_79, m_0 hS, m_K hS, mR_standing hS, mK_standing hS, mL_standing hS, mR_atShift hS, mK_atShift hS, mL_atShift hS, sp_holdsAt hS, as_nil, as_i, as_r, Nat.reduceAdd, Nat.reduceLeDiff, z_eq0, z_eq1, z_or, z_em, Classical.not_not, not_false_eq_true, not_true_eq_false, true_and, and_true, false_and, and_false, and_self, true_implies, false_implies, implies_true, Option.toList_some, Option.toList_none, List.cons_append, List.nil_append, Nat.add_eq_zero_iff, a_nl_i, a_nl_r, a_nl_n, true_or, or_true, eq_self, ok_4, ok_5, ok_6, ok_7, ok_9, ok_10, ok_20, ok_21, ok_24, ok_30, ok_48, ok_50, ok_60, ok_80, ok_120, ok_180, ok_192, ok_200, ok_900, ok_1000, ok_84000]
  all_goals grind [ui_ap]
theorem lp_count_69 (hS : m_S M K L R) (hR : mR M I) {w : Int32} (hP : ∀ v, P (some (.int v)) (n, t, K, L, I, R)) : ∀ a : Int32, a ≤ 30 → ∀ e, 0 ≤ a → a_at (d + 2) (a_xm a_m261) 69 [some (a_rf M), some (.int w), some (.int e), some (.int a)] [] (n, t, K, L, I, R) P := by
  refine up_ind 30 (fun a ha ih => ?_)
  intro e h0
  have g1 := rg_asks hR
  rw [q261_69]
  repeat' first
    | with_reducible apply And.intro
    | with_reducible assumption
    | with_reducible intro _
    | with_reducible apply ih
    | with_reducible apply hP
    | simp only [q261_70, q261_71, q261_74, q261_77, q261_78, q261_79, q261_80, q261_83, q261_86, q261_87, q261_90, q261_91, q261_92, q261_93, q261_96, q261_99, q261_100, m_0 hS, m_K hS, sp_hasPlace hS, as_nil, as_i, as_r, Nat.reduceAdd, Nat.reduceLeDiff, z_eq0, z_eq1, z_or, z_em, Classical.not_not, not_false_eq_true, not_true_eq_false, true_and, and_true, false_and, and_false, and_self, true_implies, false_implies, implies_true, Option.toList_some, Option.toList_none, List.cons_append, List.nil_append, Nat.add_eq_zero_iff, a_nl_i, a_nl_r, a_nl_n, true_or, or_true, eq_self, ok_4, ok_5, ok_6, ok_7, ok_9, ok_10, ok_20, ok_21, ok_24, ok_30, ok_48, ok_50, ok_60, ok_80, ok_120, ok_180, ok_192, ok_200, ok_900, ok_1000, ok_84000]
  all_goals grind [ui_ap]
theorem lp_count_113 (hS : m_S M K L R) (hR : mR M I) {w : Int32} (hP : ∀ v, P (some (.int v)) (n, t, K, L, I, R)) : ∀ a : Int32, a ≤ 30 → ∀ e, 0 ≤ a → a_at (d + 2) (a_xm a_m261) 113 [some (a_rf M), some (.int w), some (.int e), some (.int a)] [] (n, t, K, L, I, R) P := by
  refine up_ind 30 (fun a ha ih => ?_)
  intro e h0
  have g1 := rg_asks hR
  rw [q261_113]
  repeat' first
    | with_reducible apply And.intro
    | with_reducible assumption
    | with_reducible intro _
    | with_reducible apply ih
    | with_reducible apply hP
    | simp only [q261_114, q261_115, q261_118, q261_121, q261_122, q261_123, q261_124, q261_127, q261_130, q261_131, q261_134, q261_135, q261_136, q261_139, q261_140, q261_141, q261_142, q261_145, q261_148, q261_149, m_0 hS, m_K hS, mR_length hS, mK_length hS, mL_length hS, sp_hasPlace hS, as_nil, as_i, as_r, Nat.reduceAdd, Nat.reduceLeDiff, z_eq0, z_eq1, z_or, z_em, Classical.not_not, not_false_eq_true, not_true_eq_false, true_and, and_true, false_and, and_false, and_self, true_implies, false_implies, implies_true, Option.toList_some, Option.toList_none, List.cons_append, List.nil_append, Nat.add_eq_zero_iff, a_nl_i, a_nl_r, a_nl_n, true_or, or_true, eq_self, ok_4, ok_5, ok_6, ok_7, ok_9, ok_10, ok_20, ok_21, ok_24, ok_30, ok_48, ok_50, ok_60, ok_80, ok_120, ok_180, ok_192, ok_200, ok_900, ok_1000, ok_84000]
  all_goals grind [ui_ap]
theorem lp_lead_27 (hS : m_S M K L R) (hR : mR M I) {b s : Int32} (hP : ∀ v, P (some (.int v)) (n, t, K, L, I, R)) : ∀ e : Int32, e ≤ 84000 → ∀ y, 0 ≤ e → a_at d (a_xm a_m258) 27 [some (a_rf M), some (.int b), some (.int s), some (.int y), some (.int e)] [] (n, t, K, L, I, R) P := by
  refine up_ind 84000 (fun e he ih => ?_)
  intro y h0
  have g1 := rg_events hR
  rw [q258_27]
  repeat' first
    | with_reducible apply And.intro
    | with_reducible assumption
    | with_reducible intro _
    | with_reducible apply ih
    | with_reducible apply hP
    | simp only [q258_29, q258_30, q258_33, q258_36, q258_37, q258_40, q258_42, q258_43, q258_46, q258_47, q258_48, q258_49, q258_50, q258_53, q258_54, q258_57, q258_59, q258_60, q258_63, q258_64, q258_65, q258_68, q258_71, q258_72, m_0 hS, m_K hS, mR_eWhere hS, mK_eWhere hS, mL_eWhere hS, mR_eHour hS, mK_eHour hS, mL_eHour hS, as_nil, as_i, as_r, Nat.reduceAdd, Nat.reduceLeDiff, z_eq0, z_eq1, z_or, z_em, Classical.not_not, not_false_eq_true, not_true_eq_false, true_and, and_true, false_and, and_false, and_self, true_implies, false_implies, implies_true, Option.toList_some, Option.toList_none, List.cons_append, List.nil_append, Nat.add_eq_zero_iff, a_nl_i, a_nl_r, a_nl_n, true_or, or_true, eq_self, ok_4, ok_5, ok_6, ok_7, ok_9, ok_10, ok_20, ok_21, ok_24, ok_30, ok_48, ok_50, ok_60, ok_80, ok_120, ok_180, ok_192, ok_200, ok_900, ok_1000, ok_84000]
  all_goals grind [ui_ap]

theorem ct_hereC (hS : m_S M K L R) (hR : mR M J) (hat : 0 ≤ J M 49 ∧ J M 49 ≤ 52) (he : J M 48 ≤ 50) (hP : P (some (.int (hv M J))) (n, t, K, L, J, R)) : a_does (d + 1) 198 [a_rf M] (n, t, K, L, J, R) P :=
  ct_here hS (I0 := J) ⟨hat, he, rg_base hR⟩ (rT_refl hR ⟨hat, he, rg_base hR⟩) hP

end SC
end
section
/-! public methods 3 -/
section SD
variable {d n t M c : Nat} {K L : Nat → Nat} {I I0 J J0 J1 J2 : Nat → Nat → Int32} {R : Nat → Nat → Nat} {P : Option Value → AH → Prop}
theorem mE_add (h : mE M c I) (h1 : J M 35 = I M 35) (h2 : ∀ j, J (M + 24) j = I (M + 24) j) (h3 : ∀ j, J (M + 25) j = I (M + 25) j) (h4 : J M 0 = I M 0) (h5 : J M 17 = I M 17 + 1) (hk : 0 ≤ I M 17 ∧ I M 17 < 30) (h6 : ∀ j, ¬ j = (I M 17).toNatClampNeg → J (M + 10) j = I (M + 10) j) (h7 : ∀ j, ¬ j = (I M 17).toNatClampNeg → J (M + 20) j = I (M + 20) j) (h8 : ∀ j, ¬ j = (I M 17).toNatClampNeg → J (M + 21) j = I (M + 21) j) (h9 : J (M + 20) (I M 17).toNatClampNeg = -9) : mE M c J := by
  obtain ⟨g, q1, q2⟩ := h
  refine ⟨g, ?_, by rw [h1]; exact q2⟩
  intro a ha hk2 hb
  by_cases he : a = I M 17
  · subst he; rw [h9] at hb; exact absurd hb (by decide)
  · have hne : ¬ a.toNatClampNeg = (I M 17).toNatClampNeg := fun q => he (cl_inj ha hk.1 q)
    rw [h7 _ hne] at hb
    cases q1 a ha (by grind) hb with
    | inl q => exact Or.inl (fun i i0 i1 => by rw [h6 _ hne] at i1; rw [fc_eq h1 h2 h3 h4, h7 _ hne, h8 _ hne]; exact q i i0 i1)
    | inr q => exact Or.inr q
theorem fr_ui (h : fr M I J) {x k : Nat} {v : Int32} (hx : ¬ eC M x k) : fr M I (a_ui J x k v) := fun y j hy => by
  rw [ui_ap, if_neg (fun q => hx (by rw [← q.1, ← q.2]; exact hy))]
  exact h y j hy
theorem ask_R (h : mR M J) {k g l m w p q r s x y : Int32} (ha : J M 17 < 30) (hg : 0 ≤ g ∧ g ≤ 9) (hm : 0 ≤ m ∧ m ≤ 4) (hx : k = 1 → 0 ≤ x ∧ x ≤ 29) : mR M (a_ui (a_ui (a_ui (a_ui (a_ui (a_ui (a_ui (a_ui (a_ui (a_ui (a_ui (a_ui (a_ui (a_ui (a_ui J (M + 7) (J M 17).toNatClampNeg k) (M + 8) (J M 17).toNatClampNeg g) (M + 9) (J M 17).toNatClampNeg l) (M + 10) (J M 17).toNatClampNeg m) (M + 11) (J M 17).toNatClampNeg w) (M + 20) (J M 17).toNatClampNeg (-9)) (M + 21) (J M 17).toNatClampNeg (-9)) M 17 (J M 17 + 1)) (M + 12) (J M 17).toNatClampNeg p) (M + 13) (J M 17).toNatClampNeg q) (M + 14) (J M 17).toNatClampNeg r) (M + 15) (J M 17).toNatClampNeg s) (M + 16) (J M 17).toNatClampNeg x) (M + 17) (J M 17).toNatClampNeg y) M 12 0) := by
  have hk := rg_asks h
  generalize (J M 17).toNatClampNeg = a
  generalize ha1 : J M 17 + 1 = a1
  have ha2 : 0 ≤ a1 ∧ a1 ≤ 30 := by grind
  clear hk ha1
  unfold mR at h ⊢
  simp only [ui_ap, ne_MM, ne_M0, ne_0M, reduceCtorEq, Nat.reduceEqDiff, false_and, and_false, if_false, true_and, and_self, if_true] at h ⊢
  refine ⟨h.1, h.2.1, h.2.2.1, ?_, h.2.2.2.2.1, h.2.2.2.2.2.1, h.2.2.2.2.2.2.1, h.2.2.2.2.2.2.2.1, h.2.2.2.2.2.2.2.2.1, h.2.2.2.2.2.2.2.2.2.1, h.2.2.2.2.2.2.2.2.2.2.1, h.2.2.2.2.2.2.2.2.2.2.2.1, h.2.2.2.2.2.2.2.2.2.2.2.2.1, ?_, ?_, ?_, ?_, h.2.2.2.2.2.2.2.2.2.2.2.2.2.2.2.2.2.1, h.2.2.2.2.2.2.2.2.2.2.2.2.2.2.2.2.2.2.1, h.2.2.2.2.2.2.2.2.2.2.2.2.2.2.2.2.2.2.2.1, h.2.2.2.2.2.2.2.2.2.2.2.2.2.2.2.2.2.2.2.2.1, h.2.2.2.2.2.2.2.2.2.2.2.2.2.2.2.2.2.2.2.2.2.1, h.2.2.2.2.2.2.2.2.2.2.2.2.2.2.2.2.2.2.2.2.2.2.1, ?_⟩ <;> grind
theorem ask_F (h : mF M c I0 J) {k g l m w p q r s x y : Int32} (ha : J M 17 < 30) (hg : 0 ≤ g ∧ g ≤ 9) (hm : 0 ≤ m ∧ m ≤ 4) (hx : k = 1 → 0 ≤ x ∧ x ≤ 29) : mF M c I0 (a_ui (a_ui (a_ui (a_ui (a_ui (a_ui (a_ui (a_ui (a_ui (a_ui (a_ui (a_ui (a_ui (a_ui (a_ui J (M + 7) (J M 17).toNatClampNeg k) (M + 8) (J M 17).toNatClampNeg g) (M + 9) (J M 17).toNatClampNeg l) (M + 10) (J M 17).toNatClampNeg m) (M + 11) (J M 17).toNatClampNeg w) (M + 20) (J M 17).toNatClampNeg (-9)) (M + 21) (J M 17).toNatClampNeg (-9)) M 17 (J M 17 + 1)) (M + 12) (J M 17).toNatClampNeg p) (M + 13) (J M 17).toNatClampNeg q) (M + 14) (J M 17).toNatClampNeg r) (M + 15) (J M 17).toNatClampNeg s) (M + 16) (J M 17).toNatClampNeg x) (M + 17) (J M 17).toNatClampNeg y) M 12 0) := by
  have hk := rg_asks h.1.1
  refine ⟨⟨ask_R h.1.1 ha hg hm hx, ?_⟩, ?_⟩
  · repeat refine fr_ui ?_ (by unfold eC; omega)
    exact h.1.2
  · refine mE_add h.2 ?_ ?_ ?_ ?_ ?_ ⟨hk.1, ha⟩ ?_ ?_ ?_ ?_ <;> intros <;> simp only [ui_ap, ne_MM, ne_M0, ne_0M, reduceCtorEq, Nat.reduceEqDiff, false_and, and_false, if_false, true_and, and_self, if_true] <;> (try simp_all)
theorem add_F (h : mF M c I0 J) {g l m w : Int32} (ha : J M 17 < 30) (hg : 0 ≤ g ∧ g ≤ 9) (hm : 0 ≤ m ∧ m ≤ 4) : mF M c I0 (a_ui (a_ui (a_ui (a_ui (a_ui (a_ui (a_ui (a_ui J (M + 7) (J M 17).toNatClampNeg 5) (M + 8) (J M 17).toNatClampNeg g) (M + 9) (J M 17).toNatClampNeg l) (M + 10) (J M 17).toNatClampNeg m) (M + 11) (J M 17).toNatClampNeg w) (M + 20) (J M 17).toNatClampNeg (-9)) (M + 21) (J M 17).toNatClampNeg (-9)) M 17 (J M 17 + 1)) := by
  have hk := rg_asks h.1.1
  refine ⟨sG_asks (sG_atShift (sG_atBench (sG_wants (sG_length (sG_land (sG_group (sG_kind h.1 (by grind)) hg)) hm)) (by decide)) (by decide)) (by grind), ?_⟩
  refine mE_add h.2 ?_ ?_ ?_ ?_ ?_ ⟨hk.1, ha⟩ ?_ ?_ ?_ ?_ <;> intros <;> simp only [ui_ap, ne_MM, ne_M0, ne_0M, reduceCtorEq, Nat.reduceEqDiff, false_and, and_false, if_false, true_and, and_self, if_true] <;> (try simp_all)
theorem sp_add (hS : m_S M K L R) {k g l m w : Int32} (ha : 0 ≤ J M 17 ∧ J M 17 < 30) (hP : P (some (.int (J M 17))) (n, t, K, L, (a_ui (a_ui (a_ui (a_ui (a_ui (a_ui (a_ui (a_ui J (M + 7) (J M 17).toNatClampNeg k) (M + 8) (J M 17).toNatClampNeg g) (M + 9) (J M 17).toNatClampNeg l) (M + 10) (J M 17).toNatClampNeg m) (M + 11) (J M 17).toNatClampNeg w) (M + 20) (J M 17).toNatClampNeg (-9)) (M + 21) (J M 17).toNatClampNeg (-9)) M 17 (J M 17 + 1)), R)) : a_does (d + 1) 183 [a_rf M, .int k, .int g, .int l, .int m, .int w] (n, t, K, L, J, R) P := by
  rw [a_enter1 (M := a_m183) rfl (a_cat_rf (a_cat_int (a_cat_int (a_cat_int (a_cat_int (a_cat_int a_cat_nil)))))) (show 6 ≤ 7 by decide)]
  show a_at _ (a_xm a_m183) 0 [some (a_rf M), some (.int k), some (.int g), some (.int l), some (.int m), some (.int w), none] [] _ _
  simp only [q183_0, q183_1, q183_4, q183_6, q183_7, q183_10, q183_12, q183_13, q183_14, q183_15, q183_18, q183_20, q183_21, q183_22, q183_23, q183_26, q183_28, q183_29, q183_30, q183_31, q183_34, q183_36, q183_38, q183_39, q183_40, q183_43, q183_45, q183_47, q183_48, q183_49, q183_52, q183_54, q183_56, q183_57, q183_58, q183_61, q183_63, q183_65, q183_66, q183_67, q183_68, q183_71, q183_72, q183_73, q183_76, q183_78, m_0 hS, m_K hS, mR_kind hS, mK_kind hS, mL_kind hS, mR_group hS, mK_group hS, mL_group hS, mR_land hS, mK_land hS, mL_land hS, mR_length hS, mK_length hS, mL_length hS, mR_wants hS, mK_wants hS, mL_wants hS, mR_atBench hS, mK_atBench hS, mL_atBench hS, mR_atShift hS, mK_atShift hS, mL_atShift hS, as_nil, as_i, as_r, Nat.reduceAdd, Nat.reduceLeDiff, z_eq0, z_eq1, z_or, z_em, Classical.not_not, not_false_eq_true, not_true_eq_false, true_and, and_true, false_and, and_false, and_self, true_implies, false_implies, implies_true, Option.toList_some, Option.toList_none, List.cons_append, List.nil_append, Nat.add_eq_zero_iff, a_nl_i, a_nl_r, a_nl_n, true_or, or_true, eq_self, ok_4, ok_5, ok_6, ok_7, ok_9, ok_10, ok_20, ok_21, ok_24, ok_30, ok_48, ok_50, ok_60, ok_80, ok_120, ok_180, ok_192, ok_200, ok_900, ok_1000, ok_84000, ui_ap, ne_MM, ne_M0, ne_0M, Nat.reduceEqDiff, reduceIte, if_true, if_false]
  grind
end SD
end
section
/-! public methods 4 -/
section SE
variable {d n t M c : Nat} {K L : Nat → Nat} {I I0 J J0 J1 J2 : Nat → Nat → Int32} {R : Nat → Nat → Nat} {P : Option Value → AH → Prop}
theorem a_init_ril {r : Nat} {v : Int32} {w : Int64} : a_init [a_rf r, .int v, .long w] 5 = [some (a_rf r), some (.int v), some (.long w), none, none] := by
  by_cases hr : r = 0
  · subst hr; rfl
  · rw [a_rf_pos hr]; rfl
theorem a_init_ril4 {r : Nat} {v : Int32} {w : Int64} : a_init [a_rf r, .int v, .long w] 4 = [some (a_rf r), some (.int v), some (.long w), none] := by
  by_cases hr : r = 0
  · subst hr; rfl
  · rw [a_rf_pos hr]; rfl
theorem a_len_ril {r : Nat} {v : Int32} {w : Int64} : (lg_sl [a_rf r, .int v, .long w]).length = 4 := by
  by_cases hr : r = 0
  · subst hr; rfl
  · rw [a_rf_pos hr]; rfl
theorem pe_hours (hS : m_S M K L R) {v : Int32} (h1 : v < 1 → P (some (.int (-4))) (n, t, K, L, (a_ui I (M + 23) 4 (I (M + 23) 4 + 1)), R)) (h2 : ¬ v < 1 → 1600 - I M 0 < v → P (some (.int (-6))) (n, t, K, L, (a_ui I (M + 23) 6 (I (M + 23) 6 + 1)), R)) (h3 : ¬ v < 1 → ¬ 1600 - I M 0 < v → P (some (.int (I M 0 + v))) (n, t, K, L, (a_ui I M 0 (I M 0 + v)), R)) : a_does (d + 2) 170 [a_rf M, .int v] (n, t, K, L, I, R) P := by
  rw [a_enter1 (M := a_m170) rfl (a_cat_rf (a_cat_int a_cat_nil)) (show 2 ≤ 2 by decide)]
  show a_at _ (a_xm a_m170) 0 [some (a_rf M), some (.int v)] [] _ _
  simp only [q170_0, q170_1, q170_2, q170_5, q170_6, q170_8, q170_11, q170_12, q170_13, q170_16, q170_17, q170_20, q170_21, q170_24, q170_25, q170_27, q170_30, q170_31, q170_32, q170_33, q170_36, q170_37, q170_38, q170_41, q170_42, q170_45, m_0 hS, m_K hS, sp_refuse_1 hS, sp_refuse_2 hS, sp_refuse_3 hS, sp_refuse_4 hS, sp_refuse_5 hS, sp_refuse_6 hS, as_nil, as_i, as_r, Nat.reduceAdd, Nat.reduceLeDiff, z_eq0, z_eq1, z_or, z_em, Classical.not_not, not_false_eq_true, not_true_eq_false, true_and, and_true, false_and, and_false, and_self, true_implies, false_implies, implies_true, Option.toList_some, Option.toList_none, List.cons_append, List.nil_append, Nat.add_eq_zero_iff, a_nl_i, a_nl_r, a_nl_n, true_or, or_true, eq_self, ok_4, ok_5, ok_6, ok_7, ok_9, ok_10, ok_20, ok_21, ok_24, ok_30, ok_48, ok_50, ok_60, ok_80, ok_120, ok_180, ok_192, ok_200, ok_900, ok_1000, ok_84000, ui_ap, ne_MM, ne_M0, ne_0M, Nat.reduceEqDiff, reduceIte, if_true, if_false]
  grind
theorem pe_trip (hS : m_S M K L R) {h v : Int32} (hb : 0 ≤ I M 2 ∧ I M 2 ≤ 20) (h1 : (h < 0 ∨ v < 1) → P (some (.int (-4))) (n, t, K, L, (a_ui I (M + 23) 4 (I (M + 23) 4 + 1)), R)) (h2 : ¬ (h < 0 ∨ v < 1) → (I M 0 < h ∨ 60 < v ∨ I M 2 = 20) → P (some (.int (-6))) (n, t, K, L, (a_ui I (M + 23) 6 (I (M + 23) 6 + 1)), R)) (h3 : ¬ (h < 0 ∨ v < 1) → ¬ (I M 0 < h ∨ 60 < v ∨ I M 2 = 20) → P (some (.int (I M 2 + 1))) (n, t, K, L, (a_ui (a_ui (a_ui (a_ui I (M + 2) (I M 2).toNatClampNeg h) (M + 3) (I M 2).toNatClampNeg v) (M + 4) (I M 2).toNatClampNeg (I M 0)) M 2 (I M 2 + 1)), R)) : a_does (d + 2) 175 [a_rf M, .int h, .int v] (n, t, K, L, I, R) P := by
  rw [a_enter1 (M := a_m175) rfl (a_cat_rf (a_cat_int (a_cat_int a_cat_nil))) (show 3 ≤ 3 by decide)]
  show a_at _ (a_xm a_m175) 0 [some (a_rf M), some (.int h), some (.int v)] [] _ _
  simp only [q175_0, q175_1, q175_4, q175_5, q175_6, q175_9, q175_10, q175_12, q175_15, q175_16, q175_17, q175_18, q175_21, q175_24, q175_25, q175_27, q175_30, q175_31, q175_34, q175_36, q175_39, q175_40, q175_42, q175_45, q175_46, q175_47, q175_50, q175_51, q175_54, q175_55, q175_56, q175_57, q175_60, q175_61, q175_64, q175_65, q175_66, q175_67, q175_70, q175_71, q175_74, q175_75, q175_78, q175_79, q175_80, q175_81, q175_84, q175_85, q175_86, q175_89, q175_90, q175_93, m_0 hS, m_K hS, mR_tHour hS, mK_tHour hS, mL_tHour hS, mR_tMany hS, mK_tMany hS, mL_tMany hS, mR_tFound hS, mK_tFound hS, mL_tFound hS, sp_refuse_1 hS, sp_refuse_2 hS, sp_refuse_3 hS, sp_refuse_4 hS, sp_refuse_5 hS, sp_refuse_6 hS, as_nil, as_i, as_r, Nat.reduceAdd, Nat.reduceLeDiff, z_eq0, z_eq1, z_or, z_em, Classical.not_not, not_false_eq_true, not_true_eq_false, true_and, and_true, false_and, and_false, and_self, true_implies, false_implies, implies_true, Option.toList_some, Option.toList_none, List.cons_append, List.nil_append, Nat.add_eq_zero_iff, a_nl_i, a_nl_r, a_nl_n, true_or, or_true, eq_self, ok_4, ok_5, ok_6, ok_7, ok_9, ok_10, ok_20, ok_21, ok_24, ok_30, ok_48, ok_50, ok_60, ok_80, ok_120, ok_180, ok_192, ok_200, ok_900, ok_1000, ok_84000, ui_ap, ne_MM, ne_M0, ne_0M, Nat.reduceEqDiff, reduceIte, if_true, if_false]
  grind
theorem pe_bench (hS : m_S M K L R) {a b : Int32} (hb : 0 ≤ I M 6 ∧ I M 6 ≤ 6) (h1 : (a < 0 ∨ b < 0) → P (some (.int (-4))) (n, t, K, L, (a_ui I (M + 23) 4 (I (M + 23) 4 + 1)), R)) (h2 : ¬ (a < 0 ∨ b < 0) → (255 < a ∨ 255 < b ∨ I M 6 = 6) → P (some (.int (-6))) (n, t, K, L, (a_ui I (M + 23) 6 (I (M + 23) 6 + 1)), R)) (h3 : ¬ (a < 0 ∨ b < 0) → ¬ (255 < a ∨ 255 < b ∨ I M 6 = 6) → P (some (.int (I M 6 + 1 - 1))) (n, t, K, L, (a_ui (a_ui (a_ui I (M + 5) (I M 6).toNatClampNeg a) (M + 6) (I M 6).toNatClampNeg b) M 6 (I M 6 + 1)), R)) : a_does (d + 2) 178 [a_rf M, .int a, .int b] (n, t, K, L, I, R) P := by
  rw [a_enter1 (M := a_m178) rfl (a_cat_rf (a_cat_int (a_cat_int a_cat_nil))) (show 3 ≤ 3 by decide)]
  show a_at _ (a_xm a_m178) 0 [some (a_rf M), some (.int a), some (.int b)] [] _ _
  simp only [q178_0, q178_1, q178_4, q178_5, q178_8, q178_9, q178_11, q178_14, q178_15, q178_16, q178_19, q178_22, q178_23, q178_26, q178_29, q178_30, q178_33, q178_35, q178_38, q178_39, q178_41, q178_44, q178_45, q178_46, q178_49, q178_50, q178_53, q178_54, q178_55, q178_56, q178_59, q178_60, q178_63, q178_64, q178_65, q178_66, q178_67, q178_70, q178_71, q178_72, q178_75, q178_76, q178_79, q178_80, q178_81, m_0 hS, m_K hS, mR_can hS, mK_can hS, mL_can hS, mR_hostsOf hS, mK_hostsOf hS, mL_hostsOf hS, sp_refuse_1 hS, sp_refuse_2 hS, sp_refuse_3 hS, sp_refuse_4 hS, sp_refuse_5 hS, sp_refuse_6 hS, as_nil, as_i, as_r, Nat.reduceAdd, Nat.reduceLeDiff, z_eq0, z_eq1, z_or, z_em, Classical.not_not, not_false_eq_true, not_true_eq_false, true_and, and_true, false_and, and_false, and_self, true_implies, false_implies, implies_true, Option.toList_some, Option.toList_none, List.cons_append, List.nil_append, Nat.add_eq_zero_iff, a_nl_i, a_nl_r, a_nl_n, true_or, or_true, eq_self, ok_4, ok_5, ok_6, ok_7, ok_9, ok_10, ok_20, ok_21, ok_24, ok_30, ok_48, ok_50, ok_60, ok_80, ok_120, ok_180, ok_192, ok_200, ok_900, ok_1000, ok_84000, ui_ap, ne_MM, ne_M0, ne_0M, Nat.reduceEqDiff, reduceIte, if_true, if_false]
  grind
theorem pe_put (hS : m_S M K L R) {v : Int32} (hb : 0 ≤ I M 79 ∧ I M 79 ≤ 21) (h1 : I M 79 = 21 → P (some (.int (-6))) (n, t, K, L, (a_ui I (M + 23) 6 (I (M + 23) 6 + 1)), R)) (h2 : ¬ I M 79 = 21 → P (some (.int (I M 79 + 1))) (n, t, K, L, (a_ui (a_ui I (M + 52) (I M 79).toNatClampNeg v) M 79 (I M 79 + 1)), R)) : a_does (d + 2) 259 [a_rf M, .int v] (n, t, K, L, I, R) P := by
  rw [a_enter1 (M := a_m259) rfl (a_cat_rf (a_cat_int a_cat_nil)) (show 2 ≤ 2 by decide)]
  show a_at _ (a_xm a_m259) 0 [some (a_rf M), some (.int v)] [] _ _
  simp only [q259_0, q259_1, q259_4, q259_6, q259_9, q259_10, q259_12, q259_15, q259_16, q259_17, q259_20, q259_21, q259_24, q259_25, q259_26, q259_27, q259_28, q259_31, q259_32, q259_33, q259_36, q259_37, q259_40, m_0 hS, m_K hS, mR_row hS, mK_row hS, mL_row hS, sp_refuse_1 hS, sp_refuse_2 hS, sp_refuse_3 hS, sp_refuse_4 hS, sp_refuse_5 hS, sp_refuse_6 hS, as_nil, as_i, as_r, Nat.reduceAdd, Nat.reduceLeDiff, z_eq0, z_eq1, z_or, z_em, Classical.not_not, not_false_eq_true, not_true_eq_false, true_and, and_true, false_and, and_false, and_self, true_implies, false_implies, implies_true, Option.toList_some, Option.toList_none, List.cons_append, List.nil_append, Nat.add_eq_zero_iff, a_nl_i, a_nl_r, a_nl_n, true_or, or_true, eq_self, ok_4, ok_5, ok_6, ok_7, ok_9, ok_10, ok_20, ok_21, ok_24, ok_30, ok_48, ok_50, ok_60, ok_80, ok_120, ok_180, ok_192, ok_200, ok_900, ok_1000, ok_84000, ui_ap, ne_MM, ne_M0, ne_0M, Nat.reduceEqDiff, reduceIte, if_true, if_false]
  grind
theorem pe_kin (hS : m_S M K L R) {r g : Int32} (h1 : ¬ ((0 ≤ r ∧ r ≤ 5) ∧ (0 ≤ g ∧ g ≤ 9)) → P (some (.int (-1))) (n, t, K, L, (a_ui I (M + 23) 1 (I (M + 23) 1 + 1)), R)) (h2 : (0 ≤ r ∧ r ≤ 5) → (0 ≤ g ∧ g ≤ 9) → P (some (.int (if I (M + 35) (10 * r + g).toNatClampNeg = 0 then 1 else 0))) (n, t, K, L, (a_ui I (M + 35) (10 * r + g).toNatClampNeg (1 &&& 1)), R)) : a_does (d + 3) 213 [a_rf M, .int r, .int g] (n, t, K, L, I, R) P := by
  rw [a_enter1 (M := a_m213) rfl (a_cat_rf (a_cat_int (a_cat_int a_cat_nil))) (show 3 ≤ 4 by decide)]
  show a_at _ (a_xm a_m213) 0 [some (a_rf M), some (.int r), some (.int g), none] [] _ _
  simp only [q213_0, q213_1, q213_4, q213_7, q213_8, q213_9, q213_11, q213_14, q213_17, q213_18, q213_19, q213_22, q213_23, q213_24, q213_27, q213_29, q213_30, q213_31, q213_32, q213_33, q213_34, q213_35, q213_36, q213_39, q213_41, q213_42, q213_43, q213_44, q213_45, q213_46, q213_47, q213_48, q213_51, q213_52, q213_55, q213_56, m_0 hS, m_K hS, mR_isKin hS, mK_isKin hS, mL_isKin hS, sp_isReader, sp_in, sp_refuse_1 hS, sp_refuse_2 hS, sp_refuse_3 hS, sp_refuse_4 hS, sp_refuse_5 hS, sp_refuse_6 hS, as_nil, as_i, as_r, Nat.reduceAdd, Nat.reduceLeDiff, z_eq0, z_eq1, z_or, z_em, Classical.not_not, not_false_eq_true, not_true_eq_false, true_and, and_true, false_and, and_false, and_self, true_implies, false_implies, implies_true, Option.toList_some, Option.toList_none, List.cons_append, List.nil_append, Nat.add_eq_zero_iff, a_nl_i, a_nl_r, a_nl_n, true_or, or_true, eq_self, ok_4, ok_5, ok_6, ok_7, ok_9, ok_10, ok_20, ok_21, ok_24, ok_30, ok_48, ok_50, ok_60, ok_80, ok_120, ok_180, ok_192, ok_200, ok_900, ok_1000, ok_84000, ui_ap, ne_MM, ne_M0, ne_0M, Nat.reduceEqDiff, reduceIte, if_true, if_false]
  grind
theorem pe_set (hS : m_S M K L R) {w v : Int32} (h0 : ¬ (0 ≤ w ∧ w ≤ 2) → P (some (.int (-2))) (n, t, K, L, (a_ui I (M + 23) 2 (I (M + 23) 2 + 1)), R)) (h1 : (0 ≤ w ∧ w ≤ 2) → v < 0 → P (some (.int (-4))) (n, t, K, L, (a_ui I (M + 23) 4 (I (M + 23) 4 + 1)), R)) (h2 : (0 ≤ w ∧ w ≤ 2) → ¬ v < 0 → ((w = 0 ∧ 3 < v) ∨ (w = 1 ∧ 100 < v) ∨ (w = 2 ∧ 1 < v)) → P (some (.int (-6))) (n, t, K, L, (a_ui I (M + 23) 6 (I (M + 23) 6 + 1)), R)) (h3 : w = 0 → ¬ v < 0 → ¬ 3 < v → P (some (.int (I M 9))) (n, t, K, L, (a_ui (a_ui (a_ui I M 9 v) M 10 (I M 10)) M 11 (I M 11)), R)) (h4 : w = 1 → ¬ v < 0 → ¬ 100 < v → P (some (.int (I M 10))) (n, t, K, L, (a_ui (a_ui (a_ui I M 9 (I M 9)) M 10 v) M 11 (I M 11)), R)) (h5 : w = 2 → ¬ v < 0 → ¬ 1 < v → P (some (.int (I M 11))) (n, t, K, L, (a_ui (a_ui (a_ui I M 9 (I M 9)) M 10 (I M 10)) M 11 v), R)) : a_does (d + 2) 179 [a_rf M, .int w, .int v] (n, t, K, L, I, R) P := by
  rw [a_enter1 (M := a_m179) rfl (a_cat_rf (a_cat_int (a_cat_int a_cat_nil))) (show 3 ≤ 4 by decide)]
  show a_at _ (a_xm a_m179) 0 [some (a_rf M), some (.int w), some (.int v), none] [] _ _
  repeat' first
    | with_reducible apply And.intro
    | with_reducible assumption
    | with_reducible intro _
    | with_reducible apply h0
    | with_reducible apply h1
    | with_reducible apply h2
    | with_reducible apply h3
    | with_reducible apply h4
    | with_reducible apply h5
    | simp only [q179_0, q179_1, q179_2, q179_3, q179_6, q179_9, q179_10, q179_12, q179_15, q179_16, q179_17, q179_20, q179_21, q179_23, q179_26, q179_27, q179_28, q179_29, q179_32, q179_33, q179_36, q179_37, q179_38, q179_41, q179_43, q179_46, q179_47, q179_50, q179_51, q179_53, q179_56, q179_57, q179_58, q179_61, q179_62, q179_65, q179_68, q179_69, q179_70, q179_73, q179_74, q179_77, q179_80, q179_81, q179_84, q179_85, q179_86, q179_87, q179_90, q179_91, q179_94, q179_95, q179_98, q179_101, q179_102, q179_103, q179_104, q179_107, q179_108, q179_111, q179_112, q179_115, q179_118, q179_119, q179_120, q179_121, q179_124, q179_125, q179_128, q179_129, q179_132, q179_135, q179_136, m_0 hS, m_K hS, sp_in, sp_refuse_1 hS, sp_refuse_2 hS, sp_refuse_3 hS, sp_refuse_4 hS, sp_refuse_5 hS, sp_refuse_6 hS, as_nil, as_i, as_r, Nat.reduceAdd, Nat.reduceLeDiff, z_eq0, z_eq1, z_or, z_em, Classical.not_not, not_false_eq_true, not_true_eq_false, true_and, and_true, false_and, and_false, and_self, true_implies, false_implies, implies_true, Option.toList_some, Option.toList_none, List.cons_append, List.nil_append, Nat.add_eq_zero_iff, a_nl_i, a_nl_r, a_nl_n, true_or, or_true, eq_self, ok_4, ok_5, ok_6, ok_7, ok_9, ok_10, ok_20, ok_21, ok_24, ok_30, ok_48, ok_50, ok_60, ok_80, ok_120, ok_180, ok_192, ok_200, ok_900, ok_1000, ok_84000, ui_ap, ne_MM, ne_M0, ne_0M, Nat.reduceEqDiff, reduceIte, if_true, if_false]
  all_goals grind [ui_ap]
/-- how many of n from lo on are not m -/
def cn (f : Nat → Int32) (m : Int32) (lo : Nat) : Nat → Int32
  | 0 => 0
  | k + 1 => cn f m lo k + (if f (lo + k) = m then 0 else 1)
theorem lp_mode_47 (hS : m_S M K L R) {a b m : Int32} (ha : 0 ≤ a ∧ a ≤ 199) (hb : 0 ≤ b ∧ b ≤ 199) (hab : a ≤ b) (hP : ∀ J, (∀ x j, ¬ x = (M + 1) → J x j = I x j) → (∀ j, J (M + 1) j = if a.toNatClampNeg ≤ j ∧ j ≤ b.toNatClampNeg then m else I (M + 1) j) → P (some (.int (cn (I (M + 1)) m a.toNatClampNeg (b.toNatClampNeg + 1 - a.toNatClampNeg)))) (n, t, K, L, J, R)) : ∀ s : Int32, s ≤ 200 → ∀ v J, a ≤ s → s ≤ b + 1 → (∀ x j, ¬ x = (M + 1) → J x j = I x j) → (∀ j, J (M + 1) j = if a.toNatClampNeg ≤ j ∧ j < s.toNatClampNeg then m else I (M + 1) j) → v = cn (I (M + 1)) m a.toNatClampNeg (s.toNatClampNeg - a.toNatClampNeg) → a_at d (a_xm a_m172) 47 [some (a_rf M), some (.int a), some (.int b), some (.int m), some (.int v), some (.int s)] [] (n, t, K, L, J, R) P := by
  refine up_ind 200 (fun s hs ih => ?_)
  intro v J h0 h1 hx hm hv
  rw [q172_47]
  simp only [q172_49, q172_50, q172_53, q172_55, q172_56, q172_59, q172_61, q172_62, q172_63, q172_66, q172_67, q172_70, q172_71, q172_72, q172_74, q172_75, q172_78, q172_80, q172_81, q172_82, q172_85, q172_88, q172_90, m_0 hS, m_K hS, mR_modes hS, mK_modes hS, mL_modes hS, as_nil, as_i, as_r, Nat.reduceAdd, Nat.reduceLeDiff, z_eq0, z_eq1, z_or, z_em, Classical.not_not, not_false_eq_true, not_true_eq_false, true_and, and_true, false_and, and_false, and_self, true_implies, false_implies, implies_true, Option.toList_some, Option.toList_none, List.cons_append, List.nil_append, Nat.add_eq_zero_iff, a_nl_i, a_nl_r, a_nl_n, true_or, or_true, eq_self, ok_4, ok_5, ok_6, ok_7, ok_9, ok_10, ok_20, ok_21, ok_24, ok_30, ok_48, ok_50, ok_60, ok_80, ok_120, ok_180, ok_192, ok_200, ok_900, ok_1000, ok_84000]
  have hsb : ∀ x : Int32, 0 ≤ x → x ≤ 200 → (x + 1).toNatClampNeg = x.toNatClampNeg + 1 := fun x q1 q2 => cl_up q1 (by grind)
  have hle : ∀ {x y : Int32}, 0 ≤ x → x ≤ y → x.toNatClampNeg ≤ y.toNatClampNeg := fun {x y} q1 q2 => by
    by_cases h : x = y
    · rw [h]; exact Nat.le_refl _
    · exact Nat.le_of_lt (cl_lt q1 (by grind))
  have h3 := hle ha.1 h0
  have hc : s ≤ b → cn (I (M + 1)) m a.toNatClampNeg ((s + 1).toNatClampNeg - a.toNatClampNeg) = v + (if J (M + 1) s.toNatClampNeg = m then 0 else 1) := by
    intro q
    rw [hsb s (by grind) hs, show s.toNatClampNeg + 1 - a.toNatClampNeg = (s.toNatClampNeg - a.toNatClampNeg) + 1 by omega, show J (M + 1) s.toNatClampNeg = I (M + 1) s.toNatClampNeg by rw [hm, if_neg (by omega)], hv]
    show _ + (if I (M + 1) (a.toNatClampNeg + (s.toNatClampNeg - a.toNatClampNeg)) = m then 0 else 1) = _
    rw [show a.toNatClampNeg + (s.toNatClampNeg - a.toNatClampNeg) = s.toNatClampNeg by omega]
  have hn : s ≤ b → a_at d (a_xm a_m172) 47 [some (a_rf M), some (.int a), some (.int b), some (.int m), some (.int (v + (if J (M + 1) s.toNatClampNeg = m then 0 else 1))), some (.int (s + 1))] [] (n, t, K, L, (a_ui J (M + 1) s.toNatClampNeg m), R) P := by
    intro q
    refine ih (by grind) _ _ (by grind) (by grind) (fun x j hxm => by rw [ui_ap, if_neg (by omega)]; exact hx x j hxm) (fun j => ?_) (hc q).symm
    rw [ui_ap, hm, hsb s (by grind) hs]
    by_cases hj : j = s.toNatClampNeg
    · rw [if_pos ⟨rfl, hj⟩, if_pos (by omega)]
    · rw [if_neg (by omega)]
      by_cases hj2 : a.toNatClampNeg ≤ j ∧ j < s.toNatClampNeg
      · rw [if_pos hj2, if_pos (by omega)]
      · rw [if_neg hj2, if_neg (by omega)]
  refine ⟨fun h => ?_, fun h => ?_⟩
  · have hsb1 : s = b + 1 := by grind
    rw [hv, hsb1, hsb b hb.1 (by grind)]
    refine hP J hx (fun j => ?_)
    rw [hm, hsb1, hsb b hb.1 (by grind)]
    by_cases hj : a.toNatClampNeg ≤ j ∧ j ≤ b.toNatClampNeg
    · rw [if_pos hj, if_pos (by omega)]
    · rw [if_neg hj, if_neg (by omega)]
  · have hn2 := hn (by grind)
    grind
theorem pe_mode (hS : m_S M K L R) {a b m : Int32} (h1 : ¬ ((0 ≤ a ∧ a ≤ 199) ∧ (0 ≤ b ∧ b ≤ 199) ∧ a ≤ b) → P (some (.int (-1))) (n, t, K, L, (a_ui I (M + 23) 1 (I (M + 23) 1 + 1)), R)) (h2 : ((0 ≤ a ∧ a ≤ 199) ∧ (0 ≤ b ∧ b ≤ 199) ∧ a ≤ b) → ¬ (0 ≤ m ∧ m ≤ 4) → P (some (.int (-2))) (n, t, K, L, (a_ui I (M + 23) 2 (I (M + 23) 2 + 1)), R)) (hP : ((0 ≤ a ∧ a ≤ 199) ∧ (0 ≤ b ∧ b ≤ 199) ∧ a ≤ b) → (0 ≤ m ∧ m ≤ 4) → ∀ J, (∀ x j, ¬ x = (M + 1) → J x j = I x j) → (∀ j, J (M + 1) j = if a.toNatClampNeg ≤ j ∧ j ≤ b.toNatClampNeg then m else I (M + 1) j) → P (some (.int (cn (I (M + 1)) m a.toNatClampNeg (b.toNatClampNeg + 1 - a.toNatClampNeg)))) (n, t, K, L, J, R)) : a_does (d + 3) 172 [a_rf M, .int a, .int b, .int m] (n, t, K, L, I, R) P := by
  rw [a_enter1 (M := a_m172) rfl (a_cat_rf (a_cat_int (a_cat_int (a_cat_int a_cat_nil)))) (show 4 ≤ 6 by decide)]
  show a_at _ (a_xm a_m172) 0 [some (a_rf M), some (.int a), some (.int b), some (.int m), none, none] [] _ _
  simp only [q172_0, q172_1, q172_4, q172_7, q172_8, q172_11, q172_14, q172_15, q172_16, q172_19, q172_20, q172_21, q172_24, q172_25, q172_26, q172_27, q172_28, q172_31, q172_34, q172_35, q172_37, q172_40, q172_41, q172_42, q172_44, q172_45, m_0 hS, m_K hS, sp_isShift, sp_refuse_1 hS, sp_refuse_2 hS, sp_refuse_3 hS, sp_refuse_4 hS, sp_refuse_5 hS, sp_refuse_6 hS, sp_in, as_nil, as_i, as_r, Nat.reduceAdd, Nat.reduceLeDiff, z_eq0, z_eq1, z_or, z_em, Classical.not_not, not_false_eq_true, not_true_eq_false, true_and, and_true, false_and, and_false, and_self, true_implies, false_implies, implies_true, Option.toList_some, Option.toList_none, List.cons_append, List.nil_append, Nat.add_eq_zero_iff, a_nl_i, a_nl_r, a_nl_n, true_or, or_true, eq_self, ok_4, ok_5, ok_6, ok_7, ok_9, ok_10, ok_20, ok_21, ok_24, ok_30, ok_48, ok_50, ok_60, ok_80, ok_120, ok_180, ok_192, ok_200, ok_900, ok_1000, ok_84000]
  have hz : (0 ≤ a ∧ a ≤ 199) ∧ (0 ≤ b ∧ b ≤ 199) ∧ a ≤ b → (0 ≤ m ∧ m ≤ 4) → a_at (d + 2) (a_xm a_m172) 47 [some (a_rf M), some (.int a), some (.int b), some (.int m), some (.int 0), some (.int a)] [] (n, t, K, L, I, R) P := by
    intro q1 q2
    refine lp_mode_47 hS q1.1 q1.2.1 q1.2.2 (hP q1 q2) a (by grind) 0 I (by grind) (by grind) (fun _ _ _ => rfl) (fun j => by rw [if_neg (by omega)]) (by rw [Nat.sub_self]; rfl)
  grind
theorem lp_check_75 (hS : m_S M K L R) (hR : mR M I) {b a k m : Int32} (hm : m ≤ 21) (hP : ∀ v, P (some (.int v)) (n, t, K, L, I, R)) : ∀ i : Int32, i ≤ 21 → 0 ≤ i → a_at (d + 1) (a_xm a_m260) 75 [some (a_rf M), some (.int b), some (.int a), some (.int k), some (.int m), some (.int i)] [] (n, t, K, L, I, R) P := by
  refine up_ind 21 (fun i hi ih => ?_)
  intro h0
  rw [q260_75]
  repeat' first
    | with_reducible apply And.intro
    | with_reducible assumption
    | with_reducible intro _
    | with_reducible apply ih
    | with_reducible apply hP
    | with_reducible apply ct_hadAt hS hR
    | simp only [q260_77, q260_79, q260_82, q260_83, q260_86, q260_88, q260_89, q260_90, q260_91, q260_92, q260_94, q260_95, q260_96, q260_99, q260_102, q260_104, q260_105, q260_108, q260_111, q260_113, m_0 hS, m_K hS, mR_row hS, mK_row hS, mL_row hS, as_nil, as_i, as_r, Nat.reduceAdd, Nat.reduceLeDiff, z_eq0, z_eq1, z_or, z_em, Classical.not_not, not_false_eq_true, not_true_eq_false, true_and, and_true, false_and, and_false, and_self, true_implies, false_implies, implies_true, Option.toList_some, Option.toList_none, List.cons_append, List.nil_append, Nat.add_eq_zero_iff, a_nl_i, a_nl_r, a_nl_n, true_or, or_true, eq_self, ok_4, ok_5, ok_6, ok_7, ok_9, ok_10, ok_20, ok_21, ok_24, ok_30, ok_48, ok_50, ok_60, ok_80, ok_120, ok_180, ok_192, ok_200, ok_900, ok_1000, ok_84000]
  all_goals grind [ui_ap]
theorem pe_check (hS : m_S M K L R) (hR : mR M I) {b a k : Int32} (h1 : ¬ ((0 ≤ b ∧ b ≤ I M 6 - 1) ∧ (0 ≤ a ∧ a ≤ 199) ∧ a + I M 79 - 1 ≤ 199) → P (some (.int (-1))) (n, t, K, L, (a_ui I (M + 23) 1 (I (M + 23) 1 + 1)), R)) (h2 : (0 ≤ b ∧ b ≤ I M 6 - 1) ∧ (0 ≤ a ∧ a ≤ 199) ∧ a + I M 79 - 1 ≤ 199 → k < 0 → P (some (.int (-4))) (n, t, K, L, (a_ui I (M + 23) 4 (I (M + 23) 4 + 1)), R)) (h3 : (0 ≤ b ∧ b ≤ I M 6 - 1) ∧ (0 ≤ a ∧ a ≤ 199) ∧ a + I M 79 - 1 ≤ 199 → ¬ k < 0 → I M 0 < k → P (some (.int (-6))) (n, t, K, L, (a_ui I (M + 23) 6 (I (M + 23) 6 + 1)), R)) (hP : (0 ≤ b ∧ b ≤ I M 6 - 1) ∧ (0 ≤ a ∧ a ≤ 199) ∧ a + I M 79 - 1 ≤ 199 → ¬ k < 0 → ¬ I M 0 < k → ∀ v, P (some (.int v)) (n, t, K, L, (a_ui I M 79 0), R)) : a_does (d + 3) 260 [a_rf M, .int b, .int a, .int k] (n, t, K, L, I, R) P := by
  have g1 := rg_rowMany hR
  rw [a_enter1 (M := a_m260) rfl (a_cat_rf (a_cat_int (a_cat_int (a_cat_int a_cat_nil)))) (show 4 ≤ 6 by decide)]
  show a_at _ (a_xm a_m260) 0 [some (a_rf M), some (.int b), some (.int a), some (.int k), none, none] [] _ _
  have hz : (0 ≤ b ∧ b ≤ I M 6 - 1) ∧ (0 ≤ a ∧ a ≤ 199) ∧ a + I M 79 - 1 ≤ 199 → ¬ k < 0 → ¬ I M 0 < k → a_at (d + 2) (a_xm a_m260) 75 [some (a_rf M), some (.int b), some (.int a), some (.int k), some (.int (I M 79)), some (.int 0)] [] (n, t, K, L, (a_ui I M 79 0), R) P := fun q1 q2 q3 => lp_check_75 hS (sR_rowMany hR (by decide)) g1.2 (hP q1 q2 q3) 0 (by decide) (by decide)
  simp only [q260_0, q260_1, q260_2, q260_5, q260_8, q260_9, q260_12, q260_15, q260_16, q260_17, q260_20, q260_21, q260_22, q260_23, q260_26, q260_29, q260_30, q260_31, q260_34, q260_35, q260_36, q260_39, q260_40, q260_42, q260_45, q260_46, q260_47, q260_48, q260_51, q260_54, q260_55, q260_57, q260_60, q260_61, q260_62, q260_65, q260_67, q260_68, q260_69, q260_72, q260_73, m_0 hS, m_K hS, sp_isBench hS, sp_isShift, sp_refuse_1 hS, sp_refuse_2 hS, sp_refuse_3 hS, sp_refuse_4 hS, sp_refuse_5 hS, sp_refuse_6 hS, as_nil, as_i, as_r, Nat.reduceAdd, Nat.reduceLeDiff, z_eq0, z_eq1, z_or, z_em, Classical.not_not, not_false_eq_true, not_true_eq_false, true_and, and_true, false_and, and_false, and_self, true_implies, false_implies, implies_true, Option.toList_some, Option.toList_none, List.cons_append, List.nil_append, Nat.add_eq_zero_iff, a_nl_i, a_nl_r, a_nl_n, true_or, or_true, eq_self, ok_4, ok_5, ok_6, ok_7, ok_9, ok_10, ok_20, ok_21, ok_24, ok_30, ok_48, ok_50, ok_60, ok_80, ok_120, ok_180, ok_192, ok_200, ok_900, ok_1000, ok_84000, ui_ap, ne_MM, ne_M0, ne_0M, Nat.reduceEqDiff, reduceIte, if_true, if_false]
  grind
end SE
end
section
/-! the search for the best -/
section SF
variable {d n t M c : Nat} {K L : Nat → Nat} {I I0 J J0 J1 J2 : Nat → Nat → Int32} {R : Nat → Nat → Nat} {P : Option Value → AH → Prop}
theorem rem_rng {x k : Int32} (h : 0 ≤ x) (hk : 0 < k) (hx : x ≤ 1000) (hk2 : k ≤ 1000) : 0 ≤ x - x / k * k ∧ x - x / k * k < k := by
  have h1 := ti_div h hk
  have h2 := Int32.le_iff_toInt_le.mp h
  have h3 := Int32.lt_iff_toInt_lt.mp hk
  have h4 := Int32.le_iff_toInt_le.mp hx
  have h5 := Int32.le_iff_toInt_le.mp hk2
  simp at h2 h3 h4 h5
  have e1 : 0 ≤ x.toInt / k.toInt := Int.ediv_nonneg h2 (by omega)
  have e2 : x.toInt / k.toInt * k.toInt ≤ x.toInt := Int.ediv_mul_le _ (by omega)
  have e3 : 0 ≤ x.toInt / k.toInt * k.toInt := Int.mul_nonneg e1 (by omega)
  have m1 : (x / k * k).toInt = x.toInt / k.toInt * k.toInt := by
    rw [Int32.toInt_mul, h1]
    generalize x.toInt / k.toInt * k.toInt = z at e2 e3
    simp [Int.bmod_def]
    omega
  have e4 : x.toInt - x.toInt / k.toInt * k.toInt = x.toInt % k.toInt := by rw [Int.emod_def, Int.mul_comm]
  have e5 := Int.emod_nonneg x.toInt (show k.toInt ≠ 0 by omega)
  have e6 := Int.emod_lt_of_pos x.toInt (show 0 < k.toInt by omega)
  have m2 : (x - x / k * k).toInt = x.toInt % k.toInt := by
    rw [Int32.toInt_sub, m1, e4]
    generalize x.toInt % k.toInt = z at e5 e6
    simp [Int.bmod_def]
    omega
  rw [Int32.le_iff_toInt_le, Int32.lt_iff_toInt_lt, m2]
  exact ⟨by simpa using e5, e6⟩
/-- one of the few -/
def fw (M : Nat) (I : Nat → Nat → Int32) (j : Nat) : Prop := ∃ k : Int32, 0 ≤ k ∧ k < I M 66 ∧ j = (I (M + 41) k.toNatClampNeg).toNatClampNeg
def bF (M : Nat) (I J : Nat → Nat → Int32) : Prop := ∀ x j, ¬ sC M x j → ¬ x = (M + 22) → ¬ x = (M + 42) → ¬ x = (M + 43) → ¬ x = (M + 44) → ¬ ((x = (M + 20) ∨ x = (M + 21)) ∧ fw M I j) → J x j = I x j
theorem bF_refl : bF M I I := fun _ _ _ _ _ _ _ _ => rfl
theorem bF_C (h : bF M I J) (hC : mC M J J2) : bF M I J2 := fun x j h1 h2 h3 h4 h5 h6 => (hC.2 x j h1).trans (h x j h1 h2 h3 h4 h5 h6)
theorem bF_S (h : bF M I J) (hC : mS M J J2) : bF M I J2 := fun x j h1 h2 h3 h4 h5 h6 => (hC.2 x j h1 h2).trans (h x j h1 h2 h3 h4 h5 h6)
theorem bF_ui (h : bF M I J) {x k : Nat} {v : Int32} (hx : x = (M + 42) ∨ x = (M + 43) ∨ x = (M + 44) ∨ ((x = (M + 20) ∨ x = (M + 21)) ∧ fw M I k)) : bF M I (a_ui J x k v) := fun y j h1 h2 h3 h4 h5 h6 => by
  rw [ui_ap, if_neg (fun q => by
    rcases hx with hx | hx | hx | hx
    · exact h3 (q.1.trans hx)
    · exact h4 (q.1.trans hx)
    · exact h5 (q.1.trans hx)
    · exact h6 (by rw [q.1, q.2]; exact hx))]
  exact h y j h1 h2 h3 h4 h5 h6
theorem bF_few (h : bF M I J) (j : Nat) : J (M + 41) j = I (M + 41) j := h _ _ (by unfold sC; omega) (by omega) (by omega) (by omega) (by omega) (by omega)
theorem bF_fewMany (h : bF M I J) : J M 66 = I M 66 := h _ _ (by unfold sC; omega) (by omega) (by omega) (by omega) (by omega) (by omega)
theorem bF_benches (h : bF M I J) : J M 6 = I M 6 := h _ _ (by unfold sC; omega) (by omega) (by omega) (by omega) (by omega) (by omega)
/-- how far the search is from its end -/
def mu (p : Int32) (w : Nat → Int32) (i : Int32) : Nat := (if 0 ≤ i then (p + 1 - w 0).toNatClampNeg * 16777216 else 0) + (if 1 ≤ i then (p + 1 - w 1).toNatClampNeg * 262144 else 0) + (if 2 ≤ i then (p + 1 - w 2).toNatClampNeg * 4096 else 0) + (if 3 ≤ i then (p + 1 - w 3).toNatClampNeg * 64 else 0) + (if 4 ≤ i then (p + 1 - w 4).toNatClampNeg else 0)
theorem i_cases {i : Int32} (h0 : 0 ≤ i) (h4 : i ≤ 4) : i = 0 ∨ i = 1 ∨ i = 2 ∨ i = 3 ∨ i = 4 := by grind
theorem mu_back {p i : Int32} {w w' : Nat → Int32} (h0 : 0 ≤ i) (h4 : i ≤ 4) (hp : 0 ≤ p ∧ p ≤ 48) (hw : -1 ≤ w i.toNatClampNeg ∧ w i.toNatClampNeg ≤ p) (hs : ∀ k : Nat, k < i.toNatClampNeg → w' k = w k) : mu p w' (i + (-1)) < mu p w i := by
  have hq : 0 < (p + 1 - w i.toNatClampNeg).toNatClampNeg := (show (0 : Int32).toNatClampNeg < _ from cl_lt (by decide) (by grind))
  rcases i_cases h0 h4 with h | h | h | h | h <;> subst h
  · have hv : 0 < (p + 1 - w 0).toNatClampNeg := hq
    rw [show (0 : Int32) + (-1) = (-1 : Int32) by decide]
    simp only [mu, eq_true (show  ((0 : Int32) ≤ (0 : Int32)) by decide), eq_false (show ¬ ((1 : Int32) ≤ (0 : Int32)) by decide), eq_false (show ¬ ((2 : Int32) ≤ (0 : Int32)) by decide), eq_false (show ¬ ((3 : Int32) ≤ (0 : Int32)) by decide), eq_false (show ¬ ((4 : Int32) ≤ (0 : Int32)) by decide), eq_false (show ¬ ((0 : Int32) ≤ (-1 : Int32)) by decide), eq_false (show ¬ ((1 : Int32) ≤ (-1 : Int32)) by decide), eq_false (show ¬ ((2 : Int32) ≤ (-1 : Int32)) by decide), eq_false (show ¬ ((3 : Int32) ≤ (-1 : Int32)) by decide), eq_false (show ¬ ((4 : Int32) ≤ (-1 : Int32)) by decide), if_true, if_false]
    omega
  · have e0 := hs 0 (by decide)
    have hv : 0 < (p + 1 - w 1).toNatClampNeg := hq
    rw [show (1 : Int32) + (-1) = (0 : Int32) by decide]
    simp only [mu, e0, eq_true (show  ((0 : Int32) ≤ (1 : Int32)) by decide), eq_true (show  ((1 : Int32) ≤ (1 : Int32)) by decide), eq_false (show ¬ ((2 : Int32) ≤ (1 : Int32)) by decide), eq_false (show ¬ ((3 : Int32) ≤ (1 : Int32)) by decide), eq_false (show ¬ ((4 : Int32) ≤ (1 : Int32)) by decide), eq_true (show  ((0 : Int32) ≤ (0 : Int32)) by decide), eq_false (show ¬ ((1 : Int32) ≤ (0 : Int32)) by decide), eq_false (show ¬ ((2 : Int32) ≤ (0 : Int32)) by decide), eq_false (show ¬ ((3 : Int32) ≤ (0 : Int32)) by decide), eq_false (show ¬ ((4 : Int32) ≤ (0 : Int32)) by decide), if_true, if_false]
    omega
  · have e0 := hs 0 (by decide)
    have e1 := hs 1 (by decide)
    have hv : 0 < (p + 1 - w 2).toNatClampNeg := hq
    rw [show (2 : Int32) + (-1) = (1 : Int32) by decide]
    simp only [mu, e0, e1, eq_true (show  ((0 : Int32) ≤ (2 : Int32)) by decide), eq_true (show  ((1 : Int32) ≤ (2 : Int32)) by decide), eq_true (show  ((2 : Int32) ≤ (2 : Int32)) by decide), eq_false (show ¬ ((3 : Int32) ≤ (2 : Int32)) by decide), eq_false (show ¬ ((4 : Int32) ≤ (2 : Int32)) by decide), eq_true (show  ((0 : Int32) ≤ (1 : Int32)) by decide), eq_true (show  ((1 : Int32) ≤ (1 : Int32)) by decide), eq_false (show ¬ ((2 : Int32) ≤ (1 : Int32)) by decide), eq_false (show ¬ ((3 : Int32) ≤ (1 : Int32)) by decide), eq_false (show ¬ ((4 : Int32) ≤ (1 : Int32)) by decide), if_true, if_false]
    omega
  · have e0 := hs 0 (by decide)
    have e1 := hs 1 (by decide)
    have e2 := hs 2 (by decide)
    have hv : 0 < (p + 1 - w 3).toNatClampNeg := hq
    rw [show (3 : Int32) + (-1) = (2 : Int32) by decide]
    simp only [mu, e0, e1, e2, eq_true (show  ((0 : Int32) ≤ (3 : Int32)) by decide), eq_true (show  ((1 : Int32) ≤ (3 : Int32)) by decide), eq_true (show  ((2 : Int32) ≤ (3 : Int32)) by decide), eq_true (show  ((3 : Int32) ≤ (3 : Int32)) by decide), eq_false (show ¬ ((4 : Int32) ≤ (3 : Int32)) by decide), eq_true (show  ((0 : Int32) ≤ (2 : Int32)) by decide), eq_true (show  ((1 : Int32) ≤ (2 : Int32)) by decide), eq_true (show  ((2 : Int32) ≤ (2 : Int32)) by decide), eq_false (show ¬ ((3 : Int32) ≤ (2 : Int32)) by decide), eq_false (show ¬ ((4 : Int32) ≤ (2 : Int32)) by decide), if_true, if_false]
    omega
  · have e0 := hs 0 (by decide)
    have e1 := hs 1 (by decide)
    have e2 := hs 2 (by decide)
    have e3 := hs 3 (by decide)
    have hv : 0 < (p + 1 - w 4).toNatClampNeg := hq
    rw [show (4 : Int32) + (-1) = (3 : Int32) by decide]
    simp only [mu, e0, e1, e2, e3, eq_true (show  ((0 : Int32) ≤ (4 : Int32)) by decide), eq_true (show  ((1 : Int32) ≤ (4 : Int32)) by decide), eq_true (show  ((2 : Int32) ≤ (4 : Int32)) by decide), eq_true (show  ((3 : Int32) ≤ (4 : Int32)) by decide), eq_true (show  ((4 : Int32) ≤ (4 : Int32)) by decide), eq_true (show  ((0 : Int32) ≤ (3 : Int32)) by decide), eq_true (show  ((1 : Int32) ≤ (3 : Int32)) by decide), eq_true (show  ((2 : Int32) ≤ (3 : Int32)) by decide), eq_true (show  ((3 : Int32) ≤ (3 : Int32)) by decide), eq_false (show ¬ ((4 : Int32) ≤ (3 : Int32)) by decide), if_true, if_false]
    omega
theorem mu_on {p i : Int32} {w w' : Nat → Int32} (h0 : 0 ≤ i) (h4 : i < 4) (hp : 0 ≤ p ∧ p ≤ 48) (hw : -1 ≤ w i.toNatClampNeg ∧ w i.toNatClampNeg < w' i.toNatClampNeg ∧ w' i.toNatClampNeg ≤ p) (hs : ∀ k : Nat, k < i.toNatClampNeg → w' k = w k) (hl : w' (i + 1).toNatClampNeg = -1) : mu p w' (i + 1) < mu p w i := by
  have hq : (p + 1 - w' i.toNatClampNeg).toNatClampNeg < (p + 1 - w i.toNatClampNeg).toNatClampNeg := cl_lt (by grind) (by grind)
  have hm : (p + 1 - w' (i + 1).toNatClampNeg).toNatClampNeg ≤ 50 := by
    rw [hl]
    have := cl_lt (i := p + 1 - -1) (j := 51) (by grind) (by grind)
    have h51 : (51 : Int32).toNatClampNeg = 51 := by decide
    omega
  rcases i_cases h0 (by grind) with h | h | h | h | h <;> subst h
  · have a1 : (p + 1 - w' 0).toNatClampNeg < (p + 1 - w 0).toNatClampNeg := hq
    have a2 : (p + 1 - w' 1).toNatClampNeg ≤ 50 := hm
    simp [mu, show (0 : Int32) + 1 = 1 by decide]
    omega
  · have e0 := hs 0 (by decide)
    have a1 : (p + 1 - w' 1).toNatClampNeg < (p + 1 - w 1).toNatClampNeg := hq
    have a2 : (p + 1 - w' 2).toNatClampNeg ≤ 50 := hm
    simp [mu, e0, show (1 : Int32) + 1 = 2 by decide]
    omega
  · have e0 := hs 0 (by decide)
    have e1 := hs 1 (by decide)
    have a1 : (p + 1 - w' 2).toNatClampNeg < (p + 1 - w 2).toNatClampNeg := hq
    have a2 : (p + 1 - w' 3).toNatClampNeg ≤ 50 := hm
    simp [mu, e0, e1, show (2 : Int32) + 1 = 3 by decide]
    omega
  · have e0 := hs 0 (by decide)
    have e1 := hs 1 (by decide)
    have e2 := hs 2 (by decide)
    have a1 : (p + 1 - w' 3).toNatClampNeg < (p + 1 - w 3).toNatClampNeg := hq
    have a2 : (p + 1 - w' 4).toNatClampNeg ≤ 50 := hm
    simp [mu, e0, e1, e2, show (3 : Int32) + 1 = 4 by decide]
    omega
  · exact absurd h4 (by decide)
/-- the search at level i -/
def bI (M : Nat) (I J : Nat → Nat → Int32) (pl i : Int32) : Prop := mR M J ∧ bF M I J ∧ (∀ k : Int32, 0 ≤ k → k < I M 66 → 0 ≤ J (M + 20) (I (M + 41) k.toNatClampNeg).toNatClampNeg → k ≤ i ∧ 0 ≤ J (M + 42) k.toNatClampNeg ∧ J (M + 42) k.toNatClampNeg < pl) ∧ (∀ k : Int32, 0 ≤ k → k ≤ i → -1 ≤ J (M + 42) k.toNatClampNeg ∧ J (M + 42) k.toNatClampNeg ≤ pl) ∧ (∀ k : Int32, 0 ≤ k → k < i → 0 ≤ J (M + 42) k.toNatClampNeg)
theorem lp_findBest_69 (hS : m_S M K L R) {f e pl b i : Int32} {p u v : Option Value} (hpl : 0 ≤ pl ∧ pl ≤ 48) (hfm : 0 ≤ I M 66 ∧ I M 66 ≤ 4) (hi : i = I M 66) (hN : ∀ J k, bI M I J pl i → J (M + 42) = J0 (M + 42) → a_at d (a_xm a_m243) 98 [some (a_rf M), some (.int f), some (.int e), some (.int pl), some (.int b), some (.int i), some (.int k), p, u, v] [] (n, t, K, L, J, R) P) : ∀ k : Int32, k ≤ 4 → ∀ J, 0 ≤ k → bI M I J pl i → J (M + 42) = J0 (M + 42) → a_at d (a_xm a_m243) 69 [some (a_rf M), some (.int f), some (.int e), some (.int pl), some (.int b), some (.int i), some (.int k), p, u, v] [] (n, t, K, L, J, R) P := by
  refine up_ind 4 (fun k hk ih => ?_)
  intro J h0 hb hw
  obtain ⟨b1, b2, b3, b4, b5⟩ := id hb
  have e1 := bF_fewMany b2
  rw [q243_69]
  simp only [q243_71, q243_72, q243_75, q243_78, q243_79, q243_82, q243_84, q243_85, q243_88, q243_90, q243_91, q243_92, q243_95, m_0 hS, m_K hS, mR_bestWay hS, mK_bestWay hS, mL_bestWay hS, mR_way hS, mK_way hS, mL_way hS, as_nil, as_i, as_r, Nat.reduceAdd, Nat.reduceLeDiff, z_eq0, z_eq1, z_or, z_em, Classical.not_not, not_false_eq_true, not_true_eq_false, true_and, and_true, false_and, and_false, and_self, true_implies, false_implies, implies_true, Option.toList_some, Option.toList_none, List.cons_append, List.nil_append, Nat.add_eq_zero_iff, a_nl_i, a_nl_r, a_nl_n, true_or, or_true, eq_self, ok_4, ok_5, ok_6, ok_7, ok_9, ok_10, ok_20, ok_21, ok_24, ok_30, ok_48, ok_50, ok_60, ok_80, ok_120, ok_180, ok_192, ok_200, ok_900, ok_1000, ok_84000]
  refine ⟨fun h => hN J k hb hw, fun h => ?_⟩
  have q1 : k < i := by grind
  refine ⟨by grind, by grind, ?_⟩
  have w1 := b4 k h0 (by grind)
  have w2 := b5 k h0 q1
  refine ih (by grind) _ (by grind) ⟨sR_bestWay b1 (by grind), bF_ui b2 (by omega), ?_, ?_, ?_⟩ ?_
  · intro k2 p1 p2 p3
    simp [ui_ap] at p3 ⊢
    exact b3 k2 p1 p2 p3
  · intro k2 p1 p2
    simp [ui_ap]
    exact b4 k2 p1 p2
  · intro k2 p1 p2
    simp [ui_ap]
    exact b5 k2 p1 p2
  · rw [← hw]; funext j; simp [ui_ap]
end SF
end

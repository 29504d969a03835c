/-! what holds, what fits -/
section RV
variable {d n t M : Nat} {K L : Nat → Nat} {I I0 : Nat → Nat → Int32} {R : Nat → Nat → Nat} {P : Option Value → AH → Prop}
theorem ct_readRule (hS : m_S M K L R) (hC : mC M I0 I) (hat : 0 ≤ I M 49 ∧ I M 49 ≤ 52) (he : I M 48 ≤ 50) (hba : 0 ≤ I M 47 ∧ I M 47 ≤ 950) (hP : ∀ v J, mC M I0 J → J M 48 = I M 48 → (v = 0 ∨ v = 1) → P (some (.int v)) (n, t, K, L, J, R)) : a_does (d + 5) 202 [a_rf M] (n, t, K, L, I, R) P := by
  rw [a_enter1 (M := a_m202) rfl (a_cat_rf a_cat_nil) (show 1 ≤ 3 by decide)]
  show a_at _ (a_xm a_m202) 0 [some (a_rf M), none, none] [] _ _
  simp only [q202_0, q202_1, q202_2, q202_5, q202_6, q202_7, q202_10, q202_11, q202_12, q202_15, q202_16, m_0 hS, m_K hS, as_nil, as_i, as_r, Nat.reduceAdd, Nat.reduceLeDiff, z_eq0, z_eq1, z_or, z_em, Classical.not_not, not_false_eq_true, not_true_eq_false, true_and, and_true, false_and, and_false, and_self, true_implies, false_implies, implies_true, Option.toList_some, Option.toList_none, List.cons_append, List.nil_append, Nat.add_eq_zero_iff, a_nl_i, a_nl_r, a_nl_n, true_or, or_true, eq_self, ok_4, ok_5, ok_6, ok_7, ok_9, ok_10, ok_20, ok_21, ok_24, ok_30, ok_48, ok_50, ok_60, ok_80, ok_120, ok_180, ok_192, ok_200, ok_900, ok_1000, ok_84000]
  have hz1 : (1 : Int32) - 1 = 0 := by decide
  have hf : (a_ui (a_ui (a_ui I M 51 0) M 54 0) M 56 0) (M + 34) = I (M + 34) := by funext j; simp [ui_ap]
  have hb : bci (I (M + 34)) 0 = 0 := rfl
  refine lp_readRule_17 hS (e := I M 48) he hP _ hat.2 _ 1 _ (by simp [ui_ap]) (Or.inr rfl) (rW_i (sC_signMany (sC_valueMany (sC_deep hC))) ?_ ?_ ?_ ?_ (by simp [ui_ap, hf, hb])) <;> grind [ui_ap]
theorem ct_open (hS : m_S M K L R) (hC : mC M I0 I) {a : Int32} (ha : 0 ≤ a ∧ a < 20) (hP : ∀ J, mC M I0 J → J M 49 = 2 → J M 48 ≤ 50 → (0 ≤ J M 47 ∧ J M 47 ≤ 950) → P none (n, t, K, L, J, R)) : a_does (d + 1) 195 [a_rf M, .int a] (n, t, K, L, I, R) P := by
  have g1 := rg_writtenMany hC.1
  rw [a_enter1 (M := a_m195) rfl (a_cat_rf (a_cat_int a_cat_nil)) (show 2 ≤ 2 by decide)]
  show a_at _ (a_xm a_m195) 0 [some (a_rf M), some (.int a)] [] _ _
  repeat' first
    | with_reducible apply And.intro
    | with_reducible assumption
    | with_reducible intro _
    | with_reducible apply hP
    | with_reducible apply sC_facts
    | with_reducible apply sC_values
    | with_reducible apply sC_signs
    | with_reducible apply sC_isTold
    | with_reducible apply sC_base
    | with_reducible apply sC_end
    | with_reducible apply sC_at
    | with_reducible apply sC_isBad
    | with_reducible apply sC_deep
    | with_reducible apply sC_valueMany
    | with_reducible apply sC_signMany
    | simp only [q195_0, q195_1, q195_2, q195_5, q195_6, q195_8, q195_9, q195_10, q195_13, q195_14, q195_15, q195_18, q195_19, q195_20, q195_23, q195_24, q195_25, q195_28, q195_29, q195_30, q195_33, m_0 hS, m_K hS, mR_writtenMany hS, mK_writtenMany hS, mL_writtenMany hS, as_nil, as_i, as_r, Nat.reduceAdd, Nat.reduceLeDiff, z_eq0, z_eq1, z_or, z_em, Classical.not_not, not_false_eq_true, not_true_eq_false, true_and, and_true, false_and, and_false, and_self, true_implies, false_implies, implies_true, Option.toList_some, Option.toList_none, List.cons_append, List.nil_append, Nat.add_eq_zero_iff, a_nl_i, a_nl_r, a_nl_n, true_or, or_true, eq_self, ok_4, ok_5, ok_6, ok_7, ok_9, ok_10, ok_20, ok_21, ok_24, ok_30, ok_48, ok_50, ok_60, ok_80, ok_120, ok_180, ok_192, ok_200, ok_900, ok_1000, ok_84000, ui_ap, ne_MM, ne_M0, ne_0M, Nat.reduceEqDiff, reduceIte, if_true, if_false]
  all_goals grind [ui_ap]
theorem ct_doesHold (hS : m_S M K L R) (hC : mC M I0 I) {a : Int32} (ha : 0 ≤ a ∧ a < 20) (hP : ∀ v J, mC M I0 J → P (some (.int v)) (n, t, K, L, J, R)) : a_does (d + 6) 211 [a_rf M, .int a] (n, t, K, L, I, R) P := by
  rw [a_enter1 (M := a_m211) rfl (a_cat_rf (a_cat_int a_cat_nil)) (show 2 ≤ 2 by decide)]
  show a_at _ (a_xm a_m211) 0 [some (a_rf M), some (.int a)] [] _ _
  repeat' first
    | with_reducible apply And.intro
    | with_reducible assumption
    | with_reducible intro _
    | with_reducible apply hP
    | with_reducible apply ct_open hS hC ha
    | with_reducible apply ct_readRule hS (I0 := I0)
    | simp only [q211_0, q211_1, q211_2, q211_5, q211_6, q211_9, m_0 hS, m_K hS, as_nil, as_i, as_r, Nat.reduceAdd, Nat.reduceLeDiff, z_eq0, z_eq1, z_or, z_em, Classical.not_not, not_false_eq_true, not_true_eq_false, true_and, and_true, false_and, and_false, and_self, true_implies, false_implies, implies_true, Option.toList_some, Option.toList_none, List.cons_append, List.nil_append, Nat.add_eq_zero_iff, a_nl_i, a_nl_r, a_nl_n, true_or, or_true, eq_self, ok_4, ok_5, ok_6, ok_7, ok_9, ok_10, ok_20, ok_21, ok_24, ok_30, ok_48, ok_50, ok_60, ok_80, ok_120, ok_180, ok_192, ok_200, ok_900, ok_1000, ok_84000]
  all_goals grind [ui_ap]
theorem ct_findFacts (hS : m_S M K L R) (hC : mC M I0 I) {a b s l : Int32} (ha : 0 ≤ a ∧ a < 30) (hP : ∀ J, mC M I0 J → P none (n, t, K, L, J, R)) : a_does (d + 3) 192 [a_rf M, .int a, .int b, .int s, .int l] (n, t, K, L, I, R) P := by
  have hR := hC.1
  rw [a_enter1 (M := a_m192) rfl (a_cat_rf (a_cat_int (a_cat_int (a_cat_int (a_cat_int a_cat_nil))))) (show 5 ≤ 5 by decide)]
  show a_at _ (a_xm a_m192) 0 [some (a_rf M), some (.int a), some (.int b), some (.int s), some (.int l)] [] _ _
  repeat' first
    | with_reducible apply And.intro
    | with_reducible assumption
    | with_reducible intro _
    | with_reducible apply hP
    | with_reducible apply ct_markFor hS
    | with_reducible apply sR_facts
    | with_reducible apply sC_facts
    | with_reducible apply sC_values
    | with_reducible apply sC_signs
    | with_reducible apply sC_isTold
    | with_reducible apply sC_base
    | with_reducible apply sC_end
    | with_reducible apply sC_at
    | with_reducible apply sC_isBad
    | with_reducible apply sC_deep
    | with_reducible apply sC_valueMany
    | with_reducible apply sC_signMany
    | simp only [q192_0, q192_1, q192_4, q192_5, q192_6, q192_9, q192_10, q192_11, q192_12, q192_13, q192_16, q192_17, q192_18, q192_21, q192_22, q192_23, q192_24, q192_25, q192_28, q192_29, q192_30, q192_33, q192_34, q192_35, q192_36, q192_37, q192_40, q192_41, q192_42, q192_45, q192_46, q192_47, q192_48, q192_49, q192_52, q192_53, q192_54, q192_57, q192_58, q192_59, q192_60, q192_61, q192_64, q192_65, q192_66, q192_67, q192_70, q192_73, q192_74, q192_77, q192_78, q192_79, q192_82, q192_83, q192_84, q192_87, q192_89, q192_90, q192_91, q192_92, q192_95, q192_97, q192_98, q192_99, q192_100, q192_103, q192_105, q192_107, q192_108, m_0 hS, m_K hS, mR_facts hS, mK_facts hS, mL_facts hS, mR_kind hS, mK_kind hS, mL_kind hS, mR_group hS, mK_group hS, mL_group hS, mR_land hS, mK_land hS, mL_land hS, mR_length hS, mK_length hS, mL_length hS, mR_danger hS, mK_danger hS, mL_danger hS, as_nil, as_i, as_r, Nat.reduceAdd, Nat.reduceLeDiff, z_eq0, z_eq1, z_or, z_em, Classical.not_not, not_false_eq_true, not_true_eq_false, true_and, and_true, false_and, and_false, and_self, true_implies, false_implies, implies_true, Option.toList_some, Option.toList_none, List.cons_append, List.nil_append, Nat.add_eq_zero_iff, a_nl_i, a_nl_r, a_nl_n, true_or, or_true, eq_self, ok_4, ok_5, ok_6, ok_7, ok_9, ok_10, ok_20, ok_21, ok_24, ok_30, ok_48, ok_50, ok_60, ok_80, ok_120, ok_180, ok_192, ok_200, ok_900, ok_1000, ok_84000]
  all_goals grind [ui_ap]
theorem lp_holding_12 (hS : m_S M K L R) {g a b s : Int32} (hP : ∀ v J, mC M I0 J → P (some (.int v)) (n, t, K, L, J, R)) : ∀ i : Int32, i ≤ 20 → ∀ J, 0 ≤ i → mC M I0 J → a_at (d + 6) (a_xm a_m210) 12 [some (a_rf M), some (.int g), some (.int a), some (.int b), some (.int s), some (.int i)] [] (n, t, K, L, J, R) P := by
  refine up_ind 20 (fun i hi ih => ?_)
  intro J h0 hC
  have g1 := rg_texts hC.1
  rw [q210_12]
  repeat' first
    | with_reducible apply And.intro
    | with_reducible assumption
    | with_reducible intro _
    | with_reducible apply ih
    | with_reducible apply hP
    | with_reducible apply ct_doesHold hS (I0 := I0)
    | simp only [q210_0, q210_1, q210_2, q210_3, q210_5, q210_6, q210_9, q210_10, q210_14, q210_15, q210_18, q210_21, q210_22, q210_24, q210_25, q210_27, q210_30, q210_33, q210_34, q210_36, q210_39, q210_42, q210_44, q210_45, q210_48, q210_51, q210_53, m_0 hS, m_K hS, sp_isInForce hS, as_nil, as_i, as_r, Nat.reduceAdd, Nat.reduceLeDiff, z_eq0, z_eq1, z_or, z_em, Classical.not_not, not_false_eq_true, not_true_eq_false, true_and, and_true, false_and, and_false, and_self, true_implies, false_implies, implies_true, Option.toList_some, Option.toList_none, List.cons_append, List.nil_append, Nat.add_eq_zero_iff, a_nl_i, a_nl_r, a_nl_n, true_or, or_true, eq_self, ok_4, ok_5, ok_6, ok_7, ok_9, ok_10, ok_20, ok_21, ok_24, ok_30, ok_48, ok_50, ok_60, ok_80, ok_120, ok_180, ok_192, ok_200, ok_900, ok_1000, ok_84000]
  all_goals grind [ui_ap]
theorem ct_holding (hS : m_S M K L R) (hC : mC M I0 I) {g a b s : Int32} (ha : 0 ≤ a ∧ a < 30) (hP : ∀ v J, mC M I0 J → P (some (.int v)) (n, t, K, L, J, R)) : a_does (d + 7) 210 [a_rf M, .int g, .int a, .int b, .int s] (n, t, K, L, I, R) P := by
  rw [a_enter1 (M := a_m210) rfl (a_cat_rf (a_cat_int (a_cat_int (a_cat_int (a_cat_int a_cat_nil))))) (show 5 ≤ 6 by decide)]
  show a_at _ (a_xm a_m210) 0 [some (a_rf M), some (.int g), some (.int a), some (.int b), some (.int s), none] [] _ _
  repeat' first
    | with_reducible apply And.intro
    | with_reducible assumption
    | with_reducible intro _
    | with_reducible apply hP
    | with_reducible apply ct_findFacts hS hC
    | with_reducible apply lp_holding_12 hS hP
    | simp only [q210_0, q210_1, q210_2, q210_3, q210_5, q210_6, q210_9, q210_10, q210_14, q210_15, q210_18, q210_21, q210_22, q210_24, q210_25, q210_27, q210_30, q210_33, q210_34, q210_36, q210_39, q210_42, q210_44, q210_45, q210_48, q210_51, q210_53, m_0 hS, m_K hS, sp_isInForce hS, as_nil, as_i, as_r, Nat.reduceAdd, Nat.reduceLeDiff, z_eq0, z_eq1, z_or, z_em, Classical.not_not, not_false_eq_true, not_true_eq_false, true_and, and_true, false_and, and_false, and_self, true_implies, false_implies, implies_true, Option.toList_some, Option.toList_none, List.cons_append, List.nil_append, Nat.add_eq_zero_iff, a_nl_i, a_nl_r, a_nl_n, true_or, or_true, eq_self, ok_4, ok_5, ok_6, ok_7, ok_9, ok_10, ok_20, ok_21, ok_24, ok_30, ok_48, ok_50, ok_60, ok_80, ok_120, ok_180, ok_192, ok_200, ok_900, ok_1000, ok_84000]
  all_goals grind [ui_ap]
theorem ct_isWatched (hS : m_S M K L R) (hC : mC M I0 I) {a b s : Int32} (ha : 0 ≤ a ∧ a < 30) (hP : ∀ v J, mC M I0 J → P (some (.int v)) (n, t, K, L, J, R)) : a_does (d + 8) 227 [a_rf M, .int a, .int b, .int s] (n, t, K, L, I, R) P := by
  rw [a_enter1 (M := a_m227) rfl (a_cat_rf (a_cat_int (a_cat_int (a_cat_int a_cat_nil)))) (show 4 ≤ 4 by decide)]
  show a_at _ (a_xm a_m227) 0 [some (a_rf M), some (.int a), some (.int b), some (.int s)] [] _ _
  repeat' first
    | with_reducible apply And.intro
    | with_reducible assumption
    | with_reducible intro _
    | with_reducible apply hP
    | with_reducible apply ct_holding hS hC ha
    | simp only [q227_0, q227_1, q227_3, q227_4, q227_5, q227_6, q227_9, q227_12, q227_13, q227_16, q227_17, m_0 hS, m_K hS, as_nil, as_i, as_r, Nat.reduceAdd, Nat.reduceLeDiff, z_eq0, z_eq1, z_or, z_em, Classical.not_not, not_false_eq_true, not_true_eq_false, true_and, and_true, false_and, and_false, and_self, true_implies, false_implies, implies_true, Option.toList_some, Option.toList_none, List.cons_append, List.nil_append, Nat.add_eq_zero_iff, a_nl_i, a_nl_r, a_nl_n, true_or, or_true, eq_self, ok_4, ok_5, ok_6, ok_7, ok_9, ok_10, ok_20, ok_21, ok_24, ok_30, ok_48, ok_50, ok_60, ok_80, ok_120, ok_180, ok_192, ok_200, ok_900, ok_1000, ok_84000]
  all_goals grind [ui_ap]
theorem lp_quarrel_26 (hS : m_S M K L R) {a b s o i : Int32} (hi : 0 ≤ i ∧ i < 20) (hP : ∀ v J, mC M I0 J → P (some (.int v)) (n, t, K, L, J, R)) (hN : ∀ J u, mC M I0 J → a_at (d + 6) (a_xm a_m212) 11 [some (a_rf M), some (.int a), some (.int b), some (.int s), some (.int o), some (.int (i + 1)), some (.int u)] [] (n, t, K, L, J, R) P) : ∀ u : Int32, u ≤ 20 → ∀ J, 0 ≤ u → mC M I0 J → a_at (d + 6) (a_xm a_m212) 26 [some (a_rf M), some (.int a), some (.int b), some (.int s), some (.int o), some (.int i), some (.int u)] [] (n, t, K, L, J, R) P := by
  refine up_ind 20 (fun u hu ih => ?_)
  intro J h0 hC
  have g1 := rg_texts hC.1
  rw [q212_26]
  repeat' first
    | with_reducible apply And.intro
    | with_reducible assumption
    | with_reducible intro _
    | with_reducible apply ih
    | with_reducible apply hP
    | with_reducible apply hN
    | with_reducible apply ct_doesHold hS (I0 := I0)
    | simp only [q212_0, q212_1, q212_2, q212_3, q212_4, q212_5, q212_8, q212_9, q212_13, q212_14, q212_17, q212_20, q212_22, q212_23, q212_24, q212_28, q212_29, q212_32, q212_35, q212_36, q212_38, q212_40, q212_41, q212_44, q212_47, q212_48, q212_50, q212_52, q212_53, q212_56, q212_59, q212_60, q212_63, q212_65, q212_66, q212_67, q212_70, q212_72, q212_73, q212_76, q212_77, q212_79, q212_82, q212_83, q212_85, q212_88, q212_91, q212_93, q212_96, q212_98, q212_101, q212_103, q212_104, q212_107, q212_110, q212_113, q212_116, q212_118, m_0 hS, m_K hS, mR_textFrom hS, mK_textFrom hS, mL_textFrom hS, sp_isInForce hS, as_nil, as_i, as_r, Nat.reduceAdd, Nat.reduceLeDiff, z_eq0, z_eq1, z_or, z_em, Classical.not_not, not_false_eq_true, not_true_eq_false, true_and, and_true, false_and, and_false, and_self, true_implies, false_implies, implies_true, Option.toList_some, Option.toList_none, List.cons_append, List.nil_append, Nat.add_eq_zero_iff, a_nl_i, a_nl_r, a_nl_n, true_or, or_true, eq_self, ok_4, ok_5, ok_6, ok_7, ok_9, ok_10, ok_20, ok_21, ok_24, ok_30, ok_48, ok_50, ok_60, ok_80, ok_120, ok_180, ok_192, ok_200, ok_900, ok_1000, ok_84000]
  all_goals grind [ui_ap]
theorem lp_quarrel_11 (hS : m_S M K L R) {a b s o : Int32} (hP : ∀ v J, mC M I0 J → P (some (.int v)) (n, t, K, L, J, R)) : ∀ i : Int32, i ≤ 20 → ∀ J u, 0 ≤ i → mC M I0 J → a_at (d + 6) (a_xm a_m212) 11 [some (a_rf M), some (.int a), some (.int b), some (.int s), some (.int o), some (.int i), u] [] (n, t, K, L, J, R) P := by
  refine up_ind 20 (fun i hi ih => ?_)
  intro J u h0 hC
  have g1 := rg_texts hC.1
  rw [q212_11]
  repeat' first
    | with_reducible apply And.intro
    | with_reducible assumption
    | with_reducible intro _
    | with_reducible apply ih
    | with_reducible apply hP
    | with_reducible apply lp_quarrel_26 hS (I0 := I0)
    | simp only [q212_0, q212_1, q212_2, q212_3, q212_4, q212_5, q212_8, q212_9, q212_13, q212_14, q212_17, q212_20, q212_22, q212_23, q212_24, q212_28, q212_29, q212_32, q212_35, q212_36, q212_38, q212_40, q212_41, q212_44, q212_47, q212_48, q212_50, q212_52, q212_53, q212_56, q212_59, q212_60, q212_63, q212_65, q212_66, q212_67, q212_70, q212_72, q212_73, q212_76, q212_77, q212_79, q212_82, q212_83, q212_85, q212_88, q212_91, q212_93, q212_96, q212_98, q212_101, q212_103, q212_104, q212_107, q212_110, q212_113, q212_116, q212_118, m_0 hS, m_K hS, mR_textFrom hS, mK_textFrom hS, mL_textFrom hS, sp_isInForce hS, as_nil, as_i, as_r, Nat.reduceAdd, Nat.reduceLeDiff, z_eq0, z_eq1, z_or, z_em, Classical.not_not, not_false_eq_true, not_true_eq_false, true_and, and_true, false_and, and_false, and_self, true_implies, false_implies, implies_true, Option.toList_some, Option.toList_none, List.cons_append, List.nil_append, Nat.add_eq_zero_iff, a_nl_i, a_nl_r, a_nl_n, true_or, or_true, eq_self, ok_4, ok_5, ok_6, ok_7, ok_9, ok_10, ok_20, ok_21, ok_24, ok_30, ok_48, ok_50, ok_60, ok_80, ok_120, ok_180, ok_192, ok_200, ok_900, ok_1000, ok_84000]
  all_goals grind [ui_ap]
theorem ct_quarrel (hS : m_S M K L R) (hC : mC M I0 I) {a b s o : Int32} (ha : 0 ≤ a ∧ a < 30) (hP : ∀ v J, mC M I0 J → P (some (.int v)) (n, t, K, L, J, R)) : a_does (d + 7) 212 [a_rf M, .int a, .int b, .int s, .int o] (n, t, K, L, I, R) P := by
  rw [a_enter1 (M := a_m212) rfl (a_cat_rf (a_cat_int (a_cat_int (a_cat_int (a_cat_int a_cat_nil))))) (show 5 ≤ 7 by decide)]
  show a_at _ (a_xm a_m212) 0 [some (a_rf M), some (.int a), some (.int b), some (.int s), some (.int o), none, none] [] _ _
  repeat' first
    | with_reducible apply And.intro
    | with_reducible assumption
    | with_reducible intro _
    | with_reducible apply hP
    | with_reducible apply ct_findFacts hS hC
    | with_reducible apply lp_quarrel_11 hS hP
    | simp only [q212_0, q212_1, q212_2, q212_3, q212_4, q212_5, q212_8, q212_9, q212_13, q212_14, q212_17, q212_20, q212_22, q212_23, q212_24, q212_28, q212_29, q212_32, q212_35, q212_36, q212_38, q212_40, q212_41, q212_44, q212_47, q212_48, q212_50, q212_52, q212_53, q212_56, q212_59, q212_60, q212_63, q212_65, q212_66, q212_67, q212_70, q212_72, q212_73, q212_76, q212_77, q212_79, q212_82, q212_83, q212_85, q212_88, q212_91, q212_93, q212_96, q212_98, q212_101, q212_103, q212_104, q212_107, q212_110, q212_113, q212_116, q212_118, m_0 hS, m_K hS, mR_textFrom hS, mK_textFrom hS, mL_textFrom hS, sp_isInForce hS, as_nil, as_i, as_r, Nat.reduceAdd, Nat.reduceLeDiff, z_eq0, z_eq1, z_or, z_em, Classical.not_not, not_false_eq_true, not_true_eq_false, true_and, and_true, false_and, and_false, and_self, true_implies, false_implies, implies_true, Option.toList_some, Option.toList_none, List.cons_append, List.nil_append, Nat.add_eq_zero_iff, a_nl_i, a_nl_r, a_nl_n, true_or, or_true, eq_self, ok_4, ok_5, ok_6, ok_7, ok_9, ok_10, ok_20, ok_21, ok_24, ok_30, ok_48, ok_50, ok_60, ok_80, ok_120, ok_180, ok_192, ok_200, ok_900, ok_1000, ok_84000]
  all_goals grind [ui_ap]
theorem ct_readSumC (hS : m_S M K L R) (hC : mC M I0 I) (hat : 0 ≤ I M 49 ∧ I M 49 ≤ 52) (he : I M 48 ≤ 50) (hba : 0 ≤ I M 47 ∧ I M 47 ≤ 950) (hP : ∀ v J, mC M I0 J → J M 48 = I M 48 → P (some (.int v)) (n, t, K, L, J, R)) : a_does (d + 3) 196 [a_rf M] (n, t, K, L, I, R) P :=
  ct_readSum hS (I0 := I) ⟨hat, he, hba⟩ (rT_refl hC.1 ⟨hat, he, hba⟩) (fun v J h _ => hP v J (mC_T hC h) (rT_end h))
theorem lp_owedOf_80 (hS : m_S M K L R) (hC : mC M I0 I) {a l b : Int32} {u : Option Value} (ha : 0 ≤ a ∧ a < 30) (hb : b < 20) (hl : 0 ≤ l ∧ l ≤ 32) (hP : ∀ v J, mC M I0 J → (0 ≤ v ∧ v ≤ 4) → P (some (.int v)) (n, t, K, L, J, R)) : a_at (d + 3) (a_xm a_m190) 80 [some (a_rf M), some (.int a), some (.int l), some (.int b), u] [] (n, t, K, L, I, R) P := by
  have g4 : 0 ≤ l / 8 ∧ l / 8 ≤ 4 := by
    have h1 := ti_div hl.1 (show (0 : Int32) < 8 by decide)
    have h2 := Int32.le_iff_toInt_le.mp hl.2
    refine ⟨(div_rng hl.1 (by decide)).1, ?_⟩
    rw [Int32.le_iff_toInt_le, h1]
    show l.toInt / 8 ≤ 4
    simp at h2
    omega
  have g5 := rg_length hC.1 a.toNatClampNeg
  have g6 : ∀ J, mC M I0 J → J (M + 10) a.toNatClampNeg = I0 (M + 10) a.toNatClampNeg := fun J h => eS_length h _
  have g7 := eS_length hC a.toNatClampNeg
  repeat' first
    | with_reducible apply And.intro
    | with_reducible assumption
    | with_reducible intro _
    | with_reducible apply hP
    | with_reducible apply ct_findFacts hS hC ha
    | with_reducible apply ct_open hS (I0 := I0)
    | with_reducible apply ct_readSumC hS (I0 := I0)
    | simp only [q190_80, q190_81, q190_84, q190_85, q190_87, q190_88, q190_89, q190_90, q190_91, q190_92, q190_95, q190_96, q190_97, q190_98, q190_101, q190_102, q190_103, q190_104, q190_107, q190_108, q190_109, q190_112, q190_113, q190_116, q190_118, q190_120, q190_123, q190_124, q190_127, q190_129, q190_130, q190_133, q190_134, q190_135, q190_138, q190_139, q190_142, q190_143, q190_144, q190_147, q190_149, m_0 hS, m_K hS, mR_atBench hS, mK_atBench hS, mL_atBench hS, mR_atShift hS, mK_atShift hS, mL_atShift hS, mR_length hS, mK_length hS, mL_length hS, as_nil, as_i, as_r, Nat.reduceAdd, Nat.reduceLeDiff, z_eq0, z_eq1, z_or, z_em, Classical.not_not, not_false_eq_true, not_true_eq_false, true_and, and_true, false_and, and_false, and_self, true_implies, false_implies, implies_true, Option.toList_some, Option.toList_none, List.cons_append, List.nil_append, Nat.add_eq_zero_iff, a_nl_i, a_nl_r, a_nl_n, true_or, or_true, eq_self, ok_4, ok_5, ok_6, ok_7, ok_9, ok_10, ok_20, ok_21, ok_24, ok_30, ok_48, ok_50, ok_60, ok_80, ok_120, ok_180, ok_192, ok_200, ok_900, ok_1000, ok_84000]
  all_goals grind [ui_ap]
theorem lp_owedOf_21 (hS : m_S M K L R) (hC : mC M I0 I) {a l : Int32} (ha : 0 ≤ a ∧ a < 30) (hl : 0 ≤ l ∧ l ≤ 32) (hP : ∀ v J, mC M I0 J → (0 ≤ v ∧ v ≤ 4) → P (some (.int v)) (n, t, K, L, J, R)) : ∀ i : Int32, i ≤ 20 → ∀ b, 0 ≤ i → (-1 ≤ b ∧ b < 20) → a_at (d + 3) (a_xm a_m190) 21 [some (a_rf M), some (.int a), some (.int l), some (.int b), some (.int i)] [] (n, t, K, L, I, R) P := by
  refine up_ind 20 (fun i hi ih => ?_)
  intro b h0 hb
  have g1 := rg_texts hC.1
  rw [q190_21]
  repeat' first
    | with_reducible apply And.intro
    | with_reducible assumption
    | with_reducible intro _
    | with_reducible apply ih
    | with_reducible apply hP
    | with_reducible apply lp_owedOf_80 hS hC ha
    | simp only [q190_0, q190_1, q190_2, q190_5, q190_8, q190_9, q190_10, q190_11, q190_12, q190_15, q190_16, q190_17, q190_18, q190_19, q190_23, q190_24, q190_27, q190_30, q190_31, q190_33, q190_35, q190_36, q190_39, q190_40, q190_41, q190_44, q190_47, q190_48, q190_51, q190_52, q190_55, q190_57, q190_58, q190_59, q190_62, q190_63, q190_64, q190_67, q190_69, q190_72, q190_73, q190_74, q190_77, q190_81, q190_84, q190_85, q190_87, q190_88, q190_89, q190_90, q190_91, q190_92, q190_95, q190_96, q190_97, q190_98, q190_101, q190_102, q190_103, q190_104, q190_107, q190_108, q190_109, q190_112, q190_113, q190_116, q190_118, q190_120, q190_123, q190_124, q190_127, q190_129, q190_130, q190_133, q190_134, q190_135, q190_138, q190_139, q190_142, q190_143, q190_144, q190_147, q190_149, m_0 hS, m_K hS, mR_atShift hS, mK_atShift hS, mL_atShift hS, mR_textFrom hS, mK_textFrom hS, mL_textFrom hS, mR_atBench hS, mK_atBench hS, mL_atBench hS, mR_length hS, mK_length hS, mL_length hS, sp_hasPlace hS, sp_isInForce hS, as_nil, as_i, as_r, Nat.reduceAdd, Nat.reduceLeDiff, z_eq0, z_eq1, z_or, z_em, Classical.not_not, not_false_eq_true, not_true_eq_false, true_and, and_true, false_and, and_false, and_self, true_implies, false_implies, implies_true, Option.toList_some, Option.toList_none, List.cons_append, List.nil_append, Nat.add_eq_zero_iff, a_nl_i, a_nl_r, a_nl_n, true_or, or_true, eq_self, ok_4, ok_5, ok_6, ok_7, ok_9, ok_10, ok_20, ok_21, ok_24, ok_30, ok_48, ok_50, ok_60, ok_80, ok_120, ok_180, ok_192, ok_200, ok_900, ok_1000, ok_84000]
  all_goals grind [ui_ap]
theorem ct_owedOf (hS : m_S M K L R) (hC : mC M I0 I) {a : Int32} (ha : 0 ≤ a ∧ a < 30) (hP : ∀ v J, mC M I0 J → (0 ≤ v ∧ v ≤ 4) → P (some (.int v)) (n, t, K, L, J, R)) : a_does (d + 4) 190 [a_rf M, .int a] (n, t, K, L, I, R) P := by
  have hR := hC.1
  rw [a_enter1 (M := a_m190) rfl (a_cat_rf (a_cat_int a_cat_nil)) (show 2 ≤ 5 by decide)]
  show a_at _ (a_xm a_m190) 0 [some (a_rf M), some (.int a), none, none, none] [] _ _
  repeat' first
    | with_reducible apply And.intro
    | with_reducible assumption
    | with_reducible intro _
    | with_reducible apply hP
    | with_reducible apply ct_lossOf hS hR ha
    | with_reducible apply lp_owedOf_21 hS hC ha ?_ hP
    | simp only [q190_0, q190_1, q190_2, q190_5, q190_8, q190_9, q190_10, q190_11, q190_12, q190_15, q190_16, q190_17, q190_18, q190_19, m_0 hS, m_K hS, sp_hasPlace hS, as_nil, as_i, as_r, Nat.reduceAdd, Nat.reduceLeDiff, z_eq0, z_eq1, z_or, z_em, Classical.not_not, not_false_eq_true, not_true_eq_false, true_and, and_true, false_and, and_false, and_self, true_implies, false_implies, implies_true, Option.toList_some, Option.toList_none, List.cons_append, List.nil_append, Nat.add_eq_zero_iff, a_nl_i, a_nl_r, a_nl_n, true_or, or_true, eq_self, ok_4, ok_5, ok_6, ok_7, ok_9, ok_10, ok_20, ok_21, ok_24, ok_30, ok_48, ok_50, ok_60, ok_80, ok_120, ok_180, ok_192, ok_200, ok_900, ok_1000, ok_84000]
  all_goals grind [ui_ap]
theorem lp_standFor_32 (hP : ∀ v, P (some (.int v)) (n, t, K, L, I, R)) {a b s f : Int32} : ∀ i : Int32, i ≤ 8 → ∀ m e, 0 ≤ i → a_at d (a_xm a_m232) 32 [some (a_rf M), some (.int a), some (.int b), some (.int s), some (.int f), some (.int m), some (.int e), some (.int i)] [] (n, t, K, L, I, R) P := by
  refine up_ind 8 (fun i hi ih => ?_)
  intro m e h0
  rw [q232_32]
  repeat' first
    | with_reducible apply And.intro
    | with_reducible assumption
    | with_reducible intro _
    | with_reducible apply ih
    | with_reducible apply hP
    | simp only [q232_34, q232_36, q232_39, q232_41, q232_44, q232_46, q232_48, q232_49, q232_50, q232_51, q232_52, q232_55, q232_57, q232_58, q232_60, q232_61, q232_62, q232_64, q232_67, q232_70, q232_73, q232_75, as_nil, as_i, as_r, Nat.reduceAdd, Nat.reduceLeDiff, z_eq0, z_eq1, z_or, z_em, Classical.not_not, not_false_eq_true, not_true_eq_false, true_and, and_true, false_and, and_false, and_self, true_implies, false_implies, implies_true, Option.toList_some, Option.toList_none, List.cons_append, List.nil_append, Nat.add_eq_zero_iff, a_nl_i, a_nl_r, a_nl_n, true_or, or_true, eq_self, ok_4, ok_5, ok_6, ok_7, ok_9, ok_10, ok_20, ok_21, ok_24, ok_30, ok_48, ok_50, ok_60, ok_80, ok_120, ok_180, ok_192, ok_200, ok_900, ok_1000, ok_84000]
  all_goals grind [ui_ap]
theorem ct_standFor (hS : m_S M K L R) (hC : mC M I0 I) {a b s : Int32} (ha : 0 ≤ a ∧ a < 30) (hb : 0 ≤ b ∧ b ≤ 5) (hP : ∀ v J, mC M I0 J → P (some (.int v)) (n, t, K, L, J, R)) : a_does (d + 9) 232 [a_rf M, .int a, .int b, .int s] (n, t, K, L, I, R) P := by
  have hR := hC.1
  rw [a_enter1 (M := a_m232) rfl (a_cat_rf (a_cat_int (a_cat_int (a_cat_int a_cat_nil)))) (show 4 ≤ 8 by decide)]
  show a_at _ (a_xm a_m232) 0 [some (a_rf M), some (.int a), some (.int b), some (.int s), none, none, none, none] [] _ _
  repeat' first
    | with_reducible apply And.intro
    | with_reducible assumption
    | with_reducible intro _
    | with_reducible apply hP
    | with_reducible apply ct_freeHosts hS hR hb
    | with_reducible apply ct_isWatched hS hC ha
    | with_reducible apply lp_standFor_32
    | simp only [q232_0, q232_1, q232_2, q232_3, q232_4, q232_7, q232_9, q232_10, q232_11, q232_12, q232_13, q232_16, q232_19, q232_20, q232_23, q232_24, q232_26, q232_27, q232_29, q232_30, m_0 hS, m_K hS, as_nil, as_i, as_r, Nat.reduceAdd, Nat.reduceLeDiff, z_eq0, z_eq1, z_or, z_em, Classical.not_not, not_false_eq_true, not_true_eq_false, true_and, and_true, false_and, and_false, and_self, true_implies, false_implies, implies_true, Option.toList_some, Option.toList_none, List.cons_append, List.nil_append, Nat.add_eq_zero_iff, a_nl_i, a_nl_r, a_nl_n, true_or, or_true, eq_self, ok_4, ok_5, ok_6, ok_7, ok_9, ok_10, ok_20, ok_21, ok_24, ok_30, ok_48, ok_50, ok_60, ok_80, ok_120, ok_180, ok_192, ok_200, ok_900, ok_1000, ok_84000]
  all_goals grind [ui_ap]
theorem lp_barIn_287 (hS : m_S M K L R) (hC : mC M I0 I) {a b s f : Int32} {g o u : Option Value} (ha : 0 ≤ a ∧ a < 30) (hP : ∀ v J, mC M I0 J → P (some (.int v)) (n, t, K, L, J, R)) : a_at (d + 8) (a_xm a_m222) 287 [some (a_rf M), some (.int a), some (.int b), some (.int s), some (.int f), g, o, u] [] (n, t, K, L, I, R) P := by
  have hR := hC.1
  repeat' first
    | with_reducible apply And.intro
    | with_reducible assumption
    | with_reducible intro _
    | with_reducible apply hP
    | with_reducible apply ct_isTooNear hS hR ha
    | simp only [q222_287, q222_288, q222_289, q222_291, q222_294, q222_297, q222_299, q222_300, q222_301, q222_304, q222_305, q222_306, q222_307, q222_310, q222_311, q222_312, q222_315, q222_316, q222_317, q222_318, q222_321, q222_322, q222_323, q222_326, q222_329, q222_331, q222_334, q222_335, m_0 hS, m_K hS, mR_kind hS, mK_kind hS, mL_kind hS, mR_xOf hS, mK_xOf hS, mL_xOf hS, mR_yOf hS, mK_yOf hS, mL_yOf hS, sp_in, as_nil, as_i, as_r, Nat.reduceAdd, Nat.reduceLeDiff, z_eq0, z_eq1, z_or, z_em, Classical.not_not, not_false_eq_true, not_true_eq_false, true_and, and_true, false_and, and_false, and_self, true_implies, false_implies, implies_true, Option.toList_some, Option.toList_none, List.cons_append, List.nil_append, Nat.add_eq_zero_iff, a_nl_i, a_nl_r, a_nl_n, true_or, or_true, eq_self, ok_4, ok_5, ok_6, ok_7, ok_9, ok_10, ok_20, ok_21, ok_24, ok_30, ok_48, ok_50, ok_60, ok_80, ok_120, ok_180, ok_192, ok_200, ok_900, ok_1000, ok_84000]
  all_goals grind [ui_ap]
theorem lp_barIn_256 (hS : m_S M K L R) (hC : mC M I0 I) {a b s f : Int32} {g o u : Option Value} (ha : 0 ≤ a ∧ a < 30) (hb : 0 ≤ b ∧ b ≤ 5) (hP : ∀ v J, mC M I0 J → P (some (.int v)) (n, t, K, L, J, R)) : a_at (d + 8) (a_xm a_m222) 256 [some (a_rf M), some (.int a), some (.int b), some (.int s), some (.int f), g, o, u] [] (n, t, K, L, I, R) P := by
  have hR := hC.1
  repeat' first
    | with_reducible apply And.intro
    | with_reducible assumption
    | with_reducible intro _
    | with_reducible apply hP
    | with_reducible apply ct_freeHosts hS hR hb
    | with_reducible apply ct_ones
    | with_reducible apply ct_isWatched hS hC ha
    | with_reducible apply lp_barIn_287 hS (I0 := I0)
    | simp only [q222_256, q222_257, q222_258, q222_259, q222_260, q222_263, q222_266, q222_267, q222_268, q222_269, q222_270, q222_273, q222_276, q222_277, q222_280, q222_281, q222_284, q222_286, m_0 hS, m_K hS, as_nil, as_i, as_r, Nat.reduceAdd, Nat.reduceLeDiff, z_eq0, z_eq1, z_or, z_em, Classical.not_not, not_false_eq_true, not_true_eq_false, true_and, and_true, false_and, and_false, and_self, true_implies, false_implies, implies_true, Option.toList_some, Option.toList_none, List.cons_append, List.nil_append, Nat.add_eq_zero_iff, a_nl_i, a_nl_r, a_nl_n, true_or, or_true, eq_self, ok_4, ok_5, ok_6, ok_7, ok_9, ok_10, ok_20, ok_21, ok_24, ok_30, ok_48, ok_50, ok_60, ok_80, ok_120, ok_180, ok_192, ok_200, ok_900, ok_1000, ok_84000]
  all_goals grind [ui_ap]
theorem lp_barIn_233 (hS : m_S M K L R) (hC : mC M I0 I) {a b s f g : Int32} {o u : Option Value} (ha : 0 ≤ a ∧ a < 30) (hb : 0 ≤ b ∧ b ≤ 5) (hP : ∀ v J, mC M I0 J → P (some (.int v)) (n, t, K, L, J, R)) : a_at (d + 8) (a_xm a_m222) 233 [some (a_rf M), some (.int a), some (.int b), some (.int s), some (.int f), some (.int g), o, u] [] (n, t, K, L, I, R) P := by
  repeat' first
    | with_reducible apply And.intro
    | with_reducible assumption
    | with_reducible intro _
    | with_reducible apply hP
    | with_reducible apply ct_holding hS hC ha
    | with_reducible apply lp_barIn_256 hS (I0 := I0)
    | simp only [q222_233, q222_235, q222_238, q222_240, q222_241, q222_242, q222_244, q222_245, q222_246, q222_247, q222_250, q222_253, q222_255, m_0 hS, m_K hS, as_nil, as_i, as_r, Nat.reduceAdd, Nat.reduceLeDiff, z_eq0, z_eq1, z_or, z_em, Classical.not_not, not_false_eq_true, not_true_eq_false, true_and, and_true, false_and, and_false, and_self, true_implies, false_implies, implies_true, Option.toList_some, Option.toList_none, List.cons_append, List.nil_append, Nat.add_eq_zero_iff, a_nl_i, a_nl_r, a_nl_n, true_or, or_true, eq_self, ok_4, ok_5, ok_6, ok_7, ok_9, ok_10, ok_20, ok_21, ok_24, ok_30, ok_48, ok_50, ok_60, ok_80, ok_120, ok_180, ok_192, ok_200, ok_900, ok_1000, ok_84000]
  all_goals grind [ui_ap]
theorem lp_barIn_104 (hS : m_S M K L R) (hC : mC M I0 I) {a b s f : Int32} (ha : 0 ≤ a ∧ a < 30) (hb : 0 ≤ b ∧ b ≤ 5) (hP : ∀ v J, mC M I0 J → P (some (.int v)) (n, t, K, L, J, R)) : ∀ o : Int32, o ≤ 30 → ∀ g u, 0 ≤ o → a_at (d + 8) (a_xm a_m222) 104 [some (a_rf M), some (.int a), some (.int b), some (.int s), some (.int f), some (.int g), some (.int o), u] [] (n, t, K, L, I, R) P := by
  refine up_ind 30 (fun o ho ih => ?_)
  intro g u h0
  have g1 := rg_asks hC.1
  rw [q222_104]
  repeat' first
    | with_reducible apply And.intro
    | with_reducible assumption
    | with_reducible intro _
    | with_reducible apply hP
    | with_reducible apply ih
    | with_reducible apply lp_barIn_233 hS hC ha hb
    | simp only [q222_106, q222_107, q222_110, q222_113, q222_115, q222_116, q222_119, q222_120, q222_122, q222_123, q222_124, q222_127, q222_130, q222_132, q222_133, q222_135, q222_136, q222_139, q222_140, q222_142, q222_145, q222_148, q222_149, q222_152, q222_154, q222_155, q222_156, q222_159, q222_160, q222_161, q222_164, q222_165, q222_168, q222_169, q222_170, q222_173, q222_174, q222_175, q222_178, q222_180, q222_181, q222_184, q222_185, q222_186, q222_189, q222_191, q222_192, q222_193, q222_196, q222_198, q222_199, q222_200, q222_203, q222_204, q222_207, q222_208, q222_210, q222_212, q222_215, q222_217, q222_220, q222_221, q222_224, q222_225, q222_227, q222_230, m_0 hS, m_K hS, mR_gear hS, mK_gear hS, mL_gear hS, mR_atShift hS, mK_atShift hS, mL_atShift hS, mR_length hS, mK_length hS, mL_length hS, sp_holdsAt hS, sp_hasPlace hS, as_nil, as_i, as_r, Nat.reduceAdd, Nat.reduceLeDiff, z_eq0, z_eq1, z_or, z_em, Classical.not_not, not_false_eq_true, not_true_eq_false, true_and, and_true, false_and, and_false, and_self, true_implies, false_implies, implies_true, Option.toList_some, Option.toList_none, List.cons_append, List.nil_append, Nat.add_eq_zero_iff, a_nl_i, a_nl_r, a_nl_n, true_or, or_true, eq_self, ok_4, ok_5, ok_6, ok_7, ok_9, ok_10, ok_20, ok_21, ok_24, ok_30, ok_48, ok_50, ok_60, ok_80, ok_120, ok_180, ok_192, ok_200, ok_900, ok_1000, ok_84000]
  all_goals grind [ui_ap]
theorem ct_barIn (hS : m_S M K L R) (hC : mC M I0 I) {a b s f : Int32} (ha : 0 ≤ a ∧ a < 30) (hb : 0 ≤ b ∧ b ≤ 5) (hs : -1000 ≤ s ∧ s ≤ 1000) (hP : ∀ v J, mC M I0 J → P (some (.int v)) (n, t, K, L, J, R)) : a_does (d + 9) 222 [a_rf M, .int a, .int b, .int s, .int f] (n, t, K, L, I, R) P := by
  have hR := hC.1
  have g1 := rg_now hR
  rw [a_enter1 (M := a_m222) rfl (a_cat_rf (a_cat_int (a_cat_int (a_cat_int (a_cat_int a_cat_nil))))) (show 5 ≤ 8 by decide)]
  show a_at _ (a_xm a_m222) 0 [some (a_rf M), some (.int a), some (.int b), some (.int s), some (.int f), none, none, none] [] _ _
  repeat' first
    | with_reducible apply And.intro
    | with_reducible assumption
    | with_reducible intro _
    | with_reducible apply hP
    | with_reducible apply ct_lostIn hS hR hs
    | with_reducible apply lp_barIn_104 hS hC ha hb hP
    | simp only [q222_0, q222_1, q222_4, q222_5, q222_6, q222_7, q222_8, q222_9, q222_10, q222_13, q222_14, q222_15, q222_16, q222_19, q222_20, q222_21, q222_22, q222_25, q222_26, q222_27, q222_28, q222_29, q222_30, q222_33, q222_34, q222_35, q222_36, q222_39, q222_42, q222_43, q222_44, q222_47, q222_50, q222_51, q222_52, q222_53, q222_56, q222_57, q222_58, q222_59, q222_62, q222_63, q222_64, q222_65, q222_68, q222_71, q222_73, q222_76, q222_77, q222_78, q222_79, q222_82, q222_83, q222_84, q222_85, q222_88, q222_89, q222_90, q222_91, q222_92, q222_93, q222_96, q222_97, q222_98, q222_99, q222_101, q222_102, m_0 hS, m_K hS, mR_benchSet hS, mK_benchSet hS, mL_benchSet hS, mR_can hS, mK_can hS, mL_can hS, mR_wants hS, mK_wants hS, mL_wants hS, mR_modes hS, mK_modes hS, mL_modes hS, mR_modeSet hS, mK_modeSet hS, mL_modeSet hS, sp_isBegun hS, as_nil, as_i, as_r, Nat.reduceAdd, Nat.reduceLeDiff, z_eq0, z_eq1, z_or, z_em, Classical.not_not, not_false_eq_true, not_true_eq_false, true_and, and_true, false_and, and_false, and_self, true_implies, false_implies, implies_true, Option.toList_some, Option.toList_none, List.cons_append, List.nil_append, Nat.add_eq_zero_iff, a_nl_i, a_nl_r, a_nl_n, true_or, or_true, eq_self, ok_4, ok_5, ok_6, ok_7, ok_9, ok_10, ok_20, ok_21, ok_24, ok_30, ok_48, ok_50, ok_60, ok_80, ok_120, ok_180, ok_192, ok_200, ok_900, ok_1000, ok_84000]
  all_goals grind [ui_ap]
theorem lp_fitOf_3 (hS : m_S M K L R) {a b s : Int32} (ha : 0 ≤ a ∧ a < 30) (hb : 0 ≤ b ∧ b ≤ 5) (hs : -500 ≤ s ∧ s ≤ 500) (hP : ∀ v J, mC M I0 J → P (some (.int v)) (n, t, K, L, J, R)) : ∀ i : Int32, i ≤ 4 → ∀ J u, 0 ≤ i → mC M I0 J → a_at (d + 9) (a_xm a_m221) 3 [some (a_rf M), some (.int a), some (.int b), some (.int s), some (.int i), u] [] (n, t, K, L, J, R) P := by
  refine up_ind 4 (fun i hi ih => ?_)
  intro J u h0 hC
  have g1 := rg_length hC.1
  rw [q221_3]
  repeat' first
    | with_reducible apply And.intro
    | with_reducible assumption
    | with_reducible intro _
    | with_reducible apply hP
    | with_reducible apply ih
    | with_reducible apply ct_barIn hS hC ha hb
    | simp only [q221_0, q221_1, q221_5, q221_6, q221_9, q221_10, q221_11, q221_14, q221_15, q221_16, q221_17, q221_18, q221_20, q221_21, q221_22, q221_25, q221_27, q221_29, q221_32, q221_34, q221_35, q221_38, q221_41, q221_42, m_0 hS, m_K hS, mR_length hS, mK_length hS, mL_length hS, as_nil, as_i, as_r, Nat.reduceAdd, Nat.reduceLeDiff, z_eq0, z_eq1, z_or, z_em, Classical.not_not, not_false_eq_true, not_true_eq_false, true_and, and_true, false_and, and_false, and_self, true_implies, false_implies, implies_true, Option.toList_some, Option.toList_none, List.cons_append, List.nil_append, Nat.add_eq_zero_iff, a_nl_i, a_nl_r, a_nl_n, true_or, or_true, eq_self, ok_4, ok_5, ok_6, ok_7, ok_9, ok_10, ok_20, ok_21, ok_24, ok_30, ok_48, ok_50, ok_60, ok_80, ok_120, ok_180, ok_192, ok_200, ok_900, ok_1000, ok_84000]
  all_goals grind [ui_ap]
theorem ct_fitOf (hS : m_S M K L R) (hC : mC M I0 I) {a b s : Int32} (ha : 0 ≤ a ∧ a < 30) (hb : 0 ≤ b ∧ b ≤ 5) (hs : -500 ≤ s ∧ s ≤ 500) (hP : ∀ v J, mC M I0 J → P (some (.int v)) (n, t, K, L, J, R)) : a_does (d + 10) 221 [a_rf M, .int a, .int b, .int s] (n, t, K, L, I, R) P := by
  rw [a_enter1 (M := a_m221) rfl (a_cat_rf (a_cat_int (a_cat_int (a_cat_int a_cat_nil)))) (show 4 ≤ 6 by decide)]
  show a_at _ (a_xm a_m221) 0 [some (a_rf M), some (.int a), some (.int b), some (.int s), none, none] [] _ _
  repeat' first
    | with_reducible apply And.intro
    | with_reducible assumption
    | with_reducible intro _
    | with_reducible apply hP
    | with_reducible apply lp_fitOf_3 hS ha hb hs hP
    | simp only [q221_0, q221_1, q221_5, q221_6, q221_9, q221_10, q221_11, q221_14, q221_15, q221_16, q221_17, q221_18, q221_20, q221_21, q221_22, q221_25, q221_27, q221_29, q221_32, q221_34, q221_35, q221_38, q221_41, q221_42, m_0 hS, m_K hS, mR_length hS, mK_length hS, mL_length hS, as_nil, as_i, as_r, Nat.reduceAdd, Nat.reduceLeDiff, z_eq0, z_eq1, z_or, z_em, Classical.not_not, not_false_eq_true, not_true_eq_false, true_and, and_true, false_and, and_false, and_self, true_implies, false_implies, implies_true, Option.toList_some, Option.toList_none, List.cons_append, List.nil_append, Nat.add_eq_zero_iff, a_nl_i, a_nl_r, a_nl_n, true_or, or_true, eq_self, ok_4, ok_5, ok_6, ok_7, ok_9, ok_10, ok_20, ok_21, ok_24, ok_30, ok_48, ok_50, ok_60, ok_80, ok_120, ok_180, ok_192, ok_200, ok_900, ok_1000, ok_84000]
  all_goals grind [ui_ap]
end RV

/-! a rule is read; what fits -/
section RU
variable {d n t M : Nat} {K L : Nat → Nat} {I I0 : Nat → Nat → Int32} {R : Nat → Nat → Nat} {P : Option Value → AH → Prop}
theorem bci_psh {J : Nat → Nat → Int32} {A : Nat} {s v : Int32} (h0 : 0 ≤ s) (h1 : s < 100) : bci (a_ui J A s.toNatClampNeg v A) (s + 1).toNatClampNeg = bci (J A) s.toNatClampNeg + (if v = 33 ∨ v = 40 then 0 else 1) := by
  rw [bci_push h0 (by grind), bci_le (Nat.le_refl _)]
  simp only [ui_ap, and_self, if_true]
theorem lp_readRule_17 (hS : m_S M K L R) {e : Int32} (he : e ≤ 50) (hP : ∀ v J, mC M I0 J → J M 48 = e → (v = 0 ∨ v = 1) → P (some (.int v)) (n, t, K, L, J, R)) : ∀ a : Int32, a ≤ 52 → ∀ J w c, J M 49 = a → (w = 0 ∨ w = 1) → rW M e I0 J (1 - w) → a_at (d + 4) (a_xm a_m202) 17 [some (a_rf M), some (.int w), c] [] (n, t, K, L, J, R) P := by
  have k38 : ¬ (38 : Int32) = 0 ∧ ¬ (38 : Int32) = 33 ∧ ¬ (38 : Int32) = 40 := by decide
  have k124 : ¬ (124 : Int32) = 0 ∧ ¬ (124 : Int32) = 33 ∧ ¬ (124 : Int32) = 40 := by decide
  have k47 : ¬ (47 : Int32) = 0 ∧ ¬ (47 : Int32) = 33 ∧ ¬ (47 : Int32) = 40 := by decide
  refine us_ind 52 (fun a ha ih => ?_)
  have hN : ∀ J w c, (w = 0 ∨ w = 1) → rW M e I0 J (1 - w) → (J M 50 = 0 → a < J M 49) → a_at (d + 4) (a_xm a_m202) 17 [some (a_rf M), some (.int w), c] [] (n, t, K, L, J, R) P := by
    intro J w c h1 h2 h3
    by_cases hb : J M 50 = 0
    · exact ih _ (h3 hb) h2.2.1.2 J w c rfl h1 h2
    · rw [q202_17]
      simp only [q202_18, q202_21, m_0 hS, m_K hS, as_nil, as_i, as_r, Nat.reduceAdd, Nat.reduceLeDiff, z_eq0, z_eq1, z_or, z_em, Classical.not_not, not_false_eq_true, not_true_eq_false, true_and, and_true, false_and, and_false, and_self, true_implies, false_implies, implies_true, Option.toList_some, Option.toList_none, List.cons_append, List.nil_append, Nat.add_eq_zero_iff, a_nl_i, a_nl_r, a_nl_n, true_or, or_true, eq_self, ok_4, ok_5, ok_6, ok_7, ok_9, ok_10, ok_20, ok_21, ok_24, ok_30, ok_48, ok_50, ok_60, ok_80, ok_120, ok_180, ok_192, ok_200, ok_900, ok_1000, ok_84000, hb]
      exact lp_readRule_332 hS h2.1 h2.2.2.1 (fun h => absurd h hb) hP
  have h211 : ∀ J c, rW M e I0 J 1 → J M 49 = a → (a < e) → (c = 38 ∨ c = 124 ∨ c = 47) → a_at (d + 4) (a_xm a_m202) 211 [some (a_rf M), some (.int 0), some (.int c)] [] (n, t, K, L, J, R) P := by
    intro J c hW hA hc hcc
    obtain ⟨hC, hat, hen, hba, hsm, hvm⟩ := id hW
    have b1 := bci_psh (J := J) (A := (M + 34)) (s := J M 56) (v := c) hsm.1 (by grind)
    have hz : (1 : Int32) - 1 = 0 := by decide
    repeat' first
      | with_reducible apply And.intro
      | with_reducible assumption
      | with_reducible intro _
      | with_reducible apply hN
      | with_reducible apply rW_i
      | with_reducible apply sC_facts
      | with_reducible apply sC_values
      | with_reducible apply sC_signs
      | with_reducible apply sC_isTold
      | with_reducible apply sC_base
      | with_reducible apply sC_end
      | with_reducible apply sC_at
      | with_reducible apply sC_isBad
      | with_reducible apply sC_deep
      | with_reducible apply sC_valueMany
      | with_reducible apply sC_signMany
      | simp only [q202_211, q202_212, q202_215, q202_216, q202_219, q202_220, q202_221, q202_222, q202_223, q202_226, q202_227, q202_228, q202_231, q202_232, q202_233, q202_236, q202_237, q202_238, q202_241, q202_242, q202_243, q202_329, m_0 hS, m_K hS, mR_signs hS, mK_signs hS, mL_signs hS, as_nil, as_i, as_r, Nat.reduceAdd, Nat.reduceLeDiff, z_eq0, z_eq1, z_or, z_em, Classical.not_not, not_false_eq_true, not_true_eq_false, true_and, and_true, false_and, and_false, and_self, true_implies, false_implies, implies_true, Option.toList_some, Option.toList_none, List.cons_append, List.nil_append, Nat.add_eq_zero_iff, a_nl_i, a_nl_r, a_nl_n, true_or, or_true, eq_self, ok_4, ok_5, ok_6, ok_7, ok_9, ok_10, ok_20, ok_21, ok_24, ok_30, ok_48, ok_50, ok_60, ok_80, ok_120, ok_180, ok_192, ok_200, ok_900, ok_1000, ok_84000, ui_ap, ne_MM, ne_M0, ne_0M, Nat.reduceEqDiff, reduceIte, if_true, if_false]
    all_goals grind [ui_ap, bci_ne]
  have h264 : ∀ J c, rW M e I0 J 1 → J M 49 = a → (a < e) → a_at (d + 4) (a_xm a_m202) 264 [some (a_rf M), some (.int 0), some (.int c)] [] (n, t, K, L, J, R) P := by
    intro J c hW hA hc
    obtain ⟨hC, hat, hen, hba, hsm, hvm⟩ := id hW
    have b1 : 0 < J M 56 → _ := fun h => bci_pop (f := J (M + 34)) h (by grind)
    have hz : (1 : Int32) - 0 = 1 := by decide
    repeat' first
      | with_reducible apply And.intro
      | with_reducible assumption
      | with_reducible intro _
      | with_reducible apply hN
      | with_reducible apply ct_partEnds hS (e := e) (I0 := I0)
      | with_reducible apply rW_i
      | with_reducible apply sC_facts
      | with_reducible apply sC_values
      | with_reducible apply sC_signs
      | with_reducible apply sC_isTold
      | with_reducible apply sC_base
      | with_reducible apply sC_end
      | with_reducible apply sC_at
      | with_reducible apply sC_isBad
      | with_reducible apply sC_deep
      | with_reducible apply sC_valueMany
      | with_reducible apply sC_signMany
      | simp only [q202_264, q202_265, q202_266, q202_268, q202_271, q202_272, q202_275, q202_277, q202_280, q202_281, q202_284, q202_285, q202_288, q202_289, q202_292, q202_295, q202_296, q202_297, q202_300, q202_301, q202_302, q202_305, q202_306, q202_307, q202_310, q202_311, q202_312, q202_315, q202_316, q202_317, q202_320, q202_321, q202_322, q202_325, q202_326, q202_329, m_0 hS, m_K hS, sp_topSign hS, as_nil, as_i, as_r, Nat.reduceAdd, Nat.reduceLeDiff, z_eq0, z_eq1, z_or, z_em, Classical.not_not, not_false_eq_true, not_true_eq_false, true_and, and_true, false_and, and_false, and_self, true_implies, false_implies, implies_true, Option.toList_some, Option.toList_none, List.cons_append, List.nil_append, Nat.add_eq_zero_iff, a_nl_i, a_nl_r, a_nl_n, true_or, or_true, eq_self, ok_4, ok_5, ok_6, ok_7, ok_9, ok_10, ok_20, ok_21, ok_24, ok_30, ok_48, ok_50, ok_60, ok_80, ok_120, ok_180, ok_192, ok_200, ok_900, ok_1000, ok_84000, ui_ap, ne_MM, ne_M0, ne_0M, Nat.reduceEqDiff, reduceIte, if_true, if_false]
    all_goals grind [ui_ap, bci_ne, rW]
  intro J w c hA hw hW
  obtain ⟨hC, hat, hen, hba, hsm, hvm⟩ := id hW
  have hEJ : rE M J := ⟨hat, by grind, hba⟩
  have hTJ : rT M J J := rT_refl hC.1 hEJ
  have hz0 : (1 : Int32) - 0 = 1 := by decide
  have hz1 : (1 : Int32) - 1 = 0 := by decide
  have b0 := bci_rng (f := J (M + 34)) hsm.1 (by grind)
  have h131 : w = 1 → ∀ c, a_at (d + 4) (a_xm a_m202) 131 [some (a_rf M), some (.int w), some (.int c)] [] (n, t, K, L, J, R) P := by
    intro hw1 c
    simp only [q202_131, q202_132, q202_135, q202_136, q202_139, q202_140, m_0 hS, m_K hS, mR_values hS, mK_values hS, mL_values hS, as_nil, as_i, as_r, Nat.reduceAdd, Nat.reduceLeDiff, z_eq0, z_eq1, z_or, z_em, Classical.not_not, not_false_eq_true, not_true_eq_false, true_and, and_true, false_and, and_false, and_self, true_implies, false_implies, implies_true, Option.toList_some, Option.toList_none, List.cons_append, List.nil_append, Nat.add_eq_zero_iff, a_nl_i, a_nl_r, a_nl_n, true_or, or_true, eq_self, ok_4, ok_5, ok_6, ok_7, ok_9, ok_10, ok_20, ok_21, ok_24, ok_30, ok_48, ok_50, ok_60, ok_80, ok_120, ok_180, ok_192, ok_200, ok_900, ok_1000, ok_84000]
    refine ct_readTest hS hEJ hTJ (fun v J1 t1 g1 z1 => ?_)
    have e1 := rT_fun t1 (A := (M + 34)) (by omega)
    have e2 := rT_cell t1 (j := 56) (by omega)
    have e3 := rT_cell t1 (j := 54) (by omega)
    have e4 := rT_end t1
    have e5 := rT_base t1
    have e6 := mC_T hC t1
    obtain ⟨-, -, u1, u2⟩ := id t1
    simp only [q202_143, q202_144, q202_145, q202_146, q202_149, q202_150, q202_151, q202_154, q202_155, q202_156, q202_157, m_0 hS, m_K hS, as_nil, as_i, as_r, Nat.reduceAdd, Nat.reduceLeDiff, z_eq0, z_eq1, z_or, z_em, Classical.not_not, not_false_eq_true, not_true_eq_false, true_and, and_true, false_and, and_false, and_self, true_implies, false_implies, implies_true, Option.toList_some, Option.toList_none, List.cons_append, List.nil_append, Nat.add_eq_zero_iff, a_nl_i, a_nl_r, a_nl_n, true_or, or_true, eq_self, ok_4, ok_5, ok_6, ok_7, ok_9, ok_10, ok_20, ok_21, ok_24, ok_30, ok_48, ok_50, ok_60, ok_80, ok_120, ok_180, ok_192, ok_200, ok_900, ok_1000, ok_84000, ui_ap, ne_MM, ne_M0, ne_0M, Nat.reduceEqDiff, reduceIte, if_true, if_false, mK_values hS, mL_values hS]
    refine ⟨⟨by grind, by grind⟩, ?_⟩
    refine ct_partEnds hS (J := a_ui (a_ui J1 (M + 33) (J M 54).toNatClampNeg (v &&& 1)) M 54 (J1 M 54 + 1)) (e := e) (I0 := I0) ?_ ?_
    · refine rW_i (sC_valueMany (sC_values e6)) ?_ ?_ ?_ ?_ ?_ <;> grind [ui_ap, bci_ne]
    · intro J2 w2 a2 i2
      simp only [q202_160, q202_329, as_nil, as_i, as_r, Nat.reduceAdd, Nat.reduceLeDiff, z_eq0, z_eq1, z_or, z_em, Classical.not_not, not_false_eq_true, not_true_eq_false, true_and, and_true, false_and, and_false, and_self, true_implies, false_implies, implies_true, Option.toList_some, Option.toList_none, List.cons_append, List.nil_append, Nat.add_eq_zero_iff, a_nl_i, a_nl_r, a_nl_n, true_or, or_true, eq_self, ok_4, ok_5, ok_6, ok_7, ok_9, ok_10, ok_20, ok_21, ok_24, ok_30, ok_48, ok_50, ok_60, ok_80, ok_120, ok_180, ok_192, ok_200, ok_900, ok_1000, ok_84000]
      exact hN J2 0 _ (Or.inl rfl) (by rw [hz0]; exact w2) (by grind [ui_ap])
  rw [q202_17]
  repeat' first
    | with_reducible apply And.intro
    | with_reducible assumption
    | with_reducible intro _
    | with_reducible apply hN
    | with_reducible apply h211
    | with_reducible apply h264
    | with_reducible apply h131
    | with_reducible apply ct_here hS hEJ hTJ
    | with_reducible apply ct_join hS (e := e) (I0 := I0) k38
    | with_reducible apply ct_join hS (e := e) (I0 := I0) k124
    | with_reducible apply ct_join hS (e := e) (I0 := I0) k47
    | with_reducible apply lp_readRule_332 hS
    | with_reducible apply hP
    | with_reducible apply rW_i
    | with_reducible apply sC_facts
    | with_reducible apply sC_values
    | with_reducible apply sC_signs
    | with_reducible apply sC_isTold
    | with_reducible apply sC_base
    | with_reducible apply sC_end
    | with_reducible apply sC_at
    | with_reducible apply sC_isBad
    | with_reducible apply sC_deep
    | with_reducible apply sC_valueMany
    | with_reducible apply sC_signMany
    | simp only [q202_18, q202_21, q202_24, q202_25, q202_28, q202_29, q202_32, q202_33, q202_36, q202_39, q202_40, q202_43, q202_44, q202_45, q202_48, q202_49, q202_51, q202_54, q202_55, q202_57, q202_60, q202_61, q202_62, q202_65, q202_66, q202_69, q202_70, q202_73, q202_74, q202_77, q202_78, q202_81, q202_84, q202_85, q202_86, q202_89, q202_90, q202_91, q202_94, q202_95, q202_98, q202_99, q202_102, q202_103, q202_104, q202_105, q202_106, q202_109, q202_110, q202_111, q202_114, q202_115, q202_116, q202_119, q202_120, q202_121, q202_124, q202_127, q202_128, q202_163, q202_164, q202_166, q202_169, q202_170, q202_172, q202_175, q202_176, q202_178, q202_181, q202_182, q202_184, q202_187, q202_188, q202_190, q202_193, q202_194, q202_196, q202_199, q202_200, q202_202, q202_205, q202_206, q202_208, q202_246, q202_247, q202_249, q202_252, q202_253, q202_255, q202_258, q202_259, q202_261, q202_329, m_0 hS, m_K hS, mR_signs hS, mK_signs hS, mL_signs hS, as_nil, as_i, as_r, Nat.reduceAdd, Nat.reduceLeDiff, z_eq0, z_eq1, z_or, z_em, Classical.not_not, not_false_eq_true, not_true_eq_false, true_and, and_true, false_and, and_false, and_self, true_implies, false_implies, implies_true, Option.toList_some, Option.toList_none, List.cons_append, List.nil_append, Nat.add_eq_zero_iff, a_nl_i, a_nl_r, a_nl_n, true_or, or_true, eq_self, ok_4, ok_5, ok_6, ok_7, ok_9, ok_10, ok_20, ok_21, ok_24, ok_30, ok_48, ok_50, ok_60, ok_80, ok_120, ok_180, ok_192, ok_200, ok_900, ok_1000, ok_84000, ui_ap, ne_MM, ne_M0, ne_0M, Nat.reduceEqDiff, reduceIte, if_true, if_false]
  all_goals grind [ui_ap, bci_ne, bci_psh, hv, rW]
end RU

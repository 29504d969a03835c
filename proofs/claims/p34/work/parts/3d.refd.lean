/-! public methods 3 -/
section SD
variable {d n t M c : Nat} {K L : Nat → Nat} {I I0 J J0 J1 J2 : Nat → Nat → Int32} {R : Nat → Nat → Nat} {P : Option Value → AH → Prop}
theorem mE_add (h : mE M c I) (h1 : J M 35 = I M 35) (h2 : ∀ j, J (M + 24) j = I (M + 24) j) (h3 : ∀ j, J (M + 25) j = I (M + 25) j) (h4 : J M 0 = I M 0) (h5 : J M 17 = I M 17 + 1) (hk : 0 ≤ I M 17 ∧ I M 17 < 30) (h6 : ∀ j, ¬ j = (I M 17).toNatClampNeg → J (M + 10) j = I (M + 10) j) (h7 : ∀ j, ¬ j = (I M 17).toNatClampNeg → J (M + 20) j = I (M + 20) j) (h8 : ∀ j, ¬ j = (I M 17).toNatClampNeg → J (M + 21) j = I (M + 21) j) (h9 : J (M + 20) (I M 17).toNatClampNeg = -9) : mE M c J := by
  obtain ⟨g, q1, q2⟩ := h
  refine ⟨g, ?_, by rw [h1]; exact q2⟩
  intro a ha hk2 hb
  by_cases he : a = I M 17
  · subst he; rw [h9] at hb; exact absurd hb (by decide)
  · have hne : ¬ a.toNatClampNeg = (I M 17).toNatClampNeg := fun q => he (cl_inj ha hk.1 q)
    rw [h7 _ hne] at hb
    cases q1 a ha (by grind) hb with
    | inl q => exact Or.inl (fun i i0 i1 => by rw [h6 _ hne] at i1; rw [fc_eq h1 h2 h3 h4, h7 _ hne, h8 _ hne]; exact q i i0 i1)
    | inr q => exact Or.inr q
theorem fr_ui (h : fr M I J) {x k : Nat} {v : Int32} (hx : ¬ eC M x k) : fr M I (a_ui J x k v) := fun y j hy => by
  rw [ui_ap, if_neg (fun q => hx (by rw [← q.1, ← q.2]; exact hy))]
  exact h y j hy
theorem ask_R (h : mR M J) {k g l m w p q r s x y : Int32} (ha : J M 17 < 30) (hg : 0 ≤ g ∧ g ≤ 9) (hm : 0 ≤ m ∧ m ≤ 4) (hx : k = 1 → 0 ≤ x ∧ x ≤ 29) : mR M (a_ui (a_ui (a_ui (a_ui (a_ui (a_ui (a_ui (a_ui (a_ui (a_ui (a_ui (a_ui (a_ui (a_ui (a_ui J (M + 7) (J M 17).toNatClampNeg k) (M + 8) (J M 17).toNatClampNeg g) (M + 9) (J M 17).toNatClampNeg l) (M + 10) (J M 17).toNatClampNeg m) (M + 11) (J M 17).toNatClampNeg w) (M + 20) (J M 17).toNatClampNeg (-9)) (M + 21) (J M 17).toNatClampNeg (-9)) M 17 (J M 17 + 1)) (M + 12) (J M 17).toNatClampNeg p) (M + 13) (J M 17).toNatClampNeg q) (M + 14) (J M 17).toNatClampNeg r) (M + 15) (J M 17).toNatClampNeg s) (M + 16) (J M 17).toNatClampNeg x) (M + 17) (J M 17).toNatClampNeg y) M 12 0) := by
  have hk := rg_asks h
  generalize (J M 17).toNatClampNeg = a
  generalize ha1 : J M 17 + 1 = a1
  have ha2 : 0 ≤ a1 ∧ a1 ≤ 30 := by grind
  clear hk ha1
  unfold mR at h ⊢
  simp only [ui_ap, ne_MM, ne_M0, ne_0M, reduceCtorEq, Nat.reduceEqDiff, false_and, and_false, if_false, true_and, and_self, if_true] at h ⊢
  refine ⟨h.1, h.2.1, h.2.2.1, ?_, h.2.2.2.2.1, h.2.2.2.2.2.1, h.2.2.2.2.2.2.1, h.2.2.2.2.2.2.2.1, h.2.2.2.2.2.2.2.2.1, h.2.2.2.2.2.2.2.2.2.1, h.2.2.2.2.2.2.2.2.2.2.1, h.2.2.2.2.2.2.2.2.2.2.2.1, h.2.2.2.2.2.2.2.2.2.2.2.2.1, ?_, ?_, ?_, ?_, h.2.2.2.2.2.2.2.2.2.2.2.2.2.2.2.2.2.1, h.2.2.2.2.2.2.2.2.2.2.2.2.2.2.2.2.2.2.1, h.2.2.2.2.2.2.2.2.2.2.2.2.2.2.2.2.2.2.2.1, h.2.2.2.2.2.2.2.2.2.2.2.2.2.2.2.2.2.2.2.2.1, h.2.2.2.2.2.2.2.2.2.2.2.2.2.2.2.2.2.2.2.2.2.1, h.2.2.2.2.2.2.2.2.2.2.2.2.2.2.2.2.2.2.2.2.2.2.1, ?_⟩ <;> grind
theorem ask_F (h : mF M c I0 J) {k g l m w p q r s x y : Int32} (ha : J M 17 < 30) (hg : 0 ≤ g ∧ g ≤ 9) (hm : 0 ≤ m ∧ m ≤ 4) (hx : k = 1 → 0 ≤ x ∧ x ≤ 29) : mF M c I0 (a_ui (a_ui (a_ui (a_ui (a_ui (a_ui (a_ui (a_ui (a_ui (a_ui (a_ui (a_ui (a_ui (a_ui (a_ui J (M + 7) (J M 17).toNatClampNeg k) (M + 8) (J M 17).toNatClampNeg g) (M + 9) (J M 17).toNatClampNeg l) (M + 10) (J M 17).toNatClampNeg m) (M + 11) (J M 17).toNatClampNeg w) (M + 20) (J M 17).toNatClampNeg (-9)) (M + 21) (J M 17).toNatClampNeg (-9)) M 17 (J M 17 + 1)) (M + 12) (J M 17).toNatClampNeg p) (M + 13) (J M 17).toNatClampNeg q) (M + 14) (J M 17).toNatClampNeg r) (M + 15) (J M 17).toNatClampNeg s) (M + 16) (J M 17).toNatClampNeg x) (M + 17) (J M 17).toNatClampNeg y) M 12 0) := by
  have hk := rg_asks h.1.1
  refine ⟨⟨ask_R h.1.1 ha hg hm hx, ?_⟩, ?_⟩
  · repeat refine fr_ui ?_ (by unfold eC; omega)
    exact h.1.2
  · refine mE_add h.2 ?_ ?_ ?_ ?_ ?_ ⟨hk.1, ha⟩ ?_ ?_ ?_ ?_ <;> intros <;> simp only [ui_ap, ne_MM, ne_M0, ne_0M, reduceCtorEq, Nat.reduceEqDiff, false_and, and_false, if_false, true_and, and_self, if_true] <;> (try simp_all)
theorem add_F (h : mF M c I0 J) {g l m w : Int32} (ha : J M 17 < 30) (hg : 0 ≤ g ∧ g ≤ 9) (hm : 0 ≤ m ∧ m ≤ 4) : mF M c I0 (a_ui (a_ui (a_ui (a_ui (a_ui (a_ui (a_ui (a_ui J (M + 7) (J M 17).toNatClampNeg 5) (M + 8) (J M 17).toNatClampNeg g) (M + 9) (J M 17).toNatClampNeg l) (M + 10) (J M 17).toNatClampNeg m) (M + 11) (J M 17).toNatClampNeg w) (M + 20) (J M 17).toNatClampNeg (-9)) (M + 21) (J M 17).toNatClampNeg (-9)) M 17 (J M 17 + 1)) := by
  have hk := rg_asks h.1.1
  refine ⟨sG_asks (sG_atShift (sG_atBench (sG_wants (sG_length (sG_land (sG_group (sG_kind h.1 (by grind)) hg)) hm)) (by decide)) (by decide)) (by grind), ?_⟩
  refine mE_add h.2 ?_ ?_ ?_ ?_ ?_ ⟨hk.1, ha⟩ ?_ ?_ ?_ ?_ <;> intros <;> simp only [ui_ap, ne_MM, ne_M0, ne_0M, reduceCtorEq, Nat.reduceEqDiff, false_and, and_false, if_false, true_and, and_self, if_true] <;> (try simp_all)
theorem sp_add (hS : m_S M K L R) {k g l m w : Int32} (ha : 0 ≤ J M 17 ∧ J M 17 < 30) (hP : P (some (.int (J M 17))) (n, t, K, L, (a_ui (a_ui (a_ui (a_ui (a_ui (a_ui (a_ui (a_ui J (M + 7) (J M 17).toNatClampNeg k) (M + 8) (J M 17).toNatClampNeg g) (M + 9) (J M 17).toNatClampNeg l) (M + 10) (J M 17).toNatClampNeg m) (M + 11) (J M 17).toNatClampNeg w) (M + 20) (J M 17).toNatClampNeg (-9)) (M + 21) (J M 17).toNatClampNeg (-9)) M 17 (J M 17 + 1)), R)) : a_does (d + 1) 183 [a_rf M, .int k, .int g, .int l, .int m, .int w] (n, t, K, L, J, R) P := by
  rw [a_enter1 (M := a_m183) rfl (a_cat_rf (a_cat_int (a_cat_int (a_cat_int (a_cat_int (a_cat_int a_cat_nil)))))) (show 6 ≤ 7 by decide)]
  show a_at _ (a_xm a_m183) 0 [some (a_rf M), some (.int k), some (.int g), some (.int l), some (.int m), some (.int w), none] [] _ _
  simp only [q183_0, q183_1, q183_4, q183_6, q183_7, q183_10, q183_12, q183_13, q183_14, q183_15, q183_18, q183_20, q183_21, q183_22, q183_23, q183_26, q183_28, q183_29, q183_30, q183_31, q183_34, q183_36, q183_38, q183_39, q183_40, q183_43, q183_45, q183_47, q183_48, q183_49, q183_52, q183_54, q183_56, q183_57, q183_58, q183_61, q183_63, q183_65, q183_66, q183_67, q183_68, q183_71, q183_72, q183_73, q183_76, q183_78, m_0 hS, m_K hS, mR_kind hS, mK_kind hS, mL_kind hS, mR_group hS, mK_group hS, mL_group hS, mR_land hS, mK_land hS, mL_land hS, mR_length hS, mK_length hS, mL_length hS, mR_wants hS, mK_wants hS, mL_wants hS, mR_atBench hS, mK_atBench hS, mL_atBench hS, mR_atShift hS, mK_atShift hS, mL_atShift hS, as_nil, as_i, as_r, Nat.reduceAdd, Nat.reduceLeDiff, z_eq0, z_eq1, z_or, z_em, Classical.not_not, not_false_eq_true, not_true_eq_false, true_and, and_true, false_and, and_false, and_self, true_implies, false_implies, implies_true, Option.toList_some, Option.toList_none, List.cons_append, List.nil_append, Nat.add_eq_zero_iff, a_nl_i, a_nl_r, a_nl_n, true_or, or_true, eq_self, ok_4, ok_5, ok_6, ok_7, ok_9, ok_10, ok_20, ok_21, ok_24, ok_30, ok_48, ok_50, ok_60, ok_80, ok_120, ok_180, ok_192, ok_200, ok_900, ok_1000, ok_84000, ui_ap, ne_MM, ne_M0, ne_0M, Nat.reduceEqDiff, reduceIte, if_true, if_false]
  grind
theorem pu_ask (hS : m_S M K L R) (hF : mF M c I0 I) (hc : c + 130 ≤ 84000) {k p q r s x y : Int32} (hP : ∀ v J, mF M (c + 120) I0 J → P (some (.int v)) (n, t, K, L, J, R)) : a_does (d + 16) 181 [a_rf M, .int k, .int p, .int q, .int r, .int s, .int x, .int y] (n, t, K, L, I, R) P := by
  have hR := hF.1.1
  have g3 := mC_refl hR
  have hL4 : ∀ J, mF M (c + 4) I0 J → mF M (c + 120) I0 J := fun J h => mF_le h (by omega)
  have hL : ∀ J, mF M c I0 J → mF M (c + 120) I0 J := fun J h => mF_le h (by omega)
  have g1 := rg_asks hR
  have g4 := rg_draftGroup hR
  have g5 := rg_draftLong hR
  rw [a_enter1 (M := a_m181) rfl (a_cat_rf (a_cat_int (a_cat_int (a_cat_int (a_cat_int (a_cat_int (a_cat_int (a_cat_int a_cat_nil)))))))) (show 8 ≤ 9 by decide)]
  show a_at _ (a_xm a_m181) 0 [some (a_rf M), some (.int k), some (.int p), some (.int q), some (.int r), some (.int s), some (.int x), some (.int y), none] [] _ _
  have h167 : I M 17 < 30 → (k = 1 → 0 ≤ x ∧ x ≤ I M 17 - 1) → a_at (d + 15) (a_xm a_m181) 167 [some (a_rf M), some (.int k), some (.int p), some (.int q), some (.int r), some (.int s), some (.int x), some (.int y), none] [] (n, t, K, L, I, R) P := by
    intro q1 q2
    simp only [q181_167, q181_168, q181_169, q181_170, q181_173, q181_174, q181_177, q181_178, q181_181, q181_182, q181_185, m_0 hS, m_K hS, as_nil, as_i, as_r, Nat.reduceAdd, Nat.reduceLeDiff, z_eq0, z_eq1, z_or, z_em, Classical.not_not, not_false_eq_true, not_true_eq_false, true_and, and_true, false_and, and_false, and_self, true_implies, false_implies, implies_true, Option.toList_some, Option.toList_none, List.cons_append, List.nil_append, Nat.add_eq_zero_iff, a_nl_i, a_nl_r, a_nl_n, true_or, or_true, eq_self, ok_4, ok_5, ok_6, ok_7, ok_9, ok_10, ok_20, ok_21, ok_24, ok_30, ok_48, ok_50, ok_60, ok_80, ok_120, ok_180, ok_192, ok_200, ok_900, ok_1000, ok_84000]
    refine sp_add hS ⟨g1.1, q1⟩ ?_
    simp only [q181_188, q181_190, q181_191, q181_194, q181_196, q181_197, q181_198, q181_199, q181_202, q181_204, q181_205, q181_206, q181_207, q181_210, q181_212, q181_214, q181_215, q181_216, q181_219, q181_221, q181_223, q181_224, q181_225, q181_228, q181_230, q181_232, q181_233, q181_234, q181_237, q181_239, q181_241, q181_242, q181_243, q181_244, q181_247, q181_249, m_0 hS, m_K hS, mR_benchSet hS, mK_benchSet hS, mL_benchSet hS, mR_modeSet hS, mK_modeSet hS, mL_modeSet hS, mR_gear hS, mK_gear hS, mL_gear hS, mR_danger hS, mK_danger hS, mL_danger hS, mR_xOf hS, mK_xOf hS, mL_xOf hS, mR_yOf hS, mK_yOf hS, mL_yOf hS, as_nil, as_i, as_r, Nat.reduceAdd, Nat.reduceLeDiff, z_eq0, z_eq1, z_or, z_em, Classical.not_not, not_false_eq_true, not_true_eq_false, true_and, and_true, false_and, and_false, and_self, true_implies, false_implies, implies_true, Option.toList_some, Option.toList_none, List.cons_append, List.nil_append, Nat.add_eq_zero_iff, a_nl_i, a_nl_r, a_nl_n, true_or, or_true, eq_self, ok_4, ok_5, ok_6, ok_7, ok_9, ok_10, ok_20, ok_21, ok_24, ok_30, ok_48, ok_50, ok_60, ok_80, ok_120, ok_180, ok_192, ok_200, ok_900, ok_1000, ok_84000]
    repeat refine And.intro (by grind) ?_
    exact hP _ _ (hL _ (ask_F hF q1 g4 g5 (by grind)))
  repeat' first
    | with_reducible apply And.intro
    | with_reducible assumption
    | with_reducible intro _
    | with_reducible apply hP
    | with_reducible apply hL
    | with_reducible apply sF_refused
    | with_reducible apply h167
    | simp only [q181_0, q181_1, q181_4, q181_7, q181_8, q181_10, q181_13, q181_14, q181_15, q181_16, q181_17, q181_20, q181_23, q181_24, q181_26, q181_29, q181_30, q181_31, q181_34, q181_35, q181_38, q181_40, q181_43, q181_44, q181_45, q181_48, q181_50, q181_53, q181_54, q181_55, q181_58, q181_60, q181_63, q181_65, q181_67, q181_70, q181_71, q181_73, q181_76, q181_77, q181_78, q181_80, q181_83, q181_84, q181_86, q181_89, q181_91, q181_93, q181_96, q181_97, q181_98, q181_101, q181_103, q181_105, q181_108, q181_109, q181_110, q181_113, q181_115, q181_118, q181_121, q181_122, q181_125, q181_127, q181_130, q181_131, q181_133, q181_136, q181_137, q181_139, q181_140, q181_141, q181_144, q181_147, q181_148, q181_149, q181_152, q181_153, q181_155, q181_158, q181_161, q181_162, q181_163, q181_166, m_0 hS, m_K hS, sp_refuse_1 hS, sp_refuse_2 hS, sp_refuse_3 hS, sp_refuse_4 hS, sp_refuse_5 hS, sp_refuse_6 hS, sp_in, sp_isAsk hS, as_nil, as_i, as_r, Nat.reduceAdd, Nat.reduceLeDiff, z_eq0, z_eq1, z_or, z_em, Classical.not_not, not_false_eq_true, not_true_eq_false, true_and, and_true, false_and, and_false, and_self, true_implies, false_implies, implies_true, Option.toList_some, Option.toList_none, List.cons_append, List.nil_append, Nat.add_eq_zero_iff, a_nl_i, a_nl_r, a_nl_n, true_or, or_true, eq_self, ok_4, ok_5, ok_6, ok_7, ok_9, ok_10, ok_20, ok_21, ok_24, ok_30, ok_48, ok_50, ok_60, ok_80, ok_120, ok_180, ok_192, ok_200, ok_900, ok_1000, ok_84000]
  all_goals grind [ui_ap]
theorem pu_owe (hS : m_S M K L R) (hF : mF M c I0 I) (hc : c + 130 ≤ 84000) {a : Int32} (hP : ∀ v J, mF M (c + 120) I0 J → P (some (.int v)) (n, t, K, L, J, R)) : a_does (d + 16) 246 [a_rf M, .int a] (n, t, K, L, I, R) P := by
  have hR := hF.1.1
  have g3 := mC_refl hR
  have hL4 : ∀ J, mF M (c + 4) I0 J → mF M (c + 120) I0 J := fun J h => mF_le h (by omega)
  have hL : ∀ J, mF M c I0 J → mF M (c + 120) I0 J := fun J h => mF_le h (by omega)
  have g1 := rg_asks hR
  rw [a_enter1 (M := a_m246) rfl (a_cat_rf (a_cat_int a_cat_nil)) (show 2 ≤ 3 by decide)]
  show a_at _ (a_xm a_m246) 0 [some (a_rf M), some (.int a), none] [] _ _
  have h62 : ∀ J, mF M c I0 J → 0 ≤ a → a < 30 → ¬ J M 17 = 30 → a_at (d + 15) (a_xm a_m246) 62 [some (a_rf M), some (.int a), none] [] (n, t, K, L, J, R) P := by
    intro J hF q1 q2 q3
    have hR := hF.1.1
    have g1 := rg_asks hR
    simp only [q246_62, q246_63, q246_64, q246_65, q246_68, q246_69, q246_70, q246_71, q246_74, q246_75, q246_76, q246_77, q246_78, m_0 hS, m_K hS, mR_group hS, mK_group hS, mL_group hS, mR_land hS, mK_land hS, mL_land hS, as_nil, as_i, as_r, Nat.reduceAdd, Nat.reduceLeDiff, z_eq0, z_eq1, z_or, z_em, Classical.not_not, not_false_eq_true, not_true_eq_false, true_and, and_true, false_and, and_false, and_self, true_implies, false_implies, implies_true, Option.toList_some, Option.toList_none, List.cons_append, List.nil_append, Nat.add_eq_zero_iff, a_nl_i, a_nl_r, a_nl_n, true_or, or_true, eq_self, ok_4, ok_5, ok_6, ok_7, ok_9, ok_10, ok_20, ok_21, ok_24, ok_30, ok_48, ok_50, ok_60, ok_80, ok_120, ok_180, ok_192, ok_200, ok_900, ok_1000, ok_84000]
    repeat refine And.intro (by grind) ?_
    refine ct_owedOf hS (mC_refl hR) ⟨q1, q2⟩ (fun v J1 c1 z1 => ?_)
    have f1 := mF_C hF c1
    have e1 := eS_asks c1
    have e2 := rg_group hR a.toNatClampNeg
    have g6 := rg_asks f1.1.1
    simp only [q246_81, q246_82, q246_85, q246_86, q246_87, m_0 hS, m_K hS, mR_wants hS, mK_wants hS, mL_wants hS, as_nil, as_i, as_r, Nat.reduceAdd, Nat.reduceLeDiff, z_eq0, z_eq1, z_or, z_em, Classical.not_not, not_false_eq_true, not_true_eq_false, true_and, and_true, false_and, and_false, and_self, true_implies, false_implies, implies_true, Option.toList_some, Option.toList_none, List.cons_append, List.nil_append, Nat.add_eq_zero_iff, a_nl_i, a_nl_r, a_nl_n, true_or, or_true, eq_self, ok_4, ok_5, ok_6, ok_7, ok_9, ok_10, ok_20, ok_21, ok_24, ok_30, ok_48, ok_50, ok_60, ok_80, ok_120, ok_180, ok_192, ok_200, ok_900, ok_1000, ok_84000]
    repeat refine And.intro (by grind) ?_
    refine sp_add hS (by grind) ?_
    have f2 := add_F (l := J (M + 9) a.toNatClampNeg) (w := J1 (M + 11) a.toNatClampNeg) f1 (by grind) e2 z1
    revert f2
    generalize (a_ui (a_ui (a_ui (a_ui (a_ui (a_ui (a_ui (a_ui J1 (M + 7) (J1 M 17).toNatClampNeg 5) (M + 8) (J1 M 17).toNatClampNeg (J (M + 8) a.toNatClampNeg)) (M + 9) (J1 M 17).toNatClampNeg (J (M + 9) a.toNatClampNeg)) (M + 10) (J1 M 17).toNatClampNeg v) (M + 11) (J1 M 17).toNatClampNeg (J1 (M + 11) a.toNatClampNeg)) (M + 20) (J1 M 17).toNatClampNeg (-9)) (M + 21) (J1 M 17).toNatClampNeg (-9)) M 17 (J1 M 17 + 1)) = J2
    intro f2
    have g7 := rg_asks f2.1.1
    repeat' first
      | with_reducible apply And.intro
      | with_reducible assumption
      | with_reducible intro _
      | with_reducible apply hP
      | with_reducible apply hL
      | with_reducible apply sF_benchSet
      | with_reducible apply sF_modeSet
      | with_reducible apply sF_gear
      | with_reducible apply sF_danger
      | with_reducible apply sF_wasOwed
      | with_reducible apply sF_refused
      | simp only [q246_90, q246_91, q246_92, q246_95, q246_96, q246_97, q246_100, q246_101, q246_102, q246_103, q246_104, q246_107, q246_108, q246_109, q246_112, q246_113, q246_114, q246_115, q246_116, q246_119, q246_120, q246_121, q246_124, q246_125, q246_126, q246_127, q246_128, q246_131, q246_132, q246_133, q246_136, q246_137, q246_138, q246_139, q246_140, q246_143, q246_144, q246_145, q246_146, q246_147, m_0 hS, m_K hS, mR_benchSet hS, mK_benchSet hS, mL_benchSet hS, mR_modeSet hS, mK_modeSet hS, mL_modeSet hS, mR_gear hS, mK_gear hS, mL_gear hS, mR_danger hS, mK_danger hS, mL_danger hS, mR_wasOwed hS, mK_wasOwed hS, mL_wasOwed hS, as_nil, as_i, as_r, Nat.reduceAdd, Nat.reduceLeDiff, z_eq0, z_eq1, z_or, z_em, Classical.not_not, not_false_eq_true, not_true_eq_false, true_and, and_true, false_and, and_false, and_self, true_implies, false_implies, implies_true, Option.toList_some, Option.toList_none, List.cons_append, List.nil_append, Nat.add_eq_zero_iff, a_nl_i, a_nl_r, a_nl_n, true_or, or_true, eq_self, ok_4, ok_5, ok_6, ok_7, ok_9, ok_10, ok_20, ok_21, ok_24, ok_30, ok_48, ok_50, ok_60, ok_80, ok_120, ok_180, ok_192, ok_200, ok_900, ok_1000, ok_84000]
    all_goals grind [ui_ap]
  repeat' first
    | with_reducible apply And.intro
    | with_reducible assumption
    | with_reducible intro _
    | with_reducible apply hP
    | with_reducible apply hL
    | with_reducible apply sF_refused
    | with_reducible apply h62
    | with_reducible apply ct_lossOf hS
    | with_reducible apply mF_R
    | with_reducible apply ct_owedOf hS (mC_refl ?_)
    | with_reducible apply mF_C ?_ (by with_reducible assumption)
    | simp only [q246_0, q246_1, q246_2, q246_5, q246_8, q246_9, q246_10, q246_13, q246_14, q246_15, q246_18, q246_19, q246_20, q246_23, q246_24, q246_25, q246_28, q246_31, q246_32, q246_33, q246_36, q246_39, q246_40, q246_42, q246_45, q246_46, q246_47, q246_50, q246_52, q246_55, q246_56, q246_58, q246_61, m_0 hS, m_K hS, mR_wasOwed hS, mK_wasOwed hS, mL_wasOwed hS, sp_isAsk hS, sp_refuse_1 hS, sp_refuse_2 hS, sp_refuse_3 hS, sp_refuse_4 hS, sp_refuse_5 hS, sp_refuse_6 hS, as_nil, as_i, as_r, Nat.reduceAdd, Nat.reduceLeDiff, z_eq0, z_eq1, z_or, z_em, Classical.not_not, not_false_eq_true, not_true_eq_false, true_and, and_true, false_and, and_false, and_self, true_implies, false_implies, implies_true, Option.toList_some, Option.toList_none, List.cons_append, List.nil_append, Nat.add_eq_zero_iff, a_nl_i, a_nl_r, a_nl_n, true_or, or_true, eq_self, ok_4, ok_5, ok_6, ok_7, ok_9, ok_10, ok_20, ok_21, ok_24, ok_30, ok_48, ok_50, ok_60, ok_80, ok_120, ok_180, ok_192, ok_200, ok_900, ok_1000, ok_84000]
  all_goals grind [ui_ap]
end SD

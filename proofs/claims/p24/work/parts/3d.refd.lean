/-! public methods 3 -/
section SD
variable {d n t M c : Nat} {K L : Nat → Nat} {I I0 J J0 J1 J2 : Nat → Nat → Int32} {R : Nat → Nat → Nat} {P : Option Value → AH → Prop}
theorem mE_add (h : mE M c I) (h1 : J M 35 = I M 35) (h2 : ∀ j, J (M + 24) j = I (M + 24) j) (h3 : ∀ j, J (M + 25) j = I (M + 25) j) (h4 : J M 0 = I M 0) (h5 : J M 17 = I M 17 + 1) (hk : 0 ≤ I M 17 ∧ I M 17 < 30) (h6 : ∀ j, ¬ j = (I M 17).toNatClampNeg → J (M + 10) j = I (M + 10) j) (h7 : ∀ j, ¬ j = (I M 17).toNatClampNeg → J (M + 20) j = I (M + 20) j) (h8 : ∀ j, ¬ j = (I M 17).toNatClampNeg → J (M + 21) j = I (M + 21) j) (h9 : J (M + 20) (I M 17).toNatClampNeg = -9) : mE M c J := by
  obtain ⟨g, q1, q2⟩ := h
  refine ⟨g, ?_, by rw [h1]; exact q2⟩
  intro a ha hk2 hb
  by_cases he : a = I M 17
  · subst he; rw [h9] at hb; exact absurd hb (by decide)
  · have hne : ¬ a.toNatClampNeg = (I M 17).toNatClampNeg := fun q => he (cl_inj ha hk.1 q)
    rw [h7 _ hne] at hb
    cases q1 a ha (by grind) hb with
    | inl q => exact Or.inl (fun i i0 i1 => by rw [h6 _ hne] at i1; rw [fc_eq h1 h2 h3 h4, h7 _ hne, h8 _ hne]; exact q i i0 i1)
    | inr q => exact Or.inr q
theorem fr_ui (h : fr M I J) {x k : Nat} {v : Int32} (hx : ¬ eC M x k) : fr M I (a_ui J x k v) := fun y j hy => by
  rw [ui_ap, if_neg (fun q => hx (by rw [← q.1, ← q.2]; exact hy))]
  exact h y j hy
theorem ask_R (h : mR M J) {k g l m w p q r s x y : Int32} (ha : J M 17 < 30) (hg : 0 ≤ g ∧ g ≤ 9) (hm : 0 ≤ m ∧ m ≤ 4) (hx : k = 1 → 0 ≤ x ∧ x ≤ 29) : mR M (a_ui (a_ui (a_ui (a_ui (a_ui (a_ui (a_ui (a_ui (a_ui (a_ui (a_ui (a_ui (a_ui (a_ui (a_ui J (M + 7) (J M 17).toNatClampNeg k) (M + 8) (J M 17).toNatClampNeg g) (M + 9) (J M 17).toNatClampNeg l) (M + 10) (J M 17).toNatClampNeg m) (M + 11) (J M 17).toNatClampNeg w) (M + 20) (J M 17).toNatClampNeg (-9)) (M + 21) (J M 17).toNatClampNeg (-9)) M 17 (J M 17 + 1)) (M + 12) (J M 17).toNatClampNeg p) (M + 13) (J M 17).toNatClampNeg q) (M + 14) (J M 17).toNatClampNeg r) (M + 15) (J M 17).toNatClampNeg s) (M + 16) (J M 17).toNatClampNeg x) (M + 17) (J M 17).toNatClampNeg y) M 12 0) := by
  have hk := rg_asks h
  generalize (J M 17).toNatClampNeg = a
  generalize ha1 : J M 17 + 1 = a1
  have ha2 : 0 ≤ a1 ∧ a1 ≤ 30 := by grind
  clear hk ha1
  unfold mR at h ⊢
  simp only [ui_ap, ne_MM, ne_M0, ne_0M, reduceCtorEq, Nat.reduceEqDiff, false_and, and_false, if_false, true_and, and_self, if_true] at h ⊢
  refine ⟨h.1, h.2.1, h.2.2.1, ?_, h.2.2.2.2.1, h.2.2.2.2.2.1, h.2.2.2.2.2.2.1, h.2.2.2.2.2.2.2.1, h.2.2.2.2.2.2.2.2.1, h.2.2.2.2.2.2.2.2.2.1, h.2.2.2.2.2.2.2.2.2.2.1, h.2.2.2.2.2.2.2.2.2.2.2.1, h.2.2.2.2.2.2.2.2.2.2.2.2.1, ?_, ?_, ?_, ?_, h.2.2.2.2.2.2.2.2.2.2.2.2.2.2.2.2.2.1, h.2.2.2.2.2.2.2.2.2.2.2.2.2.2.2.2.2.2.1, h.2.2.2.2.2.2.2.2.2.2.2.2.2.2.2.2.2.2.2.1, h.2.2.2.2.2.2.2.2.2.2.2.2.2.2.2.2.2.2.2.2.1, h.2.2.2.2.2.2.2.2.2.2.2.2.2.2.2.2.2.2.2.2.2.1, h.2.2.2.2.2.2.2.2.2.2.2.2.2.2.2.2.2.2.2.2.2.2.1, ?_⟩ <;> grind
theorem ask_F (h : mF M c I0 J) {k g l m w p q r s x y : Int32} (ha : J M 17 < 30) (hg : 0 ≤ g ∧ g ≤ 9) (hm : 0 ≤ m ∧ m ≤ 4) (hx : k = 1 → 0 ≤ x ∧ x ≤ 29) : mF M c I0 (a_ui (a_ui (a_ui (a_ui (a_ui (a_ui (a_ui (a_ui (a_ui (a_ui (a_ui (a_ui (a_ui (a_ui (a_ui J (M + 7) (J M 17).toNatClampNeg k) (M + 8) (J M 17).toNatClampNeg g) (M + 9) (J M 17).toNatClampNeg l) (M + 10) (J M 17).toNatClampNeg m) (M + 11) (J M 17).toNatClampNeg w) (M + 20) (J M 17).toNatClampNeg (-9)) (M + 21) (J M 17).toNatClampNeg (-9)) M 17 (J M 17 + 1)) (M + 12) (J M 17).toNatClampNeg p) (M + 13) (J M 17).toNatClampNeg q) (M + 14) (J M 17).toNatClampNeg r) (M + 15) (J M 17).toNatClampNeg s) (M + 16) (J M 17).toNatClampNeg x) (M + 17) (J M 17).toNatClampNeg y) M 12 0) := by
  have hk := rg_asks h.1.1
  refine ⟨⟨ask_R h.1.1 ha hg hm hx, ?_⟩, ?_⟩
  · repeat refine fr_ui ?_ (by unfold eC; omega)
    exact h.1.2
  · refine mE_add h.2 ?_ ?_ ?_ ?_ ?_ ⟨hk.1, ha⟩ ?_ ?_ ?_ ?_ <;> intros <;> simp only [ui_ap, ne_MM, ne_M0, ne_0M, reduceCtorEq, Nat.reduceEqDiff, false_and, and_false, if_false, true_and, and_self, if_true] <;> (try simp_all)
theorem add_F (h : mF M c I0 J) {g l m w : Int32} (ha : J M 17 < 30) (hg : 0 ≤ g ∧ g ≤ 9) (hm : 0 ≤ m ∧ m ≤ 4) : mF M c I0 (a_ui (a_ui (a_ui (a_ui (a_ui (a_ui (a_ui (a_ui J (M + 7) (J M 17).toNatClampNeg 5) (M + 8) (J M 17).toNatClampNeg g) (M + 9) (J M 17).toNatClampNeg l) (M + 10) (J M 17).toNatClampNeg m) (M + 11) (J M 17).toNatClampNeg w) (M + 20) (J M 17).toNatClampNeg (-9)) (M + 21) (J M 17).toNatClampNeg (-9)) M 17 (J M 17 + 1)) := by
  have hk := rg_asks h.1.1
  refine ⟨sG_asks (sG_atShift (sG_atBench (sG_wants (sG_length (sG_land (sG_group (sG_kind h.1 (by grind)) hg)) hm)) (by decide)) (by decide)) (by grind), ?_⟩
  refine mE_add h.2 ?_ ?_ ?_ ?_ ?_ ⟨hk.1, ha⟩ ?_ ?_ ?_ ?_ <;> intros <;> simp only [ui_ap, ne_MM, ne_M0, ne_0M, reduceCtorEq, Nat.reduceEqDiff, false_and, and_false, if_false, true_and, and_self, if_true] <;> (try simp_all)
theorem sp_add (hS : m_S M K L R) {k g l m w : Int32} (ha : 0 ≤ J M 17 ∧ J M 17 < 30) (hP : P (some (.int (J M 17))) (n, t, K, L, (a_ui (a_ui (a_ui (a_ui (a_ui (a_ui (a_ui (a_ui J (M + 7) (J M 17).toNatClampNeg k) (M + 8) (J M 17).toNatClampNeg g) (M + 9) (J M 17).toNatClampNeg l) (M + 10) (J M 17).toNatClampNeg m) (M + 11) (J M 17).toNatClampNeg w) (M + 20) (J M 17).toNatClampNeg (-9)) (M + 21) (J M 17).toNatClampNeg (-9)) M 17 (J M 17 + 1)), R)) : a_does (d + 1) 183 [a_rf M, .int k, .int g, .int l, .int m, .int w] (n, t, K, L, J, R) P := by
  rw [a_enter1 (M := a_m183) rfl (a_cat_rf (a_cat_int (a_cat_int (a_cat_int (a_cat_int (a_cat_int a_cat_nil)))))) (show 6 ≤ 7 by decide)]
  show a_at _ (a_xm a_m183) 0 [some (a_rf M), some (.int k), some (.int g), some (.int l), some (.int m), some (.int w), none] [] _ _
  simp only [q183_0, q183_1, q183_4, q183_6, q183_7, q183_10, q183_12, q183_13, q183_14, q183_15, q183_18, q183_20, q183_21, q183_22, q183_23, q183_26, q183_28, q183_29, q183_30, q183_31, q183_34, q183_36, q183_38, q183_39, q183_40, q183_43, q183_45, q183_47, q183_48, q183_49, q183_52, q183_54, q183_56, q183_57, q183_58, q183_61, q183_63, q183_65, q183_66, q183_67, q183_68, q183_71, q183_72, q183_73, q183_76, q183_78, m_0 hS, m_K hS, mR_kind hS, mK_kind hS, mL_kind hS, mR_group hS, mK_group hS, mL_group hS, mR_land hS, mK_land hS, mL_land hS, mR_length hS, mK_length hS, mL_length hS, mR_wants hS, mK_wants hS, mL_wants hS, mR_atBench hS, mK_atBench hS, mL_atBench hS, mR_atShift hS, mK_atShift hS, mL_atShift hS, as_nil, as_i, as_r, Nat.reduceAdd, Nat.reduceLeDiff, z_eq0, z_eq1, z_or, z_em, Classical.not_not, not_false_eq_true, not_true_eq_false, true_and, and_true, false_and, and_false, and_self, true_implies, false_implies, implies_true, Option.toList_some, Option.toList_none, List.cons_append, List.nil_append, Nat.add_eq_zero_iff, a_nl_i, a_nl_r, a_nl_n, true_or, or_true, eq_self, ok_4, ok_5, ok_6, ok_7, ok_9, ok_10, ok_20, ok_21, ok_24, ok_30, ok_48, ok_50, ok_60, ok_80, ok_120, ok_180, ok_192, ok_200, ok_900, ok_1000, ok_84000, ui_ap, ne_MM, ne_M0, ne_0M, Nat.reduceEqDiff, reduceIte, if_true, if_false]
  grind
end SD

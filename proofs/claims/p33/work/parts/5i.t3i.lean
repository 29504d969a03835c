/-! the reference: facts, what holds at a place -/
section YI
variable {d n t M : Nat} {K L : Nat → Nat} {I I0 J J0 J1 J2 : Nat → Nat → Int32} {R : Nat → Nat → Nat} {P : Option Value → AH → Prop} {f : Nat → Int32} {e : Int32}
theorem cmY_eq {Y Y2 : Nat → Nat → Int32} (h1 : ∀ k, Y2 38 k = Y 38 k) (h2 : ∀ k, Y2 36 k = Y 36 k) : cmY Y2 = cmY Y := by
  funext r a
  unfold cmY
  rw [h1, h2]
theorem mkP_C (h : mkP (yv M I0)) (hC : mC M I0 I) : mkP (yv M I) := fun k q => by
  have e1 : yv M I 38 k = (yv M I0) 38 k := hC.2 _ _ (by unfold sC; omega)
  have e2 : yv M I 36 k = (yv M I0) 36 k := hC.2 _ _ (by unfold sC; omega)
  rw [e2]
  rw [e1] at q
  exact h k q
theorem cmY_C (hC : mC M I0 I) : cmY (yv M I) = cmY (yv M I0) := cmY_eq (fun k => hC.2 _ _ (by unfold sC; omega)) (fun k => hC.2 _ _ (by unfold sC; omega))
theorem hsY_C (hC : mC M I0 I) : hsY (yv M I) = hsY (yv M I0) := by
  have e1 : yv M I 0 11 = (yv M I0) 0 11 := hC.2 _ _ (by unfold sC; omega)
  have e2 : yv M I 0 17 = (yv M I0) 0 17 := hC.2 _ _ (by unfold sC; omega)
  funext r
  unfold hsY
  rw [e1, e2, cmY_C hC]
theorem xt_markForC (hS : m_S M K L R) (hC : mC M I0 I) (hm : mkP (yv M I0)) {a : Int32} (ha : 0 ≤ a ∧ a < 30) (hP : P (some (.int (mkY (cmY (yv M I0)) (hsY (yv M I0)) a))) (n, t, K, L, I, R)) : a_does (d + 2) 193 [a_rf M, .int a] (n, t, K, L, I, R) P := by
  refine xt_markFor hS hC.1 (mkP_C hm hC) ha ?_
  rw [cmY_C hC, hsY_C hC]
  exact hP
theorem xt_findFacts (hS : m_S M K L R) (hC : mC M I0 I) (hm : mkP (yv M I0)) {a b s l : Int32} (ha : 0 ≤ a ∧ a < 30) (hP : ∀ J, mC M I0 J → eq9 (J (M + 32)) (fcY (yv M I0) a.toNatClampNeg (mkY (cmY (yv M I0)) (hsY (yv M I0)) a) b s l) → P none (n, t, K, L, J, R)) : a_does (d + 3) 192 [a_rf M, .int a, .int b, .int s, .int l] (n, t, K, L, I, R) P := by
  have e7 : I (M + 7) a.toNatClampNeg = (yv M I0) 7 a.toNatClampNeg := hC.2 _ _ (by unfold sC; omega)
  have e8 : I (M + 8) a.toNatClampNeg = (yv M I0) 8 a.toNatClampNeg := hC.2 _ _ (by unfold sC; omega)
  have e9 : I (M + 9) a.toNatClampNeg = (yv M I0) 9 a.toNatClampNeg := hC.2 _ _ (by unfold sC; omega)
  have e10 : I (M + 10) a.toNatClampNeg = (yv M I0) 10 a.toNatClampNeg := hC.2 _ _ (by unfold sC; omega)
  have e15 : I (M + 15) a.toNatClampNeg = (yv M I0) 15 a.toNatClampNeg := hC.2 _ _ (by unfold sC; omega)
  have hfin : ∀ v, v = (if (mkY (cmY (yv M I0)) (hsY (yv M I0)) a) < 0 then 0 else (mkY (cmY (yv M I0)) (hsY (yv M I0)) a)) → P none (n, t, K, L, (a_ui (a_ui (a_ui (a_ui (a_ui (a_ui (a_ui (a_ui (a_ui I (M + 32) 0 (I (M + 7) a.toNatClampNeg)) (M + 32) 1 (I (M + 8) a.toNatClampNeg)) (M + 32) 2 (I (M + 9) a.toNatClampNeg)) (M + 32) 3 (I (M + 10) a.toNatClampNeg)) (M + 32) 4 (I (M + 15) a.toNatClampNeg)) (M + 32) 5 v) (M + 32) 6 s) (M + 32) 7 b) (M + 32) 8 l), R) := fun v hv => by
    refine hP _ (sC_facts (sC_facts (sC_facts (sC_facts (sC_facts (sC_facts (sC_facts (sC_facts (sC_facts hC))))))))) (fun j hj => ?_)
    rw [e7, e8, e9, e10, e15, hv]
    have hc : j = 0 ∨ j = 1 ∨ j = 2 ∨ j = 3 ∨ j = 4 ∨ j = 5 ∨ j = 6 ∨ j = 7 ∨ j = 8 := by omega
    clear hP hv hm e7 e8 e9 e10 e15
    rcases hc with rfl | rfl | rfl | rfl | rfl | rfl | rfl | rfl | rfl <;> simp only [ui_ap, fcY] <;> simp
  have hC5 : mC M I0 (a_ui (a_ui (a_ui (a_ui (a_ui I (M + 32) 0 (I (M + 7) a.toNatClampNeg)) (M + 32) 1 (I (M + 8) a.toNatClampNeg)) (M + 32) 2 (I (M + 9) a.toNatClampNeg)) (M + 32) 3 (I (M + 10) a.toNatClampNeg)) (M + 32) 4 (I (M + 15) a.toNatClampNeg)) := sC_facts (sC_facts (sC_facts (sC_facts (sC_facts hC))))
  clear hP e7 e8 e9 e10 e15
  rw [a_enter1 (M := a_m192) rfl (a_cat_rf (a_cat_int (a_cat_int (a_cat_int (a_cat_int a_cat_nil))))) (show 5 ≤ 5 by decide)]
  show a_at _ (a_xm a_m192) 0 [some (a_rf M), some (.int a), some (.int b), some (.int s), some (.int l)] [] _ _
  simp only [q192_0, q192_1, q192_4, q192_5, q192_6, q192_9, q192_10, q192_11, q192_12, q192_13, q192_16, q192_17, q192_18, q192_21, q192_22, q192_23, q192_24, q192_25, q192_28, q192_29, q192_30, q192_33, q192_34, q192_35, q192_36, q192_37, q192_40, q192_41, q192_42, q192_45, q192_46, q192_47, q192_48, q192_49, q192_52, q192_53, q192_54, q192_57, q192_58, q192_59, q192_60, q192_61, q192_64, q192_65, q192_66, q192_67, m_0 hS, m_K hS, mR_facts hS, mK_facts hS, mL_facts hS, mR_kind hS, mK_kind hS, mL_kind hS, mR_group hS, mK_group hS, mL_group hS, mR_land hS, mK_land hS, mL_land hS, mR_length hS, mK_length hS, mL_length hS, mR_danger hS, mK_danger hS, mL_danger hS, as_nil, as_i, as_r, Nat.reduceAdd, Nat.reduceLeDiff, z_eq0, z_eq1, z_or, z_em, Classical.not_not, not_false_eq_true, not_true_eq_false, true_and, and_true, false_and, and_false, and_self, true_implies, false_implies, implies_true, Option.toList_some, Option.toList_none, List.cons_append, List.nil_append, Nat.add_eq_zero_iff, a_nl_i, a_nl_r, a_nl_n, true_or, or_true, eq_self, ok_4, ok_5, ok_6, ok_7, ok_9, ok_10, ok_20, ok_21, ok_24, ok_30, ok_48, ok_50, ok_60, ok_80, ok_120, ok_180, ok_192, ok_200, ok_900, ok_1000, ok_84000, ui_ap, ne_MM, ne_M0, ne_0M, Nat.reduceEqDiff, reduceIte, if_true, if_false, ha, cn_0, cn_1, cn_2, cn_3, cn_4]
  try simp only [true_and, and_true, true_implies, false_implies, implies_true, not_true_eq_false, not_false_eq_true]
  refine ⟨by decide, by decide, by decide, by decide, by decide, ?_⟩
  refine xt_markForC (d := d) hS hC5 hm ha ?_
  by_cases c : (mkY (cmY (yv M I0)) (hsY (yv M I0)) a) < 0
  · have hf := hfin 0 (by rw [if_pos c])
    have c' := Int32.not_le.mpr c
    clear hfin hC5 hm
    simp only [q192_70, q192_73, q192_74, q192_82, q192_83, q192_84, q192_87, q192_89, q192_90, q192_91, q192_92, q192_95, q192_97, q192_98, q192_99, q192_100, q192_103, q192_105, q192_107, q192_108, m_0 hS, m_K hS, mR_facts hS, mK_facts hS, mL_facts hS, as_nil, as_i, as_r, Nat.reduceAdd, Nat.reduceLeDiff, z_eq0, z_eq1, z_or, z_em, Classical.not_not, not_false_eq_true, not_true_eq_false, true_and, and_true, false_and, and_false, and_self, true_implies, false_implies, implies_true, Option.toList_some, Option.toList_none, List.cons_append, List.nil_append, Nat.add_eq_zero_iff, a_nl_i, a_nl_r, a_nl_n, true_or, or_true, eq_self, ok_4, ok_5, ok_6, ok_7, ok_9, ok_10, ok_20, ok_21, ok_24, ok_30, ok_48, ok_50, ok_60, ok_80, ok_120, ok_180, ok_192, ok_200, ok_900, ok_1000, ok_84000, ui_ap, ne_MM, ne_M0, ne_0M, Nat.reduceEqDiff, reduceIte, if_true, if_false, c, c', cn_5, cn_6, cn_7, cn_8]
    first
      | exact hf
      | exact ⟨by decide, by decide, by decide, by decide, hf⟩
      | grind
  · have hf := hfin (mkY (cmY (yv M I0)) (hsY (yv M I0)) a) (by rw [if_neg c])
    have c' := Int32.not_lt.mp c
    clear hfin
    simp only [q192_70, q192_77, q192_78, q192_79, m_0 hS, m_K hS, as_nil, as_i, as_r, Nat.reduceAdd, Nat.reduceLeDiff, z_eq0, z_eq1, z_or, z_em, Classical.not_not, not_false_eq_true, not_true_eq_false, true_and, and_true, false_and, and_false, and_self, true_implies, false_implies, implies_true, Option.toList_some, Option.toList_none, List.cons_append, List.nil_append, Nat.add_eq_zero_iff, a_nl_i, a_nl_r, a_nl_n, true_or, or_true, eq_self, ok_4, ok_5, ok_6, ok_7, ok_9, ok_10, ok_20, ok_21, ok_24, ok_30, ok_48, ok_50, ok_60, ok_80, ok_120, ok_180, ok_192, ok_200, ok_900, ok_1000, ok_84000, ui_ap, ne_MM, ne_M0, ne_0M, Nat.reduceEqDiff, reduceIte, if_true, if_false, c, c']
    try simp only [true_and, and_true, true_implies, false_implies, implies_true, not_true_eq_false, not_false_eq_true]
    refine xt_markForC (d := d) hS hC5 hm ha ?_
    clear hC5 hm
    simp only [q192_82, q192_83, q192_84, q192_87, q192_89, q192_90, q192_91, q192_92, q192_95, q192_97, q192_98, q192_99, q192_100, q192_103, q192_105, q192_107, q192_108, m_0 hS, m_K hS, mR_facts hS, mK_facts hS, mL_facts hS, as_nil, as_i, as_r, Nat.reduceAdd, Nat.reduceLeDiff, z_eq0, z_eq1, z_or, z_em, Classical.not_not, not_false_eq_true, not_true_eq_false, true_and, and_true, false_and, and_false, and_self, true_implies, false_implies, implies_true, Option.toList_some, Option.toList_none, List.cons_append, List.nil_append, Nat.add_eq_zero_iff, a_nl_i, a_nl_r, a_nl_n, true_or, or_true, eq_self, ok_4, ok_5, ok_6, ok_7, ok_9, ok_10, ok_20, ok_21, ok_24, ok_30, ok_48, ok_50, ok_60, ok_80, ok_120, ok_180, ok_192, ok_200, ok_900, ok_1000, ok_84000, ui_ap, ne_MM, ne_M0, ne_0M, Nat.reduceEqDiff, reduceIte, if_true, if_false, cn_5, cn_6, cn_7, cn_8]
    first
      | exact hf
      | exact ⟨by decide, by decide, by decide, by decide, hf⟩
      | grind
theorem xt_holding (hS : m_S M K L R) (hC : mC M I0 I) (hm : mkP (yv M I0)) (hts : tsY (yv M I0)) {g a b s : Int32} (hg : ¬ g = 79) (ha : 0 ≤ a ∧ a < 30) (hP : ∀ J, mC M I0 J → P (some (.int (hgY (yv M I0) g s (fcY (yv M I0) a.toNatClampNeg (mkY (cmY (yv M I0)) (hsY (yv M I0)) a) b s 0) ((yv M I0) 0 41).toNatClampNeg 0))) (n, t, K, L, J, R)) : a_does (d + 7) 210 [a_rf M, .int g, .int a, .int b, .int s] (n, t, K, L, I, R) P := by
  have gt := rg_texts hC.1
  have et : I M 41 = (yv M I0) 0 41 := hC.2 _ _ (by unfold sC; omega)
  rw [et] at gt
  rw [a_enter1 (M := a_m210) rfl (a_cat_rf (a_cat_int (a_cat_int (a_cat_int (a_cat_int a_cat_nil))))) (show 5 ≤ 6 by decide)]
  show a_at _ (a_xm a_m210) 0 [some (a_rf M), some (.int g), some (.int a), some (.int b), some (.int s), none] [] _ _
  simp only [q210_0, q210_1, q210_2, q210_3, q210_5, q210_6, m_0 hS, m_K hS, as_nil, as_i, as_r, Nat.reduceAdd, Nat.reduceLeDiff, z_eq0, z_eq1, z_or, z_em, Classical.not_not, not_false_eq_true, not_true_eq_false, true_and, and_true, false_and, and_false, and_self, true_implies, false_implies, implies_true, Option.toList_some, Option.toList_none, List.cons_append, List.nil_append, Nat.add_eq_zero_iff, a_nl_i, a_nl_r, a_nl_n, true_or, or_true, eq_self, ok_4, ok_5, ok_6, ok_7, ok_9, ok_10, ok_20, ok_21, ok_24, ok_30, ok_48, ok_50, ok_60, ok_80, ok_120, ok_180, ok_192, ok_200, ok_900, ok_1000, ok_84000]
  refine xt_findFacts (d := d + 3) hS hC hm ha (fun J m1 m2 => ?_)
  have hv : hgY (yv M I0) g s (J (M + 32)) ((yv M I0) 0 41).toNatClampNeg 0 = hgY (yv M I0) g s (fcY (yv M I0) a.toNatClampNeg (mkY (cmY (yv M I0)) (hsY (yv M I0)) a) b s 0) ((yv M I0) 0 41).toNatClampNeg 0 := hgY_q m2 _ _
  have hl := xt_holding_12 (d := d) (n := n) (t := t) (P := P) (g := g) (a := a) (b := b) (s := s) hS hts hg (fc := J (M + 32)) (fun J2 q _ => hP J2 q) 0 (by decide) J (by decide) gt.1 m1 (fun _ => rfl) (by rw [show (0 : Int32).toNatClampNeg = 0 from rfl, Nat.sub_zero, hv])
  clear hP m1 m2 hv hts hm
  simp only [q210_9, q210_10, as_nil, as_i, as_r, Nat.reduceAdd, Nat.reduceLeDiff, z_eq0, z_eq1, z_or, z_em, Classical.not_not, not_false_eq_true, not_true_eq_false, true_and, and_true, false_and, and_false, and_self, true_implies, false_implies, implies_true, Option.toList_some, Option.toList_none, List.cons_append, List.nil_append, Nat.add_eq_zero_iff, a_nl_i, a_nl_r, a_nl_n, true_or, or_true, eq_self, ok_4, ok_5, ok_6, ok_7, ok_9, ok_10, ok_20, ok_21, ok_24, ok_30, ok_48, ok_50, ok_60, ok_80, ok_120, ok_180, ok_192, ok_200, ok_900, ok_1000, ok_84000]
  exact hl
end YI
/-! rings -/
section SI
variable {d n t M c : Nat} {K L : Nat → Nat} {I I0 J J0 J1 J2 : Nat → Nat → Int32} {R : Nat → Nat → Nat} {P : Option Value → AH → Prop}
/-- one of the ring -/
def rK (M : Nat) (m : Int32) (I : Nat → Nat → Int32) (j : Nat) : Prop := ∃ k : Int32, 0 ≤ k ∧ k < m ∧ j = (I (M + 48) k.toNatClampNeg).toNatClampNeg
def rF (M : Nat) (m : Int32) (I J : Nat → Nat → Int32) : Prop := ∀ x j, ¬ sC M x j → ¬ x = (M + 22) → ¬ x = (M + 49) → ¬ x = (M + 50) → ¬ x = (M + 51) → ¬ ((x = (M + 20) ∨ x = (M + 21)) ∧ rK M m I j) → J x j = I x j
def rQ (M : Nat) (I J : Nat → Nat → Int32) : Prop := mR M J ∧ ∀ x j, ¬ sC M x j → ¬ x = (M + 22) → ¬ x = (M + 49) → ¬ x = (M + 50) → ¬ x = (M + 51) → J x j = I x j
def rS (M : Nat) (m : Int32) (I J : Nat → Nat → Int32) (p q : Int32) : Prop := mR M J ∧ rF M m I J ∧ (∀ k : Int32, 0 ≤ k → k < p → J (M + 49) k.toNatClampNeg = I (M + 20) (I (M + 48) k.toNatClampNeg).toNatClampNeg ∧ J (M + 50) k.toNatClampNeg = I (M + 21) (I (M + 48) k.toNatClampNeg).toNatClampNeg) ∧ (∀ k : Int32, q ≤ k → k < m → J (M + 20) (I (M + 48) k.toNatClampNeg).toNatClampNeg = I (M + 20) (I (M + 48) k.toNatClampNeg).toNatClampNeg ∧ J (M + 21) (I (M + 48) k.toNatClampNeg).toNatClampNeg = I (M + 21) (I (M + 48) k.toNatClampNeg).toNatClampNeg)
/-- all is kept, the first i are where they stood -/
def rV (M : Nat) (m : Int32) (I J : Nat → Nat → Int32) (i : Int32) : Prop := mR M J ∧ rF M m I J ∧ (∀ k : Int32, 0 ≤ k → k < m → J (M + 49) k.toNatClampNeg = I (M + 20) (I (M + 48) k.toNatClampNeg).toNatClampNeg ∧ J (M + 50) k.toNatClampNeg = I (M + 21) (I (M + 48) k.toNatClampNeg).toNatClampNeg) ∧ (∀ k : Int32, 0 ≤ k → k < i → J (M + 20) (I (M + 48) k.toNatClampNeg).toNatClampNeg = I (M + 20) (I (M + 48) k.toNatClampNeg).toNatClampNeg ∧ J (M + 21) (I (M + 48) k.toNatClampNeg).toNatClampNeg = I (M + 21) (I (M + 48) k.toNatClampNeg).toNatClampNeg)
theorem rF_ra {m : Int32} (h : rF M m I J) (j : Nat) : J (M + 48) j = I (M + 48) j := h _ _ (by unfold sC; omega) (by omega) (by omega) (by omega) (by omega) (by omega)
theorem rF_ui {m : Int32} (h : rF M m I J) {x k : Nat} {v : Int32} (hx : x = (M + 22) ∨ x = (M + 49) ∨ x = (M + 50) ∨ x = (M + 51) ∨ ((x = (M + 20) ∨ x = (M + 21)) ∧ rK M m I k)) : rF M m I (a_ui J x k v) := fun y j h1 h2 h3 h4 h5 h6 => by
  rw [ui_ap, if_neg (fun q => by
    rcases hx with hx | hx | hx | hx | hx
    · exact h2 (q.1.trans hx)
    · exact h3 (q.1.trans hx)
    · exact h4 (q.1.trans hx)
    · exact h5 (q.1.trans hx)
    · exact h6 (by rw [q.1, q.2]; exact hx))]
  exact h y j h1 h2 h3 h4 h5 h6
theorem rS_os {m p q : Int32} (h : rS M m I J p q) {k : Nat} {v : Int32} : rS M m I (a_ui J (M + 51) k v) p q := ⟨sR_oldStanding h.1, rF_ui h.2.1 (by omega), by simpa [ui_ap] using h.2.2.1, by simpa [ui_ap] using h.2.2.2⟩
theorem rV_st {m i : Int32} (h : rV M m I J i) {k : Nat} {v : Int32} : rV M m I (a_ui J (M + 22) k v) i := ⟨sR_standing h.1, rF_ui h.2.1 (by omega), by simpa [ui_ap] using h.2.2.1, by simpa [ui_ap] using h.2.2.2⟩
theorem lp_ringFits_41 (hS : m_S M K L R) {m i a p q : Int32} (ha : 0 ≤ a ∧ a ≤ 29) (hi : 0 ≤ i ∧ i ≤ 4) (hN : ∀ J, rS M m I J p q → a_at d (a_xm a_m254) 75 [some (a_rf M), some (.int m), some (.int i), some (.int a), some (.int 4), none] [] (n, t, K, L, J, R) P) : ∀ o : Int32, o ≤ 4 → ∀ J, 0 ≤ o → rS M m I J p q → a_at d (a_xm a_m254) 41 [some (a_rf M), some (.int m), some (.int i), some (.int a), some (.int o), none] [] (n, t, K, L, J, R) P := by
  refine up_ind 4 (fun o ho ih => ?_)
  intro J h0 h
  rw [q254_41]
  simp only [q254_43, q254_44, q254_47, q254_48, q254_51, q254_52, q254_53, q254_54, q254_56, q254_57, q254_58, q254_61, q254_62, q254_63, q254_64, q254_66, q254_67, q254_68, q254_69, q254_72, m_0 hS, m_K hS, mR_oldStanding hS, mK_oldStanding hS, mL_oldStanding hS, mR_standing hS, mK_standing hS, mL_standing hS, as_nil, as_i, as_r, Nat.reduceAdd, Nat.reduceLeDiff, z_eq0, z_eq1, z_or, z_em, Classical.not_not, not_false_eq_true, not_true_eq_false, true_and, and_true, false_and, and_false, and_self, true_implies, false_implies, implies_true, Option.toList_some, Option.toList_none, List.cons_append, List.nil_append, Nat.add_eq_zero_iff, a_nl_i, a_nl_r, a_nl_n, true_or, or_true, eq_self, ok_4, ok_5, ok_6, ok_7, ok_9, ok_10, ok_20, ok_21, ok_24, ok_30, ok_48, ok_50, ok_60, ok_80, ok_120, ok_180, ok_192, ok_200, ok_900, ok_1000, ok_84000]
  refine ⟨fun h1 => ?_, fun h1 => ?_⟩
  · rw [show o = 4 by grind]
    exact hN J h
  · repeat refine And.intro (by grind) ?_
    exact ih (by grind) _ (by grind) (rS_os h)
theorem lp_ringFits_2 (hS : m_S M K L R) {m : Int32} (hm : 0 ≤ m ∧ m ≤ 5) (hq : ∀ k : Int32, 0 ≤ k → k < m → (0 ≤ I (M + 48) k.toNatClampNeg ∧ I (M + 48) k.toNatClampNeg ≤ 29) ∧ 0 ≤ I (M + 20) (I (M + 48) k.toNatClampNeg).toNatClampNeg) (hd : ∀ k l : Int32, 0 ≤ k → k < m → 0 ≤ l → l < m → (I (M + 48) k.toNatClampNeg).toNatClampNeg = (I (M + 48) l.toNatClampNeg).toNatClampNeg → k = l) (hN : ∀ J a o, rV M m I J 0 → a_at d (a_xm a_m254) 97 [some (a_rf M), some (.int m), some (.int m), a, o, none] [] (n, t, K, L, J, R) P) : ∀ i : Int32, i ≤ 5 → ∀ J a o, 0 ≤ i → i ≤ m → rS M m I J i i → a_at d (a_xm a_m254) 2 [some (a_rf M), some (.int m), some (.int i), a, o, none] [] (n, t, K, L, J, R) P := by
  refine up_ind 5 (fun i hi ih => ?_)
  intro J a o h0 him h
  obtain ⟨h1, h2, h3, h4⟩ := id h
  have er := rF_ra h2
  rw [q254_2]
  simp only [q254_3, q254_4, q254_7, q254_8, q254_11, q254_12, q254_13, q254_14, q254_15, q254_18, q254_19, q254_20, q254_23, q254_24, q254_25, q254_26, q254_27, q254_30, q254_31, q254_32, q254_35, q254_36, q254_37, q254_38, q254_39, m_0 hS, m_K hS, mR_ringAsk hS, mK_ringAsk hS, mL_ringAsk hS, mR_oldBench hS, mK_oldBench hS, mL_oldBench hS, mR_atBench hS, mK_atBench hS, mL_atBench hS, mR_oldShift hS, mK_oldShift hS, mL_oldShift hS, mR_atShift hS, mK_atShift hS, mL_atShift hS, as_nil, as_i, as_r, Nat.reduceAdd, Nat.reduceLeDiff, z_eq0, z_eq1, z_or, z_em, Classical.not_not, not_false_eq_true, not_true_eq_false, true_and, and_true, false_and, and_false, and_self, true_implies, false_implies, implies_true, Option.toList_some, Option.toList_none, List.cons_append, List.nil_append, Nat.add_eq_zero_iff, a_nl_i, a_nl_r, a_nl_n, true_or, or_true, eq_self, ok_4, ok_5, ok_6, ok_7, ok_9, ok_10, ok_20, ok_21, ok_24, ok_30, ok_48, ok_50, ok_60, ok_80, ok_120, ok_180, ok_192, ok_200, ok_900, ok_1000, ok_84000, ui_ap, ne_MM, ne_M0, ne_0M, Nat.reduceEqDiff, reduceIte, if_true, if_false, er]
  refine ⟨fun q => ?_, fun q => ?_⟩
  · rw [show i = m by grind]
    exact hN J a o ⟨h1, h2, fun k p1 p2 => h3 k p1 (by grind), fun k p1 p2 => by grind⟩
  · have hi2 : i < m := by grind
    have q1 := hq i h0 hi2
    have q2 := h4 i (Int32.le_refl _) hi2
    have r1 := rg_atBench h1 (I (M + 48) i.toNatClampNeg).toNatClampNeg
    have r2 := rg_atShift h1 (I (M + 48) i.toNatClampNeg).toNatClampNeg
    repeat refine And.intro (by grind) ?_
    refine lp_ringFits_41 hS (I := I) (p := i + 1) (q := i) q1.1 (by grind) (fun J2 h5 => ?_) 0 (by decide) _ (by decide) ⟨sR_oldShift (sR_oldBench h1 r1) r2, rF_ui (rF_ui h2 (by omega)) (by omega), fun k p1 p2 => ?_, fun k p1 p2 => ?_⟩
    · simp only [q254_75, q254_76, q254_79, q254_80, q254_82, q254_83, q254_84, q254_87, q254_88, q254_90, q254_91, q254_94, m_0 hS, m_K hS, mR_atBench hS, mK_atBench hS, mL_atBench hS, mR_atShift hS, mK_atShift hS, mL_atShift hS, as_nil, as_i, as_r, Nat.reduceAdd, Nat.reduceLeDiff, z_eq0, z_eq1, z_or, z_em, Classical.not_not, not_false_eq_true, not_true_eq_false, true_and, and_true, false_and, and_false, and_self, true_implies, false_implies, implies_true, Option.toList_some, Option.toList_none, List.cons_append, List.nil_append, Nat.add_eq_zero_iff, a_nl_i, a_nl_r, a_nl_n, true_or, or_true, eq_self, ok_4, ok_5, ok_6, ok_7, ok_9, ok_10, ok_20, ok_21, ok_24, ok_30, ok_48, ok_50, ok_60, ok_80, ok_120, ok_180, ok_192, ok_200, ok_900, ok_1000, ok_84000, ui_ap, ne_MM, ne_M0, ne_0M, Nat.reduceEqDiff, reduceIte, if_true, if_false]
      repeat refine And.intro (by grind) ?_
      have hk : rK M m I (I (M + 48) i.toNatClampNeg).toNatClampNeg := ⟨i, h0, hi2, rfl⟩
      obtain ⟨g1, g2, g3, g4⟩ := h5
      refine ih (by grind) _ _ _ (by grind) (by grind) ⟨sR_atShift (sR_atBench g1 (by decide)) (by decide), rF_ui (rF_ui g2 (Or.inr (Or.inr (Or.inr (Or.inr ⟨Or.inl rfl, hk⟩))))) (Or.inr (Or.inr (Or.inr (Or.inr ⟨Or.inr rfl, hk⟩)))), fun k p1 p2 => ?_, fun k p1 p2 => ?_⟩
      · have := g3 k p1 p2
        simpa [ui_ap] using this
      · have hne : ¬ (I (M + 48) k.toNatClampNeg).toNatClampNeg = (I (M + 48) i.toNatClampNeg).toNatClampNeg := fun e => by
          have := hd k i (by grind) p2 h0 hi2 e
          grind
        simp only [ui_ap, ne_MM, ne_M0, ne_0M, Nat.reduceEqDiff, reduceIte, if_true, if_false, and_self, false_and, and_false, true_and, hne]
        exact g4 k (by grind) p2
    · by_cases hk : k = i
      · subst hk
        simp only [ui_ap, ne_MM, ne_M0, ne_0M, Nat.reduceEqDiff, reduceIte, if_true, if_false, and_self, false_and, and_false, true_and]
        exact q2
      · have hne : ¬ k.toNatClampNeg = i.toNatClampNeg := fun e => hk (cl_inj p1 h0 e)
        simp only [ui_ap, ne_MM, ne_M0, ne_0M, Nat.reduceEqDiff, reduceIte, if_true, if_false, and_self, false_and, and_false, true_and, hne]
        exact h3 k p1 (by grind)
    · have := h4 k p1 p2
      simpa [ui_ap] using this
theorem rV_fit (hS : m_S M K L R) {m i j : Int32} (hm : 0 ≤ m ∧ m ≤ 5) (hq : ∀ k : Int32, 0 ≤ k → k < m → (0 ≤ I (M + 48) k.toNatClampNeg ∧ I (M + 48) k.toNatClampNeg ≤ 29) ∧ 0 ≤ I (M + 20) (I (M + 48) k.toNatClampNeg).toNatClampNeg) (h : rV M m I J 0) (hi : 0 ≤ i ∧ i < m) (hj : 0 ≤ j ∧ j < m) (hP : ∀ v J', rV M m I J' 0 → P (some (.int v)) (n, t, K, L, J', R)) : a_does (d + 10) 221 [a_rf M, .int (J (M + 48) i.toNatClampNeg), .int (J (M + 49) j.toNatClampNeg), .int (J (M + 50) j.toNatClampNeg)] (n, t, K, L, J, R) P := by
  obtain ⟨h1, h2, h3, h4⟩ := id h
  have e1 := rF_ra h2
  have q1 := hq i hi.1 hi.2
  have q2 := hq j hj.1 hj.2
  have q3 := h3 j hj.1 hj.2
  have r1 := rg_oldBench h1 j.toNatClampNeg
  have r2 := rg_oldShift h1 j.toNatClampNeg
  refine ct_fitOf hS (mC_refl h1) (by rw [e1]; grind) (by rw [q3.1]; rw [q3.1] at r1; exact ⟨q2.2, r1.2⟩) (by grind) (fun v J' hC => hP v J' ⟨hC.1, fun x y p1 p2 p3 p4 p5 p6 => (hC.2 x y p1).trans (h2 x y p1 p2 p3 p4 p5 p6), fun k p1 p2 => ?_, fun k p1 p2 => by grind⟩)
  have := h3 k p1 p2
  rw [eS_oldBench hC, eS_oldShift hC]
  exact this
theorem rV_put (hS : m_S M K L R) {m i j : Int32} (hm : 0 ≤ m ∧ m ≤ 5) (hq : ∀ k : Int32, 0 ≤ k → k < m → (0 ≤ I (M + 48) k.toNatClampNeg ∧ I (M + 48) k.toNatClampNeg ≤ 29) ∧ 0 ≤ I (M + 20) (I (M + 48) k.toNatClampNeg).toNatClampNeg) (h : rV M m I J 0) (hi : 0 ≤ i ∧ i < m) (hj : 0 ≤ j ∧ j < m) (hP : ∀ J', rV M m I J' 0 → P none (n, t, K, L, J', R)) : a_does (d + 10) 231 [a_rf M, .int (J (M + 48) i.toNatClampNeg), .int (J (M + 49) j.toNatClampNeg), .int (J (M + 50) j.toNatClampNeg)] (n, t, K, L, J, R) P := by
  obtain ⟨h1, h2, h3, h4⟩ := id h
  have e1 := rF_ra h2
  have q1 := hq i hi.1 hi.2
  have q2 := hq j hj.1 hj.2
  have q3 := h3 j hj.1 hj.2
  have r1 := rg_oldBench h1 j.toNatClampNeg
  have r2 := rg_oldShift h1 j.toNatClampNeg
  have hk : rK M m I (J (M + 48) i.toNatClampNeg).toNatClampNeg := ⟨i, hi.1, hi.2, by rw [e1]⟩
  refine ct_putAt hS h1 (by rw [e1]; grind) (by rw [q3.1]; rw [q3.1] at r1; exact ⟨q2.2, r1.2⟩) (fun J1 hm2 => hP (a_ui (a_ui J1 (M + 20) (J (M + 48) i.toNatClampNeg).toNatClampNeg (J (M + 49) j.toNatClampNeg)) (M + 21) (J (M + 48) i.toNatClampNeg).toNatClampNeg (J (M + 50) j.toNatClampNeg)) ⟨sR_atShift (sR_atBench hm2.1 r1) r2, ?_, fun k p1 p2 => ?_, fun k p1 p2 => by grind⟩)
  · refine rF_ui (rF_ui (fun x y p1 p2 p3 p4 p5 p6 => (hm2.2 x y p1 p2).trans (h2 x y p1 p2 p3 p4 p5 p6)) (Or.inr (Or.inr (Or.inr (Or.inr ⟨Or.inl rfl, hk⟩))))) (Or.inr (Or.inr (Or.inr (Or.inr ⟨Or.inr rfl, hk⟩))))
  · have := h3 k p1 p2
    simp only [ui_ap, ne_MM, ne_M0, ne_0M, Nat.reduceEqDiff, reduceIte, if_true, if_false, and_self, false_and, and_false]
    rw [hm2.2 _ _ (by unfold sC; omega) (by omega), hm2.2 _ _ (by unfold sC; omega) (by omega)]
    exact this
theorem lp_ringFits_101 (hS : m_S M K L R) {m : Int32} (hm : 0 ≤ m ∧ m ≤ 5) (hq : ∀ k : Int32, 0 ≤ k → k < m → (0 ≤ I (M + 48) k.toNatClampNeg ∧ I (M + 48) k.toNatClampNeg ≤ 29) ∧ 0 ≤ I (M + 20) (I (M + 48) k.toNatClampNeg).toNatClampNeg) (hN : ∀ J u i o, (u = 0 ∨ u = 1) → rV M m I J 0 → a_at (d + 10) (a_xm a_m254) 193 [some (a_rf M), some (.int m), some (.int u), some (.int i), o, none] [] (n, t, K, L, J, R) P) : ∀ i : Int32, i ≤ 5 → ∀ J u o, 0 ≤ i → i ≤ m → (u = 0 ∨ u = 1) → rV M m I J 0 → a_at (d + 10) (a_xm a_m254) 101 [some (a_rf M), some (.int m), some (.int u), some (.int i), o, none] [] (n, t, K, L, J, R) P := by
  refine up_ind 5 (fun i hi ih => ?_)
  intro J u o h0 him hu h
  have er := rF_ra h.2.1
  have hfit : ∀ J, rV M m I J 0 → ∀ j, i < m → 0 ≤ j ∧ j < m → ∀ Q, (∀ v J', rV M m I J' 0 → Q (some (.int v)) (n, t, K, L, J', R)) → a_does (d + 10) 221 [a_rf M, .int (J (M + 48) i.toNatClampNeg), .int (J (M + 49) j.toNatClampNeg), .int (J (M + 50) j.toNatClampNeg)] (n, t, K, L, J, R) Q := fun J h j p1 hj Q hQ => rV_fit hS hm hq h ⟨h0, p1⟩ hj hQ
  have hput : ∀ J, rV M m I J 0 → ∀ j, i < m → 0 ≤ j ∧ j < m → ∀ Q, (∀ J', rV M m I J' 0 → Q none (n, t, K, L, J', R)) → a_does (d + 10) 231 [a_rf M, .int (J (M + 48) i.toNatClampNeg), .int (J (M + 49) j.toNatClampNeg), .int (J (M + 50) j.toNatClampNeg)] (n, t, K, L, J, R) Q := fun J h j p1 hj Q hQ => rV_put hS hm hq h ⟨h0, p1⟩ hj hQ
  rw [q254_101]
  repeat' first
    | with_reducible apply And.intro
    | with_reducible assumption
    | with_reducible intro _
    | with_reducible apply hN
    | with_reducible apply ih
    | with_reducible apply hfit
    | with_reducible apply hput
    | simp only [q254_102, q254_103, q254_106, q254_107, q254_110, q254_111, q254_112, q254_113, q254_114, q254_117, q254_118, q254_119, q254_120, q254_123, q254_124, q254_126, q254_127, q254_128, q254_131, q254_132, q254_133, q254_134, q254_137, q254_139, q254_140, q254_141, q254_144, q254_146, q254_147, q254_150, q254_153, q254_154, q254_157, q254_158, q254_159, q254_160, q254_163, q254_164, q254_165, q254_168, q254_169, q254_170, q254_171, q254_174, q254_176, q254_177, q254_178, q254_181, q254_183, q254_184, q254_187, q254_190, m_0 hS, m_K hS, mR_ringAsk hS, mK_ringAsk hS, mL_ringAsk hS, mR_oldBench hS, mK_oldBench hS, mL_oldBench hS, mR_oldShift hS, mK_oldShift hS, mL_oldShift hS, as_nil, as_i, as_r, Nat.reduceAdd, Nat.reduceLeDiff, z_eq0, z_eq1, z_or, z_em, Classical.not_not, not_false_eq_true, not_true_eq_false, true_and, and_true, false_and, and_false, and_self, true_implies, false_implies, implies_true, Option.toList_some, Option.toList_none, List.cons_append, List.nil_append, Nat.add_eq_zero_iff, a_nl_i, a_nl_r, a_nl_n, true_or, or_true, eq_self, ok_4, ok_5, ok_6, ok_7, ok_9, ok_10, ok_20, ok_21, ok_24, ok_30, ok_48, ok_50, ok_60, ok_80, ok_120, ok_180, ok_192, ok_200, ok_900, ok_1000, ok_84000]
  all_goals (try clear hfit); (try clear hput); (try clear hN); (try clear ih); grind [ui_ap]
theorem lp_ringFits_237 (hS : m_S M K L R) {m u i a p : Int32} (ha : 0 ≤ a ∧ a ≤ 29) (hi : 0 ≤ i ∧ i ≤ 4) (hN : ∀ J, rV M m I J p → a_at d (a_xm a_m254) 272 [some (a_rf M), some (.int m), some (.int u), some (.int i), some (.int a), some (.int 4)] [] (n, t, K, L, J, R) P) : ∀ o : Int32, o ≤ 4 → ∀ J, 0 ≤ o → rV M m I J p → a_at d (a_xm a_m254) 237 [some (a_rf M), some (.int m), some (.int u), some (.int i), some (.int a), some (.int o)] [] (n, t, K, L, J, R) P := by
  refine up_ind 4 (fun o ho ih => ?_)
  intro J h0 h
  rw [q254_237]
  simp only [q254_239, q254_240, q254_243, q254_244, q254_247, q254_248, q254_250, q254_251, q254_253, q254_254, q254_255, q254_258, q254_259, q254_260, q254_261, q254_263, q254_264, q254_265, q254_266, q254_269, m_0 hS, m_K hS, mR_standing hS, mK_standing hS, mL_standing hS, mR_oldStanding hS, mK_oldStanding hS, mL_oldStanding hS, as_nil, as_i, as_r, Nat.reduceAdd, Nat.reduceLeDiff, z_eq0, z_eq1, z_or, z_em, Classical.not_not, not_false_eq_true, not_true_eq_false, true_and, and_true, false_and, and_false, and_self, true_implies, false_implies, implies_true, Option.toList_some, Option.toList_none, List.cons_append, List.nil_append, Nat.add_eq_zero_iff, a_nl_i, a_nl_r, a_nl_n, true_or, or_true, eq_self, ok_4, ok_5, ok_6, ok_7, ok_9, ok_10, ok_20, ok_21, ok_24, ok_30, ok_48, ok_50, ok_60, ok_80, ok_120, ok_180, ok_192, ok_200, ok_900, ok_1000, ok_84000]
  refine ⟨fun h1 => ?_, fun h1 => ?_⟩
  · rw [show o = 4 by grind]
    exact hN J h
  · repeat refine And.intro (by grind) ?_
    exact ih (by grind) _ (by grind) (rV_st h)
theorem lp_ringFits_195 (hS : m_S M K L R) {m u : Int32} (hu : u = 0 ∨ u = 1) (hm : 0 ≤ m ∧ m ≤ 5) (hq : ∀ k : Int32, 0 ≤ k → k < m → (0 ≤ I (M + 48) k.toNatClampNeg ∧ I (M + 48) k.toNatClampNeg ≤ 29) ∧ 0 ≤ I (M + 20) (I (M + 48) k.toNatClampNeg).toNatClampNeg) (hd : ∀ k l : Int32, 0 ≤ k → k < m → 0 ≤ l → l < m → (I (M + 48) k.toNatClampNeg).toNatClampNeg = (I (M + 48) l.toNatClampNeg).toNatClampNeg → k = l) (hP : ∀ J, rV M m I J m → P (some (.int u)) (n, t, K, L, J, R)) : ∀ i : Int32, i ≤ 5 → ∀ J a o, 0 ≤ i → i ≤ m → rV M m I J i → a_at d (a_xm a_m254) 195 [some (a_rf M), some (.int m), some (.int u), some (.int i), a, o] [] (n, t, K, L, J, R) P := by
  refine up_ind 5 (fun i hi ih => ?_)
  intro J a o h0 him h
  obtain ⟨h1, h2, h3, h4⟩ := id h
  have er := rF_ra h2
  rw [q254_195]
  simp only [q254_196, q254_197, q254_200, q254_201, q254_204, q254_205, q254_206, q254_208, q254_209, q254_212, q254_214, q254_215, q254_218, q254_219, q254_220, q254_221, q254_222, q254_225, q254_227, q254_228, q254_231, q254_232, q254_233, q254_234, q254_235, q254_278, q254_279, m_0 hS, m_K hS, mR_ringAsk hS, mK_ringAsk hS, mL_ringAsk hS, mR_atBench hS, mK_atBench hS, mL_atBench hS, mR_oldBench hS, mK_oldBench hS, mL_oldBench hS, mR_atShift hS, mK_atShift hS, mL_atShift hS, mR_oldShift hS, mK_oldShift hS, mL_oldShift hS, as_nil, as_i, as_r, Nat.reduceAdd, Nat.reduceLeDiff, z_eq0, z_eq1, z_or, z_em, Classical.not_not, not_false_eq_true, not_true_eq_false, true_and, and_true, false_and, and_false, and_self, true_implies, false_implies, implies_true, Option.toList_some, Option.toList_none, List.cons_append, List.nil_append, Nat.add_eq_zero_iff, a_nl_i, a_nl_r, a_nl_n, true_or, or_true, eq_self, ok_4, ok_5, ok_6, ok_7, ok_9, ok_10, ok_20, ok_21, ok_24, ok_30, ok_48, ok_50, ok_60, ok_80, ok_120, ok_180, ok_192, ok_200, ok_900, ok_1000, ok_84000, ui_ap, ne_MM, ne_M0, ne_0M, Nat.reduceEqDiff, reduceIte, if_true, if_false, er]
  refine ⟨fun q => ?_, fun q => ?_⟩
  · have e : i = m := by grind
    subst e
    exact ⟨hu, hP J h⟩
  · have hi2 : i < m := by grind
    have q1 := hq i h0 hi2
    have q2 := h3 i h0 hi2
    have r1 := rg_oldBench h1 i.toNatClampNeg
    have r2 := rg_oldShift h1 i.toNatClampNeg
    have hk : rK M m I (I (M + 48) i.toNatClampNeg).toNatClampNeg := ⟨i, h0, hi2, rfl⟩
    repeat refine And.intro (by grind) ?_
    refine lp_ringFits_237 hS (I := I) (p := i + 1) q1.1 (by grind) (fun J2 h5 => ?_) 0 (by decide) _ (by decide) ⟨sR_atShift (sR_atBench h1 r1) r2, rF_ui (rF_ui h2 (Or.inr (Or.inr (Or.inr (Or.inr ⟨Or.inl rfl, hk⟩))))) (Or.inr (Or.inr (Or.inr (Or.inr ⟨Or.inr rfl, hk⟩)))), fun k p1 p2 => ?_, fun k p1 p2 => ?_⟩
    · simp only [q254_272, q254_275, as_nil, as_i, as_r, Nat.reduceAdd, Nat.reduceLeDiff, z_eq0, z_eq1, z_or, z_em, Classical.not_not, not_false_eq_true, not_true_eq_false, true_and, and_true, false_and, and_false, and_self, true_implies, false_implies, implies_true, Option.toList_some, Option.toList_none, List.cons_append, List.nil_append, Nat.add_eq_zero_iff, a_nl_i, a_nl_r, a_nl_n, true_or, or_true, eq_self, ok_4, ok_5, ok_6, ok_7, ok_9, ok_10, ok_20, ok_21, ok_24, ok_30, ok_48, ok_50, ok_60, ok_80, ok_120, ok_180, ok_192, ok_200, ok_900, ok_1000, ok_84000]
      exact ih (by grind) J2 _ _ (by grind) (by grind) h5
    · have := h3 k p1 p2
      simpa [ui_ap] using this
    · by_cases hk : k = i
      · subst hk
        simp only [ui_ap, ne_MM, ne_M0, ne_0M, Nat.reduceEqDiff, reduceIte, if_true, if_false, and_self, false_and, and_false, true_and]
        exact q2
      · have hne : ¬ (I (M + 48) k.toNatClampNeg).toNatClampNeg = (I (M + 48) i.toNatClampNeg).toNatClampNeg := fun e => hk (hd k i p1 (by grind) h0 hi2 e)
        simp only [ui_ap, ne_MM, ne_M0, ne_0M, Nat.reduceEqDiff, reduceIte, if_true, if_false, and_self, false_and, and_false, true_and, hne]
        exact h4 k p1 (by grind)
theorem ct_ringFits (hS : m_S M K L R) (hR : mR M I) {m : Int32} (hm : 0 ≤ m ∧ m ≤ 5) (hq : ∀ k : Int32, 0 ≤ k → k < m → (0 ≤ I (M + 48) k.toNatClampNeg ∧ I (M + 48) k.toNatClampNeg ≤ 29) ∧ 0 ≤ I (M + 20) (I (M + 48) k.toNatClampNeg).toNatClampNeg) (hd : ∀ k l : Int32, 0 ≤ k → k < m → 0 ≤ l → l < m → (I (M + 48) k.toNatClampNeg).toNatClampNeg = (I (M + 48) l.toNatClampNeg).toNatClampNeg → k = l) (hP : ∀ v J, rQ M I J → P (some (.int v)) (n, t, K, L, J, R)) : a_does (d + 11) 254 [a_rf M, .int m] (n, t, K, L, I, R) P := by
  rw [a_enter1 (M := a_m254) rfl (a_cat_rf (a_cat_int a_cat_nil)) (show 2 ≤ 6 by decide)]
  show a_at _ (a_xm a_m254) 0 [some (a_rf M), some (.int m), none, none, none, none] [] _ _
  simp only [q254_0, q254_1, as_nil, as_i, as_r, Nat.reduceAdd, Nat.reduceLeDiff, z_eq0, z_eq1, z_or, z_em, Classical.not_not, not_false_eq_true, not_true_eq_false, true_and, and_true, false_and, and_false, and_self, true_implies, false_implies, implies_true, Option.toList_some, Option.toList_none, List.cons_append, List.nil_append, Nat.add_eq_zero_iff, a_nl_i, a_nl_r, a_nl_n, true_or, or_true, eq_self, ok_4, ok_5, ok_6, ok_7, ok_9, ok_10, ok_20, ok_21, ok_24, ok_30, ok_48, ok_50, ok_60, ok_80, ok_120, ok_180, ok_192, ok_200, ok_900, ok_1000, ok_84000]
  refine lp_ringFits_2 hS hm hq hd (fun J a o h => ?_) 0 (by decide) I _ _ (by decide) hm.1 ⟨hR, fun _ _ _ _ _ _ _ _ => rfl, fun k p1 p2 => by grind, fun k _ _ => ⟨rfl, rfl⟩⟩
  simp only [q254_97, q254_98, q254_99, q254_100, as_nil, as_i, as_r, Nat.reduceAdd, Nat.reduceLeDiff, z_eq0, z_eq1, z_or, z_em, Classical.not_not, not_false_eq_true, not_true_eq_false, true_and, and_true, false_and, and_false, and_self, true_implies, false_implies, implies_true, Option.toList_some, Option.toList_none, List.cons_append, List.nil_append, Nat.add_eq_zero_iff, a_nl_i, a_nl_r, a_nl_n, true_or, or_true, eq_self, ok_4, ok_5, ok_6, ok_7, ok_9, ok_10, ok_20, ok_21, ok_24, ok_30, ok_48, ok_50, ok_60, ok_80, ok_120, ok_180, ok_192, ok_200, ok_900, ok_1000, ok_84000]
  refine lp_ringFits_101 hS hm hq (fun J u i o hu h => ?_) 0 (by decide) J _ _ (by decide) hm.1 (Or.inr rfl) h
  simp only [q254_193, q254_194, as_nil, as_i, as_r, Nat.reduceAdd, Nat.reduceLeDiff, z_eq0, z_eq1, z_or, z_em, Classical.not_not, not_false_eq_true, not_true_eq_false, true_and, and_true, false_and, and_false, and_self, true_implies, false_implies, implies_true, Option.toList_some, Option.toList_none, List.cons_append, List.nil_append, Nat.add_eq_zero_iff, a_nl_i, a_nl_r, a_nl_n, true_or, or_true, eq_self, ok_4, ok_5, ok_6, ok_7, ok_9, ok_10, ok_20, ok_21, ok_24, ok_30, ok_48, ok_50, ok_60, ok_80, ok_120, ok_180, ok_192, ok_200, ok_900, ok_1000, ok_84000]
  refine lp_ringFits_195 hS hu hm hq hd (fun J h => ?_) 0 (by decide) J _ _ (by decide) hm.1 h
  obtain ⟨h1, h2, h3, h4⟩ := h
  refine hP u J ⟨h1, fun x j p1 p2 p3 p4 p5 => ?_⟩
  by_cases hx : (x = (M + 20) ∨ x = (M + 21)) ∧ rK M m I j
  · obtain ⟨hx, k, k0, k1, k2⟩ := hx
    subst k2
    have := h4 k k0 k1
    rcases hx with hx | hx <;> subst hx
    · exact this.1
    · exact this.2
  · exact h2 x j p1 p2 p3 p4 p5 hx
theorem mF_Q (hF : mF M c I0 I) (h : rQ M I J) : mF M c I0 J := by
  have e : ∀ x j, ¬ sC M x j → ¬ x = (M + 22) → ¬ x = (M + 49) → ¬ x = (M + 50) → ¬ x = (M + 51) → J x j = I x j := h.2
  refine ⟨⟨h.1, fun x j hx => ?_⟩, mE_eq hF.2 ?_ ?_ ?_ ?_ ?_ ?_ ?_ ?_⟩
  · rw [e x j (by unfold eC at hx; unfold sC; omega) (by unfold eC at hx; omega) (by unfold eC at hx; omega) (by unfold eC at hx; omega) (by unfold eC at hx; omega)]
    exact hF.1.2 x j hx
  all_goals intros; exact e _ _ (by unfold sC; omega) (by omega) (by omega) (by omega) (by omega)
theorem lp_mayBeNext_87 (hS : m_S M K L R) (hR : mR M I) {a i : Int32} (ha : 0 ≤ a ∧ a < 30) (hi : 0 ≤ i ∧ i ≤ 5) (hq : ∀ k : Int32, 0 ≤ k → k < i → 0 ≤ I (M + 48) k.toNatClampNeg ∧ I (M + 48) k.toNatClampNeg ≤ 29) (hP : ∀ v : Int32, (¬ v = 0 → ∀ k : Int32, 0 ≤ k → k < i → ¬ I (M + 48) k.toNatClampNeg = a) → P (some (.int v)) (n, t, K, L, I, R)) : ∀ k : Int32, k ≤ 5 → ∀ u, 0 ≤ k → k ≤ i → (u = 0 ∨ u = 1) → (¬ u = 0 → ∀ l : Int32, 0 ≤ l → l < k → ¬ I (M + 48) l.toNatClampNeg = a) → a_at d (a_xm a_m253) 87 [some (a_rf M), some (.int a), some (.int i), some (.int u), some (.int k)] [] (n, t, K, L, I, R) P := by
  refine up_ind 5 (fun k hk ih => ?_)
  intro u h0 hki hz hu
  rw [q253_87]
  simp only [q253_89, q253_90, q253_93, q253_94, q253_97, q253_98, q253_101, q253_103, q253_104, q253_105, q253_108, q253_109, q253_112, q253_113, q253_116, q253_118, q253_119, q253_120, q253_121, q253_124, q253_125, q253_126, q253_129, q253_130, q253_133, q253_134, q253_135, q253_138, q253_141, q253_142, m_0 hS, m_K hS, mR_ringAsk hS, mK_ringAsk hS, mL_ringAsk hS, mR_group hS, mK_group hS, mL_group hS, as_nil, as_i, as_r, Nat.reduceAdd, Nat.reduceLeDiff, z_eq0, z_eq1, z_or, z_em, Classical.not_not, not_false_eq_true, not_true_eq_false, true_and, and_true, false_and, and_false, and_self, true_implies, false_implies, implies_true, Option.toList_some, Option.toList_none, List.cons_append, List.nil_append, Nat.add_eq_zero_iff, a_nl_i, a_nl_r, a_nl_n, true_or, or_true, eq_self, ok_4, ok_5, ok_6, ok_7, ok_9, ok_10, ok_20, ok_21, ok_24, ok_30, ok_48, ok_50, ok_60, ok_80, ok_120, ok_180, ok_192, ok_200, ok_900, ok_1000, ok_84000]
  refine ⟨fun h => ⟨hz, hP u (fun hv l p1 p2 => hu hv l p1 (by grind))⟩, fun h => ?_⟩
  have q1 := hq k h0 (by grind)
  have g1 : ∀ J : Nat → Nat → Int32, ∀ v : Int32, (v = 0 ∨ v = 1) → (¬ v = 0 → ¬ u = 0 ∧ ¬ I (M + 48) k.toNatClampNeg = a) → a_at d (a_xm a_m253) 87 [some (a_rf M), some (.int a), some (.int i), some (.int v), some (.int (k + 1))] [] (n, t, K, L, I, R) P := fun _ v hz hv => ih (by grind) v (by grind) (by grind) hz (fun hv2 l p1 p2 => by
    have h2 := hv hv2
    by_cases hl : l = k
    · subst hl; exact h2.2
    · exact hu h2.1 l p1 (by grind))
  repeat' first
    | with_reducible apply And.intro
    | with_reducible assumption
    | with_reducible intro _
    | with_reducible apply g1 I
    | simp only [q253_89, q253_90, q253_93, q253_94, q253_97, q253_98, q253_101, q253_103, q253_104, q253_105, q253_108, q253_109, q253_112, q253_113, q253_116, q253_118, q253_119, q253_120, q253_121, q253_124, q253_125, q253_126, q253_129, q253_130, q253_133, q253_134, q253_135, q253_138, m_0 hS, m_K hS, mR_ringAsk hS, mK_ringAsk hS, mL_ringAsk hS, mR_group hS, mK_group hS, mL_group hS, as_nil, as_i, as_r, Nat.reduceAdd, Nat.reduceLeDiff, z_eq0, z_eq1, z_or, z_em, Classical.not_not, not_false_eq_true, not_true_eq_false, true_and, and_true, false_and, and_false, and_self, true_implies, false_implies, implies_true, Option.toList_some, Option.toList_none, List.cons_append, List.nil_append, Nat.add_eq_zero_iff, a_nl_i, a_nl_r, a_nl_n, true_or, or_true, eq_self, ok_4, ok_5, ok_6, ok_7, ok_9, ok_10, ok_20, ok_21, ok_24, ok_30, ok_48, ok_50, ok_60, ok_80, ok_120, ok_180, ok_192, ok_200, ok_900, ok_1000, ok_84000]
  all_goals (try clear ih); (try clear g1); (try clear hP); grind [ui_ap]
theorem ct_mayBeNext (hS : m_S M K L R) (hR : mR M I) {a i : Int32} (ha : 0 ≤ a ∧ a < 30) (hi : 0 ≤ i ∧ i ≤ 5) (hq : ∀ k : Int32, 0 ≤ k → k < i → 0 ≤ I (M + 48) k.toNatClampNeg ∧ I (M + 48) k.toNatClampNeg ≤ 29) (hP : ∀ v : Int32, (¬ v = 0 → 0 ≤ I (M + 20) a.toNatClampNeg ∧ ∀ k : Int32, 0 ≤ k → k < i → ¬ I (M + 48) k.toNatClampNeg = a) → P (some (.int v)) (n, t, K, L, I, R)) : a_does (d + 2) 253 [a_rf M, .int a, .int i] (n, t, K, L, I, R) P := by
  have q0 : ¬ i = 0 → _ := fun h => hq 0 (by decide) (by grind)
  have q1 : ¬ i = 0 → _ := fun h => hq (i - 1) (by grind) (by grind)
  rw [a_enter1 (M := a_m253) rfl (a_cat_rf (a_cat_int (a_cat_int a_cat_nil))) (show 3 ≤ 5 by decide)]
  show a_at _ (a_xm a_m253) 0 [some (a_rf M), some (.int a), some (.int i), none, none] [] _ _
  have h23 : 0 ≤ I (M + 20) a.toNatClampNeg → a_at (d + 1) (a_xm a_m253) 23 [some (a_rf M), some (.int a), some (.int i), none, none] [] (n, t, K, L, I, R) P := by
    intro hb
    have h83 : ∀ u, (u = 0 ∨ u = 1) → a_at (d + 1) (a_xm a_m253) 83 [some (a_rf M), some (.int a), some (.int i), none, none] [.int u] (n, t, K, L, I, R) P := fun u hz => by
      simp only [q253_83, q253_84, q253_85, as_nil, as_i, as_r, Nat.reduceAdd, Nat.reduceLeDiff, z_eq0, z_eq1, z_or, z_em, Classical.not_not, not_false_eq_true, not_true_eq_false, true_and, and_true, false_and, and_false, and_self, true_implies, false_implies, implies_true, Option.toList_some, Option.toList_none, List.cons_append, List.nil_append, Nat.add_eq_zero_iff, a_nl_i, a_nl_r, a_nl_n, true_or, or_true, eq_self, ok_4, ok_5, ok_6, ok_7, ok_9, ok_10, ok_20, ok_21, ok_24, ok_30, ok_48, ok_50, ok_60, ok_80, ok_120, ok_180, ok_192, ok_200, ok_900, ok_1000, ok_84000]
      exact lp_mayBeNext_87 hS hR ha hi hq (fun v hv => hP v (fun h => ⟨hb, hv h⟩)) 0 (by decide) u (by decide) hi.1 hz (fun _ l p1 p2 => by grind)
    clear hq
    repeat' first
      | with_reducible apply And.intro
      | with_reducible assumption
      | with_reducible intro _
      | with_reducible apply h83
      | simp only [q253_23, q253_24, q253_27, q253_28, q253_29, q253_32, q253_33, q253_34, q253_37, q253_38, q253_41, q253_43, q253_44, q253_47, q253_48, q253_49, q253_50, q253_51, q253_52, q253_53, q253_54, q253_55, q253_58, q253_59, q253_62, q253_63, q253_64, q253_65, q253_68, q253_69, q253_72, q253_73, q253_74, q253_75, q253_78, q253_79, q253_82, m_0 hS, m_K hS, mR_ringAsk hS, mK_ringAsk hS, mL_ringAsk hS, mR_isWish hS, mK_isWish hS, mL_isWish hS, mR_length hS, mK_length hS, mL_length hS, as_nil, as_i, as_r, Nat.reduceAdd, Nat.reduceLeDiff, z_eq0, z_eq1, z_or, z_em, Classical.not_not, not_false_eq_true, not_true_eq_false, true_and, and_true, false_and, and_false, and_self, true_implies, false_implies, implies_true, Option.toList_some, Option.toList_none, List.cons_append, List.nil_append, Nat.add_eq_zero_iff, a_nl_i, a_nl_r, a_nl_n, true_or, or_true, eq_self, ok_4, ok_5, ok_6, ok_7, ok_9, ok_10, ok_20, ok_21, ok_24, ok_30, ok_48, ok_50, ok_60, ok_80, ok_120, ok_180, ok_192, ok_200, ok_900, ok_1000, ok_84000]
    all_goals (try clear h83); (try clear hP); grind [ui_ap]
  clear hq q0 q1
  repeat' first
    | with_reducible apply And.intro
    | with_reducible assumption
    | with_reducible intro _
    | with_reducible apply hP
    | with_reducible apply h23
    | simp only [q253_0, q253_1, q253_2, q253_5, q253_8, q253_9, q253_10, q253_13, q253_14, q253_15, q253_18, q253_21, q253_22, m_0 hS, m_K hS, mR_atShift hS, mK_atShift hS, mL_atShift hS, sp_hasPlace hS, sp_isBegun hS, as_nil, as_i, as_r, Nat.reduceAdd, Nat.reduceLeDiff, z_eq0, z_eq1, z_or, z_em, Classical.not_not, not_false_eq_true, not_true_eq_false, true_and, and_true, false_and, and_false, and_self, true_implies, false_implies, implies_true, Option.toList_some, Option.toList_none, List.cons_append, List.nil_append, Nat.add_eq_zero_iff, a_nl_i, a_nl_r, a_nl_n, true_or, or_true, eq_self, ok_4, ok_5, ok_6, ok_7, ok_9, ok_10, ok_20, ok_21, ok_24, ok_30, ok_48, ok_50, ok_60, ok_80, ok_120, ok_180, ok_192, ok_200, ok_900, ok_1000, ok_84000]
  all_goals (try clear h23); (try clear hP); grind [ui_ap]
theorem mu_stay {p i : Int32} {w w' : Nat → Int32} (h0 : 0 ≤ i) (h4 : i ≤ 4) (hp : 0 ≤ p ∧ p ≤ 48) (hw : -1 ≤ w i.toNatClampNeg ∧ w i.toNatClampNeg < w' i.toNatClampNeg ∧ w' i.toNatClampNeg ≤ p) (hs : ∀ k : Nat, k < i.toNatClampNeg → w' k = w k) : mu p w' i < mu p w i := by
  have hq : (p + 1 - w' i.toNatClampNeg).toNatClampNeg < (p + 1 - w i.toNatClampNeg).toNatClampNeg := cl_lt (by grind) (by grind)
  rcases i_cases h0 h4 with h | h | h | h | h <;> subst h
  · have a1 : (p + 1 - w' 0).toNatClampNeg < (p + 1 - w 0).toNatClampNeg := hq
    simp [mu]
    omega
  · have e0 := hs 0 (by decide)
    have a1 : (p + 1 - w' 1).toNatClampNeg < (p + 1 - w 1).toNatClampNeg := hq
    simp [mu, e0]
    omega
  · have e0 := hs 0 (by decide)
    have e1 := hs 1 (by decide)
    have a1 : (p + 1 - w' 2).toNatClampNeg < (p + 1 - w 2).toNatClampNeg := hq
    simp [mu, e0, e1]
    omega
  · have e0 := hs 0 (by decide)
    have e1 := hs 1 (by decide)
    have e2 := hs 2 (by decide)
    have a1 : (p + 1 - w' 3).toNatClampNeg < (p + 1 - w 3).toNatClampNeg := hq
    simp [mu, e0, e1, e2]
    omega
  · have e0 := hs 0 (by decide)
    have e1 := hs 1 (by decide)
    have e2 := hs 2 (by decide)
    have e3 := hs 3 (by decide)
    have a1 : (p + 1 - w' 4).toNatClampNeg < (p + 1 - w 4).toNatClampNeg := hq
    simp [mu, e0, e1, e2, e3]
    omega
/-- the ring so far -/
def fI (M c : Nat) (I0 : Nat → Nat → Int32) (A : Int32) (J : Nat → Nat → Int32) (i : Int32) : Prop := mF M c I0 J ∧ J M 17 = A ∧ (∀ k : Int32, 0 ≤ k → k < i → (0 ≤ J (M + 48) k.toNatClampNeg ∧ J (M + 48) k.toNatClampNeg < A) ∧ 0 ≤ J (M + 20) (J (M + 48) k.toNatClampNeg).toNatClampNeg) ∧ (∀ k l : Int32, 0 ≤ k → k < l → l < i → ¬ J (M + 48) k.toNatClampNeg = J (M + 48) l.toNatClampNeg)
/-- what the swapping keeps -/
def sW (M c : Nat) (I0 : Nat → Nat → Int32) (m : Int32) (J : Nat → Nat → Int32) (p : Int32) : Prop := mF M c I0 J ∧ J M 74 = m ∧ (∀ k : Int32, 0 ≤ k → k < m → 0 ≤ J (M + 48) k.toNatClampNeg ∧ J (M + 48) k.toNatClampNeg ≤ 29) ∧ (∀ k : Int32, 0 ≤ k → k < p → 0 ≤ J (M + 49) k.toNatClampNeg)
end SI

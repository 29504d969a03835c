/-! rings -/
section SI
variable {d n t M c : Nat} {K L : Nat → Nat} {I I0 J J0 J1 J2 : Nat → Nat → Int32} {R : Nat → Nat → Nat} {P : Option Value → AH → Prop}
/-- one of the ring -/
def rK (M : Nat) (m : Int32) (I : Nat → Nat → Int32) (j : Nat) : Prop := ∃ k : Int32, 0 ≤ k ∧ k < m ∧ j = (I (M + 48) k.toNatClampNeg).toNatClampNeg
def rF (M : Nat) (m : Int32) (I J : Nat → Nat → Int32) : Prop := ∀ x j, ¬ sC M x j → ¬ x = (M + 22) → ¬ x = (M + 49) → ¬ x = (M + 50) → ¬ x = (M + 51) → ¬ ((x = (M + 20) ∨ x = (M + 21)) ∧ rK M m I j) → J x j = I x j
def rQ (M : Nat) (I J : Nat → Nat → Int32) : Prop := mR M J ∧ ∀ x j, ¬ sC M x j → ¬ x = (M + 22) → ¬ x = (M + 49) → ¬ x = (M + 50) → ¬ x = (M + 51) → J x j = I x j
def rS (M : Nat) (m : Int32) (I J : Nat → Nat → Int32) (p q : Int32) : Prop := mR M J ∧ rF M m I J ∧ (∀ k : Int32, 0 ≤ k → k < p → J (M + 49) k.toNatClampNeg = I (M + 20) (I (M + 48) k.toNatClampNeg).toNatClampNeg ∧ J (M + 50) k.toNatClampNeg = I (M + 21) (I (M + 48) k.toNatClampNeg).toNatClampNeg) ∧ (∀ k : Int32, q ≤ k → k < m → J (M + 20) (I (M + 48) k.toNatClampNeg).toNatClampNeg = I (M + 20) (I (M + 48) k.toNatClampNeg).toNatClampNeg ∧ J (M + 21) (I (M + 48) k.toNatClampNeg).toNatClampNeg = I (M + 21) (I (M + 48) k.toNatClampNeg).toNatClampNeg)
/-- all is kept, the first i are where they stood -/
def rV (M : Nat) (m : Int32) (I J : Nat → Nat → Int32) (i : Int32) : Prop := mR M J ∧ rF M m I J ∧ (∀ k : Int32, 0 ≤ k → k < m → J (M + 49) k.toNatClampNeg = I (M + 20) (I (M + 48) k.toNatClampNeg).toNatClampNeg ∧ J (M + 50) k.toNatClampNeg = I (M + 21) (I (M + 48) k.toNatClampNeg).toNatClampNeg) ∧ (∀ k : Int32, 0 ≤ k → k < i → J (M + 20) (I (M + 48) k.toNatClampNeg).toNatClampNeg = I (M + 20) (I (M + 48) k.toNatClampNeg).toNatClampNeg ∧ J (M + 21) (I (M + 48) k.toNatClampNeg).toNatClampNeg = I (M + 21) (I (M + 48) k.toNatClampNeg).toNatClampNeg)
theorem rF_ra {m : Int32} (h : rF M m I J) (j : Nat) : J (M + 48) j = I (M + 48) j := h _ _ (by unfold sC; omega) (by omega) (by omega) (by omega) (by omega) (by omega)
theorem rF_ui {m : Int32} (h : rF M m I J) {x k : Nat} {v : Int32} (hx : x = (M + 22) ∨ x = (M + 49) ∨ x = (M + 50) ∨ x = (M + 51) ∨ ((x = (M + 20) ∨ x = (M + 21)) ∧ rK M m I k)) : rF M m I (a_ui J x k v) := fun y j h1 h2 h3 h4 h5 h6 => by
  rw [ui_ap, if_neg (fun q => by
    rcases hx with hx | hx | hx | hx | hx
    · exact h2 (q.1.trans hx)
    · exact h3 (q.1.trans hx)
    · exact h4 (q.1.trans hx)
    · exact h5 (q.1.trans hx)
    · exact h6 (by rw [q.1, q.2]; exact hx))]
  exact h y j h1 h2 h3 h4 h5 h6
theorem rS_os {m p q : Int32} (h : rS M m I J p q) {k : Nat} {v : Int32} : rS M m I (a_ui J (M + 51) k v) p q := ⟨sR_oldStanding h.1, rF_ui h.2.1 (by omega), by simpa [ui_ap] using h.2.2.1, by simpa [ui_ap] using h.2.2.2⟩
theorem rV_st {m i : Int32} (h : rV M m I J i) {k : Nat} {v : Int32} : rV M m I (a_ui J (M + 22) k v) i := ⟨sR_standing h.1, rF_ui h.2.1 (by omega), by simpa [ui_ap] using h.2.2.1, by simpa [ui_ap] using h.2.2.2⟩
theorem lp_ringFits_41 (hS : m_S M K L R) {m i a p q : Int32} (ha : 0 ≤ a ∧ a ≤ 29) (hi : 0 ≤ i ∧ i ≤ 4) (hN : ∀ J, rS M m I J p q → a_at d (a_xm a_m254) 75 [some (a_rf M), some (.int m), some (.int i), some (.int a), some (.int 4), none] [] (n, t, K, L, J, R) P) : ∀ o : Int32, o ≤ 4 → ∀ J, 0 ≤ o → rS M m I J p q → a_at d (a_xm a_m254) 41 [some (a_rf M), some (.int m), some (.int i), some (.int a), some (.int o), none] [] (n, t, K, L, J, R) P := by
  refine up_ind 4 (fun o ho ih => ?_)
  intro J h0 h
  rw [q254_41]
  simp only [q254_43, q254_44, q254_47, q254_48, q254_51, q254_52, q254_53, q254_54, q254_56, q254_57, q254_58, q254_61, q254_62, q254_63, q254_64, q254_66, q254_67, q254_68, q254_69, q254_72, m_0 hS, m_K hS, mR_oldStanding hS, mK_oldStanding hS, mL_oldStanding hS, mR_standing hS, mK_standing hS, mL_standing hS, as_nil, as_i, as_r, Nat.reduceAdd, Nat.reduceLeDiff, z_eq0, z_eq1, z_or, z_em, Classical.not_not, not_false_eq_true, not_true_eq_false, true_and, and_true, false_and, and_false, and_self, true_implies, false_implies, implies_true, Option.toList_some, Option.toList_none, List.cons_append, List.nil_append, Nat.add_eq_zero_iff, a_nl_i, a_nl_r, a_nl_n, true_or, or_true, eq_self, ok_4, ok_5, ok_6, ok_7, ok_9, ok_10, ok_20, ok_21, ok_24, ok_30, ok_48, ok_50, ok_60, ok_80, ok_120, ok_180, ok_192, ok_200, ok_900, ok_1000, ok_84000]
  refine ⟨fun h1 => ?_, fun h1 => ?_⟩
  · rw [show o = 4 by grind]
    exact hN J h
  · repeat refine And.intro (by grind) ?_
    exact ih (by grind) _ (by grind) (rS_os h)
theorem lp_ringFits_2 (hS : m_S M K L R) {m : Int32} (hm : 0 ≤ m ∧ m ≤ 5) (hq : ∀ k : Int32, 0 ≤ k → k < m → (0 ≤ I (M + 48) k.toNatClampNeg ∧ I (M + 48) k.toNatClampNeg ≤ 29) ∧ 0 ≤ I (M + 20) (I (M + 48) k.toNatClampNeg).toNatClampNeg) (hd : ∀ k l : Int32, 0 ≤ k → k < m → 0 ≤ l → l < m → (I (M + 48) k.toNatClampNeg).toNatClampNeg = (I (M + 48) l.toNatClampNeg).toNatClampNeg → k = l) (hN : ∀ J a o, rV M m I J 0 → a_at d (a_xm a_m254) 97 [some (a_rf M), some (.int m), some (.int m), a, o, none] [] (n, t, K, L, J, R) P) : ∀ i : Int32, i ≤ 5 → ∀ J a o, 0 ≤ i → i ≤ m → rS M m I J i i → a_at d (a_xm a_m254) 2 [some (a_rf M), some (.int m), some (.int i), a, o, none] [] (n, t, K, L, J, R) P := by
  refine up_ind 5 (fun i hi ih => ?_)
  intro J a o h0 him h
  obtain ⟨h1, h2, h3, h4⟩ := id h
  have er := rF_ra h2
  rw [q254_2]
  simp only [q254_3, q254_4, q254_7, q254_8, q254_11, q254_12, q254_13, q254_14, q254_15, q254_18, q254_19, q254_20, q254_23, q254_24, q254_25, q254_26, q254_27, q254_30, q254_31, q254_32, q254_35, q254_36, q254_37, q254_38, q254_39, m_0 hS, m_K hS, mR_ringAsk hS, mK_ringAsk hS, mL_ringAsk hS, mR_oldBench hS, mK_oldBench hS, mL_oldBench hS, mR_atBench hS, mK_atBench hS, mL_atBench hS, mR_oldShift hS, mK_oldShift hS, mL_oldShift hS, mR_atShift hS, mK_atShift hS, mL_atShift hS, as_nil, as_i, as_r, Nat.reduceAdd, Nat.reduceLeDiff, z_eq0, z_eq1, z_or, z_em, Classical.not_not, not_false_eq_true, not_true_eq_false, true_and, and_true, false_and, and_false, and_self, true_implies, false_implies, implies_true, Option.toList_some, Option.toList_none, List.cons_append, List.nil_append, Nat.add_eq_zero_iff, a_nl_i, a_nl_r, a_nl_n, true_or, or_true, eq_self, ok_4, ok_5, ok_6, ok_7, ok_9, ok_10, ok_20, ok_21, ok_24, ok_30, ok_48, ok_50, ok_60, ok_80, ok_120, ok_180, ok_192, ok_200, ok_900, ok_1000, ok_84000, ui_ap, ne_MM, ne_M0, ne_0M, Nat.reduceEqDiff, reduceIte, if_true, if_false, er]
  refine ⟨fun q => ?_, fun q => ?_⟩
  · rw [show i = m by grind]
    exact hN J a o ⟨h1, h2, fun k p1 p2 => h3 k p1 (by grind), fun k p1 p2 => by grind⟩
  · have hi2 : i < m := by grind
    have q1 := hq i h0 hi2
    have q2 := h4 i (Int32.le_refl _) hi2
    have r1 := rg_atBench h1 (I (M + 48) i.toNatClampNeg).toNatClampNeg
    have r2 := rg_atShift h1 (I (M + 48) i.toNatClampNeg).toNatClampNeg
    repeat refine And.intro (by grind) ?_
    refine lp_ringFits_41 hS (I := I) (p := i + 1) (q := i) q1.1 (by grind) (fun J2 h5 => ?_) 0 (by decide) _ (by decide) ⟨sR_oldShift (sR_oldBench h1 r1) r2, rF_ui (rF_ui h2 (by omega)) (by omega), fun k p1 p2 => ?_, fun k p1 p2 => ?_⟩
    · simp only [q254_75, q254_76, q254_79, q254_80, q254_82, q254_83, q254_84, q254_87, q254_88, q254_90, q254_91, q254_94, m_0 hS, m_K hS, mR_atBench hS, mK_atBench hS, mL_atBench hS, mR_atShift hS, mK_atShift hS, mL_atShift hS, as_nil, as_i, as_r, Nat.reduceAdd, Nat.reduceLeDiff, z_eq0, z_eq1, z_or, z_em, Classical.not_not, not_false_eq_true, not_true_eq_false, true_and, and_true, false_and, and_false, and_self, true_implies, false_implies, implies_true, Option.toList_some, Option.toList_none, List.cons_append, List.nil_append, Nat.add_eq_zero_iff, a_nl_i, a_nl_r, a_nl_n, true_or, or_true, eq_self, ok_4, ok_5, ok_6, ok_7, ok_9, ok_10, ok_20, ok_21, ok_24, ok_30, ok_48, ok_50, ok_60, ok_80, ok_120, ok_180, ok_192, ok_200, ok_900, ok_1000, ok_84000, ui_ap, ne_MM, ne_M0, ne_0M, Nat.reduceEqDiff, reduceIte, if_true, if_false]
      repeat refine And.intro (by grind) ?_
      have hk : rK M m I (I (M + 48) i.toNatClampNeg).toNatClampNeg := ⟨i, h0, hi2, rfl⟩
      obtain ⟨g1, g2, g3, g4⟩ := h5
      refine ih (by grind) _ _ _ (by grind) (by grind) ⟨sR_atShift (sR_atBench g1 (by decide)) (by decide), rF_ui (rF_ui g2 (Or.inr (Or.inr (Or.inr (Or.inr ⟨Or.inl rfl, hk⟩))))) (Or.inr (Or.inr (Or.inr (Or.inr ⟨Or.inr rfl, hk⟩)))), fun k p1 p2 => ?_, fun k p1 p2 => ?_⟩
      · have := g3 k p1 p2
        simpa [ui_ap] using this
      · have hne : ¬ (I (M + 48) k.toNatClampNeg).toNatClampNeg = (I (M + 48) i.toNatClampNeg).toNatClampNeg := fun e => by
          have := hd k i (by grind) p2 h0 hi2 e
          grind
        simp only [ui_ap, ne_MM, ne_M0, ne_0M, Nat.reduceEqDiff, reduceIte, if_true, if_false, and_self, false_and, and_false, true_and, hne]
        exact g4 k (by grind) p2
    · by_cases hk : k = i
      · subst hk
        simp only [ui_ap, ne_MM, ne_M0, ne_0M, Nat.reduceEqDiff, reduceIte, if_true, if_false, and_self, false_and, and_false, true_and]
        exact q2
      · have hne : ¬ k.toNatClampNeg = i.toNatClampNeg := fun e => hk (cl_inj p1 h0 e)
        simp only [ui_ap, ne_MM, ne_M0, ne_0M, Nat.reduceEqDiff, reduceIte, if_true, if_false, and_self, false_and, and_false, true_and, hne]
        exact h3 k p1 (by grind)
    · have := h4 k p1 p2
      simpa [ui_ap] using this
theorem rV_fit (hS : m_S M K L R) {m i j : Int32} (hm : 0 ≤ m ∧ m ≤ 5) (hq : ∀ k : Int32, 0 ≤ k → k < m → (0 ≤ I (M + 48) k.toNatClampNeg ∧ I (M + 48) k.toNatClampNeg ≤ 29) ∧ 0 ≤ I (M + 20) (I (M + 48) k.toNatClampNeg).toNatClampNeg) (h : rV M m I J 0) (hi : 0 ≤ i ∧ i < m) (hj : 0 ≤ j ∧ j < m) (hP : ∀ v J', rV M m I J' 0 → P (some (.int v)) (n, t, K, L, J', R)) : a_does (d + 10) 221 [a_rf M, .int (J (M + 48) i.toNatClampNeg), .int (J (M + 49) j.toNatClampNeg), .int (J (M + 50) j.toNatClampNeg)] (n, t, K, L, J, R) P := by
  obtain ⟨h1, h2, h3, h4⟩ := id h
  have e1 := rF_ra h2
  have q1 := hq i hi.1 hi.2
  have q2 := hq j hj.1 hj.2
  have q3 := h3 j hj.1 hj.2
  have r1 := rg_oldBench h1 j.toNatClampNeg
  have r2 := rg_oldShift h1 j.toNatClampNeg
  refine ct_fitOf hS (mC_refl h1) (by rw [e1]; grind) (by rw [q3.1]; rw [q3.1] at r1; exact ⟨q2.2, r1.2⟩) (by grind) (fun v J' hC => hP v J' ⟨hC.1, fun x y p1 p2 p3 p4 p5 p6 => (hC.2 x y p1).trans (h2 x y p1 p2 p3 p4 p5 p6), fun k p1 p2 => ?_, fun k p1 p2 => by grind⟩)
  have := h3 k p1 p2
  rw [eS_oldBench hC, eS_oldShift hC]
  exact this
theorem rV_put (hS : m_S M K L R) {m i j : Int32} (hm : 0 ≤ m ∧ m ≤ 5) (hq : ∀ k : Int32, 0 ≤ k → k < m → (0 ≤ I (M + 48) k.toNatClampNeg ∧ I (M + 48) k.toNatClampNeg ≤ 29) ∧ 0 ≤ I (M + 20) (I (M + 48) k.toNatClampNeg).toNatClampNeg) (h : rV M m I J 0) (hi : 0 ≤ i ∧ i < m) (hj : 0 ≤ j ∧ j < m) (hP : ∀ J', rV M m I J' 0 → P none (n, t, K, L, J', R)) : a_does (d + 10) 231 [a_rf M, .int (J (M + 48) i.toNatClampNeg), .int (J (M + 49) j.toNatClampNeg), .int (J (M + 50) j.toNatClampNeg)] (n, t, K, L, J, R) P := by
  obtain ⟨h1, h2, h3, h4⟩ := id h
  have e1 := rF_ra h2
  have q1 := hq i hi.1 hi.2
  have q2 := hq j hj.1 hj.2
  have q3 := h3 j hj.1 hj.2
  have r1 := rg_oldBench h1 j.toNatClampNeg
  have r2 := rg_oldShift h1 j.toNatClampNeg
  have hk : rK M m I (J (M + 48) i.toNatClampNeg).toNatClampNeg := ⟨i, hi.1, hi.2, by rw [e1]⟩
  refine ct_putAt hS h1 (by rw [e1]; grind) (by rw [q3.1]; rw [q3.1] at r1; exact ⟨q2.2, r1.2⟩) (fun J1 hm2 => hP (a_ui (a_ui J1 (M + 20) (J (M + 48) i.toNatClampNeg).toNatClampNeg (J (M + 49) j.toNatClampNeg)) (M + 21) (J (M + 48) i.toNatClampNeg).toNatClampNeg (J (M + 50) j.toNatClampNeg)) ⟨sR_atShift (sR_atBench hm2.1 r1) r2, ?_, fun k p1 p2 => ?_, fun k p1 p2 => by grind⟩)
  · refine rF_ui (rF_ui (fun x y p1 p2 p3 p4 p5 p6 => (hm2.2 x y p1 p2).trans (h2 x y p1 p2 p3 p4 p5 p6)) (Or.inr (Or.inr (Or.inr (Or.inr ⟨Or.inl rfl, hk⟩))))) (Or.inr (Or.inr (Or.inr (Or.inr ⟨Or.inr rfl, hk⟩))))
  · have := h3 k p1 p2
    simp only [ui_ap, ne_MM, ne_M0, ne_0M, Nat.reduceEqDiff, reduceIte, if_true, if_false, and_self, false_and, and_false]
    rw [hm2.2 _ _ (by unfold sC; omega) (by omega), hm2.2 _ _ (by unfold sC; omega) (by omega)]
    exact this
theorem lp_ringFits_101 (hS : m_S M K L R) {m : Int32} (hm : 0 ≤ m ∧ m ≤ 5) (hq : ∀ k : Int32, 0 ≤ k → k < m → (0 ≤ I (M + 48) k.toNatClampNeg ∧ I (M + 48) k.toNatClampNeg ≤ 29) ∧ 0 ≤ I (M + 20) (I (M + 48) k.toNatClampNeg).toNatClampNeg) (hN : ∀ J u i o, (u = 0 ∨ u = 1) → rV M m I J 0 → a_at (d + 10) (a_xm a_m254) 193 [some (a_rf M), some (.int m), some (.int u), some (.int i), o, none] [] (n, t, K, L, J, R) P) : ∀ i : Int32, i ≤ 5 → ∀ J u o, 0 ≤ i → i ≤ m → (u = 0 ∨ u = 1) → rV M m I J 0 → a_at (d + 10) (a_xm a_m254) 101 [some (a_rf M), some (.int m), some (.int u), some (.int i), o, none] [] (n, t, K, L, J, R) P := by
  refine up_ind 5 (fun i hi ih => ?_)
  intro J u o h0 him hu h
  have er := rF_ra h.2.1
  have hfit : ∀ J, rV M m I J 0 → ∀ j, i < m → 0 ≤ j ∧ j < m → ∀ Q, (∀ v J', rV M m I J' 0 → Q (some (.int v)) (n, t, K, L, J', R)) → a_does (d + 10) 221 [a_rf M, .int (J (M + 48) i.toNatClampNeg), .int (J (M + 49) j.toNatClampNeg), .int (J (M + 50) j.toNatClampNeg)] (n, t, K, L, J, R) Q := fun J h j p1 hj Q hQ => rV_fit hS hm hq h ⟨h0, p1⟩ hj hQ
  have hput : ∀ J, rV M m I J 0 → ∀ j, i < m → 0 ≤ j ∧ j < m → ∀ Q, (∀ J', rV M m I J' 0 → Q none (n, t, K, L, J', R)) → a_does (d + 10) 231 [a_rf M, .int (J (M + 48) i.toNatClampNeg), .int (J (M + 49) j.toNatClampNeg), .int (J (M + 50) j.toNatClampNeg)] (n, t, K, L, J, R) Q := fun J h j p1 hj Q hQ => rV_put hS hm hq h ⟨h0, p1⟩ hj hQ
  rw [q254_101]
  repeat' first
    | with_reducible apply And.intro
    | with_reducible assumption
    | with_reducible intro _
    | with_reducible apply hN
    | with_reducible apply ih
    | with_reducible apply hfit
    | with_reducible apply hput
    | simp only [q254_102, q254_103, q254_106, q254_107, q254_110, q254_111, q254_112, q254_113, q254_114, q254_117, q254_118, q254_119, q254_120, q254_123, q254_124, q254_126, q254_127, q254_128, q254_131, q254_132, q254_133, q254_134, q254_137, q254_139, q254_140, q254_141, q254_144, q254_146, q254_147, q254_150, q254_153, q254_154, q254_157, q254_158, q254_159, q254_160, q254_163, q254_164, q254_165, q254_168, q254_169, q254_170, q254_171, q254_174, q254_176, q254_177, q254_178, q254_181, q254_183, q254_184, q254_187, q254_190, m_0 hS, m_K hS, mR_ringAsk hS, mK_ringAsk hS, mL_ringAsk hS, mR_oldBench hS, mK_oldBench hS, mL_oldBench hS, mR_oldShift hS, mK_oldShift hS, mL_oldShift hS, as_nil, as_i, as_r, Nat.reduceAdd, Nat.reduceLeDiff, z_eq0, z_eq1, z_or, z_em, Classical.not_not, not_false_eq_true, not_true_eq_false, true_and, and_true, false_and, and_false, and_self, true_implies, false_implies, implies_true, Option.toList_some, Option.toList_none, List.cons_append, List.nil_append, Nat.add_eq_zero_iff, a_nl_i, a_nl_r, a_nl_n, true_or, or_true, eq_self, ok_4, ok_5, ok_6, ok_7, ok_9, ok_10, ok_20, ok_21, ok_24, ok_30, ok_48, ok_50, ok_60, ok_80, ok_120, ok_180, ok_192, ok_200, ok_900, ok_1000, ok_84000]
  all_goals (try clear hfit); (try clear hput); (try clear hN); (try clear ih); grind [ui_ap]
theorem lp_ringFits_237 (hS : m_S M K L R) {m u i a p : Int32} (ha : 0 ≤ a ∧ a ≤ 29) (hi : 0 ≤ i ∧ i ≤ 4) (hN : ∀ J, rV M m I J p → a_at d (a_xm a_m254) 272 [some (a_rf M), some (.int m), some (.int u), some (.int i), some (.int a), some (.int 4)] [] (n, t, K, L, J, R) P) : ∀ o : Int32, o ≤ 4 → ∀ J, 0 ≤ o → rV M m I J p → a_at d (a_xm a_m254) 237 [some (a_rf M), some (.int m), some (.int u), some (.int i), some (.int a), some (.int o)] [] (n, t, K, L, J, R) P := by
  refine up_ind 4 (fun o ho ih => ?_)
  intro J h0 h
  rw [q254_237]
  simp only [q254_239, q254_240, q254_243, q254_244, q254_247, q254_248, q254_250, q254_251, q254_253, q254_254, q254_255, q254_258, q254_259, q254_260, q254_261, q254_263, q254_264, q254_265, q254_266, q254_269, m_0 hS, m_K hS, mR_standing hS, mK_standing hS, mL_standing hS, mR_oldStanding hS, mK_oldStanding hS, mL_oldStanding hS, as_nil, as_i, as_r, Nat.reduceAdd, Nat.reduceLeDiff, z_eq0, z_eq1, z_or, z_em, Classical.not_not, not_false_eq_true, not_true_eq_false, true_and, and_true, false_and, and_false, and_self, true_implies, false_implies, implies_true, Option.toList_some, Option.toList_none, List.cons_append, List.nil_append, Nat.add_eq_zero_iff, a_nl_i, a_nl_r, a_nl_n, true_or, or_true, eq_self, ok_4, ok_5, ok_6, ok_7, ok_9, ok_10, ok_20, ok_21, ok_24, ok_30, ok_48, ok_50, ok_60, ok_80, ok_120, ok_180, ok_192, ok_200, ok_900, ok_1000, ok_84000]
  refine ⟨fun h1 => ?_, fun h1 => ?_⟩
  · rw [show o = 4 by grind]
    exact hN J h
  · repeat refine And.intro (by grind) ?_
    exact ih (by grind) _ (by grind) (rV_st h)
theorem lp_ringFits_195 (hS : m_S M K L R) {m u : Int32} (hu : u = 0 ∨ u = 1) (hm : 0 ≤ m ∧ m ≤ 5) (hq : ∀ k : Int32, 0 ≤ k → k < m → (0 ≤ I (M + 48) k.toNatClampNeg ∧ I (M + 48) k.toNatClampNeg ≤ 29) ∧ 0 ≤ I (M + 20) (I (M + 48) k.toNatClampNeg).toNatClampNeg) (hd : ∀ k l : Int32, 0 ≤ k → k < m → 0 ≤ l → l < m → (I (M + 48) k.toNatClampNeg).toNatClampNeg = (I (M + 48) l.toNatClampNeg).toNatClampNeg → k = l) (hP : ∀ J, rV M m I J m → P (some (.int u)) (n, t, K, L, J, R)) : ∀ i : Int32, i ≤ 5 → ∀ J a o, 0 ≤ i → i ≤ m → rV M m I J i → a_at d (a_xm a_m254) 195 [some (a_rf M), some (.int m), some (.int u), some (.int i), a, o] [] (n, t, K, L, J, R) P := by
  refine up_ind 5 (fun i hi ih => ?_)
  intro J a o h0 him h
  obtain ⟨h1, h2, h3, h4⟩ := id h
  have er := rF_ra h2
  rw [q254_195]
  simp only [q254_196, q254_197, q254_200, q254_201, q254_204, q254_205, q254_206, q254_208, q254_209, q254_212, q254_214, q254_215, q254_218, q254_219, q254_220, q254_221, q254_222, q254_225, q254_227, q254_228, q254_231, q254_232, q254_233, q254_234, q254_235, q254_278, q254_279, m_0 hS, m_K hS, mR_ringAsk hS, mK_ringAsk hS, mL_ringAsk hS, mR_atBench hS, mK_atBench hS, mL_atBench hS, mR_oldBench hS, mK_oldBench hS, mL_oldBench hS, mR_atShift hS, mK_atShift hS, mL_atShift hS, mR_oldShift hS, mK_oldShift hS, mL_oldShift hS, as_nil, as_i, as_r, Nat.reduceAdd, Nat.reduceLeDiff, z_eq0, z_eq1, z_or, z_em, Classical.not_not, not_false_eq_true, not_true_eq_false, true_and, and_true, false_and, and_false, and_self, true_implies, false_implies, implies_true, Option.toList_some, Option.toList_none, List.cons_append, List.nil_append, Nat.add_eq_zero_iff, a_nl_i, a_nl_r, a_nl_n, true_or, or_true, eq_self, ok_4, ok_5, ok_6, ok_7, ok_9, ok_10, ok_20, ok_21, ok_24, ok_30, ok_48, ok_50, ok_60, ok_80, ok_120, ok_180, ok_192, ok_200, ok_900, ok_1000, ok_84000, ui_ap, ne_MM, ne_M0, ne_0M, Nat.reduceEqDiff, reduceIte, if_true, if_false, er]
  refine ⟨fun q => ?_, fun q => ?_⟩
  · have e : i = m := by grind
    subst e
    exact ⟨hu, hP J h⟩
  · have hi2 : i < m := by grind
    have q1 := hq i h0 hi2
    have q2 := h3 i h0 hi2
    have r1 := rg_oldBench h1 i.toNatClampNeg
    have r2 := rg_oldShift h1 i.toNatClampNeg
    have hk : rK M m I (I (M + 48) i.toNatClampNeg).toNatClampNeg := ⟨i, h0, hi2, rfl⟩
    repeat refine And.intro (by grind) ?_
    refine lp_ringFits_237 hS (I := I) (p := i + 1) q1.1 (by grind) (fun J2 h5 => ?_) 0 (by decide) _ (by decide) ⟨sR_atShift (sR_atBench h1 r1) r2, rF_ui (rF_ui h2 (Or.inr (Or.inr (Or.inr (Or.inr ⟨Or.inl rfl, hk⟩))))) (Or.inr (Or.inr (Or.inr (Or.inr ⟨Or.inr rfl, hk⟩)))), fun k p1 p2 => ?_, fun k p1 p2 => ?_⟩
    · simp only [q254_272, q254_275, as_nil, as_i, as_r, Nat.reduceAdd, Nat.reduceLeDiff, z_eq0, z_eq1, z_or, z_em, Classical.not_not, not_false_eq_true, not_true_eq_false, true_and, and_true, false_and, and_false, and_self, true_implies, false_implies, implies_true, Option.toList_some, Option.toList_none, List.cons_append, List.nil_append, Nat.add_eq_zero_iff, a_nl_i, a_nl_r, a_nl_n, true_or, or_true, eq_self, ok_4, ok_5, ok_6, ok_7, ok_9, ok_10, ok_20, ok_21, ok_24, ok_30, ok_48, ok_50, ok_60, ok_80, ok_120, ok_180, ok_192, ok_200, ok_900, ok_1000, ok_84000]
      exact ih (by grind) J2 _ _ (by grind) (by grind) h5
    · have := h3 k p1 p2
      simpa [ui_ap] using this
    · by_cases hk : k = i
      · subst hk
        simp only [ui_ap, ne_MM, ne_M0, ne_0M, Nat.reduceEqDiff, reduceIte, if_true, if_false, and_self, false_and, and_false, true_and]
        exact q2
      · have hne : ¬ (I (M + 48) k.toNatClampNeg).toNatClampNeg = (I (M + 48) i.toNatClampNeg).toNatClampNeg := fun e => hk (hd k i p1 (by grind) h0 hi2 e)
        simp only [ui_ap, ne_MM, ne_M0, ne_0M, Nat.reduceEqDiff, reduceIte, if_true, if_false, and_self, false_and, and_false, true_and, hne]
        exact h4 k p1 (by grind)
theorem ct_ringFits (hS : m_S M K L R) (hR : mR M I) {m : Int32} (hm : 0 ≤ m ∧ m ≤ 5) (hq : ∀ k : Int32, 0 ≤ k → k < m → (0 ≤ I (M + 48) k.toNatClampNeg ∧ I (M + 48) k.toNatClampNeg ≤ 29) ∧ 0 ≤ I (M + 20) (I (M + 48) k.toNatClampNeg).toNatClampNeg) (hd : ∀ k l : Int32, 0 ≤ k → k < m → 0 ≤ l → l < m → (I (M + 48) k.toNatClampNeg).toNatClampNeg = (I (M + 48) l.toNatClampNeg).toNatClampNeg → k = l) (hP : ∀ v J, rQ M I J → P (some (.int v)) (n, t, K, L, J, R)) : a_does (d + 11) 254 [a_rf M, .int m] (n, t, K, L, I, R) P := by
  rw [a_enter1 (M := a_m254) rfl (a_cat_rf (a_cat_int a_cat_nil)) (show 2 ≤ 6 by decide)]
  show a_at _ (a_xm a_m254) 0 [some (a_rf M), some (.int m), none, none, none, none] [] _ _
  simp only [q254_0, q254_1, as_nil, as_i, as_r, Nat.reduceAdd, Nat.reduceLeDiff, z_eq0, z_eq1, z_or, z_em, Classical.not_not, not_false_eq_true, not_true_eq_false, true_and, and_true, false_and, and_false, and_self, true_implies, false_implies, implies_true, Option.toList_some, Option.toList_none, List.cons_append, List.nil_append, Nat.add_eq_zero_iff, a_nl_i, a_nl_r, a_nl_n, true_or, or_true, eq_self, ok_4, ok_5, ok_6, ok_7, ok_9, ok_10, ok_20, ok_21, ok_24, ok_30, ok_48, ok_50, ok_60, ok_80, ok_120, ok_180, ok_192, ok_200, ok_900, ok_1000, ok_84000]
  refine lp_ringFits_2 hS hm hq hd (fun J a o h => ?_) 0 (by decide) I _ _ (by decide) hm.1 ⟨hR, fun _ _ _ _ _ _ _ _ => rfl, fun k p1 p2 => by grind, fun k _ _ => ⟨rfl, rfl⟩⟩
  simp only [q254_97, q254_98, q254_99, q254_100, as_nil, as_i, as_r, Nat.reduceAdd, Nat.reduceLeDiff, z_eq0, z_eq1, z_or, z_em, Classical.not_not, not_false_eq_true, not_true_eq_false, true_and, and_true, false_and, and_false, and_self, true_implies, false_implies, implies_true, Option.toList_some, Option.toList_none, List.cons_append, List.nil_append, Nat.add_eq_zero_iff, a_nl_i, a_nl_r, a_nl_n, true_or, or_true, eq_self, ok_4, ok_5, ok_6, ok_7, ok_9, ok_10, ok_20, ok_21, ok_24, ok_30, ok_48, ok_50, ok_60, ok_80, ok_120, ok_180, ok_192, ok_200, ok_900, ok_1000, ok_84000]
  refine lp_ringFits_101 hS hm hq (fun J u i o hu h => ?_) 0 (by decide) J _ _ (by decide) hm.1 (Or.inr rfl) h
  simp only [q254_193, q254_194, as_nil, as_i, as_r, Nat.reduceAdd, Nat.reduceLeDiff, z_eq0, z_eq1, z_or, z_em, Classical.not_not, not_false_eq_true, not_true_eq_false, true_and, and_true, false_and, and_false, and_self, true_implies, false_implies, implies_true, Option.toList_some, Option.toList_none, List.cons_append, List.nil_append, Nat.add_eq_zero_iff, a_nl_i, a_nl_r, a_nl_n, true_or, or_true, eq_self, ok_4, ok_5, ok_6, ok_7, ok_9, ok_10, ok_20, ok_21, ok_24, ok_30, ok_48, ok_50, ok_60, ok_80, ok_120, ok_180, ok_192, ok_200, ok_900, ok_1000, ok_84000]
  refine lp_ringFits_195 hS hu hm hq hd (fun J h => ?_) 0 (by decide) J _ _ (by decide) hm.1 h
  obtain ⟨h1, h2, h3, h4⟩ := h
  refine hP u J ⟨h1, fun x j p1 p2 p3 p4 p5 => ?_⟩
  by_cases hx : (x = (M + 20) ∨ x = (M + 21)) ∧ rK M m I j
  · obtain ⟨hx, k, k0, k1, k2⟩ := hx
    subst k2
    have := h4 k k0 k1
    rcases hx with hx | hx <;> subst hx
    · exact this.1
    · exact this.2
  · exact h2 x j p1 p2 p3 p4 p5 hx
theorem mF_Q (hF : mF M c I0 I) (h : rQ M I J) : mF M c I0 J := by
  have e : ∀ x j, ¬ sC M x j → ¬ x = (M + 22) → ¬ x = (M + 49) → ¬ x = (M + 50) → ¬ x = (M + 51) → J x j = I x j := h.2
  refine ⟨⟨h.1, fun x j hx => ?_⟩, mE_eq hF.2 ?_ ?_ ?_ ?_ ?_ ?_ ?_ ?_⟩
  · rw [e x j (by unfold eC at hx; unfold sC; omega) (by unfold eC at hx; omega) (by unfold eC at hx; omega) (by unfold eC at hx; omega) (by unfold eC at hx; omega)]
    exact hF.1.2 x j hx
  all_goals intros; exact e _ _ (by unfold sC; omega) (by omega) (by omega) (by omega) (by omega)
theorem lp_mayBeNext_87 (hS : m_S M K L R) (hR : mR M I) {a i : Int32} (ha : 0 ≤ a ∧ a < 30) (hi : 0 ≤ i ∧ i ≤ 5) (hq : ∀ k : Int32, 0 ≤ k → k < i → 0 ≤ I (M + 48) k.toNatClampNeg ∧ I (M + 48) k.toNatClampNeg ≤ 29) (hP : ∀ v : Int32, (¬ v = 0 → ∀ k : Int32, 0 ≤ k → k < i → ¬ I (M + 48) k.toNatClampNeg = a) → P (some (.int v)) (n, t, K, L, I, R)) : ∀ k : Int32, k ≤ 5 → ∀ u, 0 ≤ k → k ≤ i → (u = 0 ∨ u = 1) → (¬ u = 0 → ∀ l : Int32, 0 ≤ l → l < k → ¬ I (M + 48) l.toNatClampNeg = a) → a_at d (a_xm a_m253) 87 [some (a_rf M), some (.int a), some (.int i), some (.int u), some (.int k)] [] (n, t, K, L, I, R) P := by
  refine up_ind 5 (fun k hk ih => ?_)
  intro u h0 hki hz hu
  rw [q253_87]
  simp only [q253_89, q253_90, q253_93, q253_94, q253_97, q253_98, q253_101, q253_103, q253_104, q253_105, q253_108, q253_109, q253_112, q253_113, q253_116, q253_118, q253_119, q253_120, q253_121, q253_124, q253_125, q253_126, q253_129, q253_130, q253_133, q253_134, q253_135, q253_138, q253_141, q253_142, m_0 hS, m_K hS, mR_ringAsk hS, mK_ringAsk hS, mL_ringAsk hS, mR_group hS, mK_group hS, mL_group hS, as_nil, as_i, as_r, Nat.reduceAdd, Nat.reduceLeDiff, z_eq0, z_eq1, z_or, z_em, Classical.not_not, not_false_eq_true, not_true_eq_false, true_and, and_true, false_and, and_false, and_self, true_implies, false_implies, implies_true, Option.toList_some, Option.toList_none, List.cons_append, List.nil_append, Nat.add_eq_zero_iff, a_nl_i, a_nl_r, a_nl_n, true_or, or_true, eq_self, ok_4, ok_5, ok_6, ok_7, ok_9, ok_10, ok_20, ok_21, ok_24, ok_30, ok_48, ok_50, ok_60, ok_80, ok_120, ok_180, ok_192, ok_200, ok_900, ok_1000, ok_84000]
  refine ⟨fun h => ⟨hz, hP u (fun hv l p1 p2 => hu hv l p1 (by grind))⟩, fun h => ?_⟩
  have q1 := hq k h0 (by grind)
  have g1 : ∀ J : Nat → Nat → Int32, ∀ v : Int32, (v = 0 ∨ v = 1) → (¬ v = 0 → ¬ u = 0 ∧ ¬ I (M + 48) k.toNatClampNeg = a) → a_at d (a_xm a_m253) 87 [some (a_rf M), some (.int a), some (.int i), some (.int v), some (.int (k + 1))] [] (n, t, K, L, I, R) P := fun _ v hz hv => ih (by grind) v (by grind) (by grind) hz (fun hv2 l p1 p2 => by
    have h2 := hv hv2
    by_cases hl : l = k
    · subst hl; exact h2.2
    · exact hu h2.1 l p1 (by grind))
  repeat' first
    | with_reducible apply And.intro
    | with_reducible assumption
    | with_reducible intro _
    | with_reducible apply g1 I
    | simp only [q253_89, q253_90, q253_93, q253_94, q253_97, q253_98, q253_101, q253_103, q253_104, q253_105, q253_108, q253_109, q253_112, q253_113, q253_116, q253_118, q253_119, q253_120, q253_121, q253_124, q253_125, q253_126, q253_129, q253_130, q253_133, q253_134, q253_135, q253_138, m_0 hS, m_K hS, mR_ringAsk hS, mK_ringAsk hS, mL_ringAsk hS, mR_group hS, mK_group hS, mL_group hS, as_nil, as_i, as_r, Nat.reduceAdd, Nat.reduceLeDiff, z_eq0, z_eq1, z_or, z_em, Classical.not_not, not_false_eq_true, not_true_eq_false, true_and, and_true, false_and, and_false, and_self, true_implies, false_implies, implies_true, Option.toList_some, Option.toList_none, List.cons_append, List.nil_append, Nat.add_eq_zero_iff, a_nl_i, a_nl_r, a_nl_n, true_or, or_true, eq_self, ok_4, ok_5, ok_6, ok_7, ok_9, ok_10, ok_20, ok_21, ok_24, ok_30, ok_48, ok_50, ok_60, ok_80, ok_120, ok_180, ok_192, ok_200, ok_900, ok_1000, ok_84000]
  all_goals (try clear ih); (try clear g1); (try clear hP); grind [ui_ap]
theorem ct_mayBeNext (hS : m_S M K L R) (hR : mR M I) {a i : Int32} (ha : 0 ≤ a ∧ a < 30) (hi : 0 ≤ i ∧ i ≤ 5) (hq : ∀ k : Int32, 0 ≤ k → k < i → 0 ≤ I (M + 48) k.toNatClampNeg ∧ I (M + 48) k.toNatClampNeg ≤ 29) (hP : ∀ v : Int32, (¬ v = 0 → 0 ≤ I (M + 20) a.toNatClampNeg ∧ ∀ k : Int32, 0 ≤ k → k < i → ¬ I (M + 48) k.toNatClampNeg = a) → P (some (.int v)) (n, t, K, L, I, R)) : a_does (d + 2) 253 [a_rf M, .int a, .int i] (n, t, K, L, I, R) P := by
  have q0 : ¬ i = 0 → _ := fun h => hq 0 (by decide) (by grind)
  have q1 : ¬ i = 0 → _ := fun h => hq (i - 1) (by grind) (by grind)
  rw [a_enter1 (M := a_m253) rfl (a_cat_rf (a_cat_int (a_cat_int a_cat_nil))) (show 3 ≤ 5 by decide)]
  show a_at _ (a_xm a_m253) 0 [some (a_rf M), some (.int a), some (.int i), none, none] [] _ _
  have h23 : 0 ≤ I (M + 20) a.toNatClampNeg → a_at (d + 1) (a_xm a_m253) 23 [some (a_rf M), some (.int a), some (.int i), none, none] [] (n, t, K, L, I, R) P := by
    intro hb
    have h83 : ∀ u, (u = 0 ∨ u = 1) → a_at (d + 1) (a_xm a_m253) 83 [some (a_rf M), some (.int a), some (.int i), none, none] [.int u] (n, t, K, L, I, R) P := fun u hz => by
      simp only [q253_83, q253_84, q253_85, as_nil, as_i, as_r, Nat.reduceAdd, Nat.reduceLeDiff, z_eq0, z_eq1, z_or, z_em, Classical.not_not, not_false_eq_true, not_true_eq_false, true_and, and_true, false_and, and_false, and_self, true_implies, false_implies, implies_true, Option.toList_some, Option.toList_none, List.cons_append, List.nil_append, Nat.add_eq_zero_iff, a_nl_i, a_nl_r, a_nl_n, true_or, or_true, eq_self, ok_4, ok_5, ok_6, ok_7, ok_9, ok_10, ok_20, ok_21, ok_24, ok_30, ok_48, ok_50, ok_60, ok_80, ok_120, ok_180, ok_192, ok_200, ok_900, ok_1000, ok_84000]
      exact lp_mayBeNext_87 hS hR ha hi hq (fun v hv => hP v (fun h => ⟨hb, hv h⟩)) 0 (by decide) u (by decide) hi.1 hz (fun _ l p1 p2 => by grind)
    clear hq
    repeat' first
      | with_reducible apply And.intro
      | with_reducible assumption
      | with_reducible intro _
      | with_reducible apply h83
      | simp only [q253_23, q253_24, q253_27, q253_28, q253_29, q253_32, q253_33, q253_34, q253_37, q253_38, q253_41, q253_43, q253_44, q253_47, q253_48, q253_49, q253_50, q253_51, q253_52, q253_53, q253_54, q253_55, q253_58, q253_59, q253_62, q253_63, q253_64, q253_65, q253_68, q253_69, q253_72, q253_73, q253_74, q253_75, q253_78, q253_79, q253_82, m_0 hS, m_K hS, mR_ringAsk hS, mK_ringAsk hS, mL_ringAsk hS, mR_isWish hS, mK_isWish hS, mL_isWish hS, mR_length hS, mK_length hS, mL_length hS, as_nil, as_i, as_r, Nat.reduceAdd, Nat.reduceLeDiff, z_eq0, z_eq1, z_or, z_em, Classical.not_not, not_false_eq_true, not_true_eq_false, true_and, and_true, false_and, and_false, and_self, true_implies, false_implies, implies_true, Option.toList_some, Option.toList_none, List.cons_append, List.nil_append, Nat.add_eq_zero_iff, a_nl_i, a_nl_r, a_nl_n, true_or, or_true, eq_self, ok_4, ok_5, ok_6, ok_7, ok_9, ok_10, ok_20, ok_21, ok_24, ok_30, ok_48, ok_50, ok_60, ok_80, ok_120, ok_180, ok_192, ok_200, ok_900, ok_1000, ok_84000]
    all_goals (try clear h83); (try clear hP); grind [ui_ap]
  clear hq q0 q1
  repeat' first
    | with_reducible apply And.intro
    | with_reducible assumption
    | with_reducible intro _
    | with_reducible apply hP
    | with_reducible apply h23
    | simp only [q253_0, q253_1, q253_2, q253_5, q253_8, q253_9, q253_10, q253_13, q253_14, q253_15, q253_18, q253_21, q253_22, m_0 hS, m_K hS, mR_atShift hS, mK_atShift hS, mL_atShift hS, sp_hasPlace hS, sp_isBegun hS, as_nil, as_i, as_r, Nat.reduceAdd, Nat.reduceLeDiff, z_eq0, z_eq1, z_or, z_em, Classical.not_not, not_false_eq_true, not_true_eq_false, true_and, and_true, false_and, and_false, and_self, true_implies, false_implies, implies_true, Option.toList_some, Option.toList_none, List.cons_append, List.nil_append, Nat.add_eq_zero_iff, a_nl_i, a_nl_r, a_nl_n, true_or, or_true, eq_self, ok_4, ok_5, ok_6, ok_7, ok_9, ok_10, ok_20, ok_21, ok_24, ok_30, ok_48, ok_50, ok_60, ok_80, ok_120, ok_180, ok_192, ok_200, ok_900, ok_1000, ok_84000]
  all_goals (try clear h23); (try clear hP); grind [ui_ap]
theorem mu_stay {p i : Int32} {w w' : Nat → Int32} (h0 : 0 ≤ i) (h4 : i ≤ 4) (hp : 0 ≤ p ∧ p ≤ 48) (hw : -1 ≤ w i.toNatClampNeg ∧ w i.toNatClampNeg < w' i.toNatClampNeg ∧ w' i.toNatClampNeg ≤ p) (hs : ∀ k : Nat, k < i.toNatClampNeg → w' k = w k) : mu p w' i < mu p w i := by
  have hq : (p + 1 - w' i.toNatClampNeg).toNatClampNeg < (p + 1 - w i.toNatClampNeg).toNatClampNeg := cl_lt (by grind) (by grind)
  rcases i_cases h0 h4 with h | h | h | h | h <;> subst h
  · have a1 : (p + 1 - w' 0).toNatClampNeg < (p + 1 - w 0).toNatClampNeg := hq
    simp [mu]
    omega
  · have e0 := hs 0 (by decide)
    have a1 : (p + 1 - w' 1).toNatClampNeg < (p + 1 - w 1).toNatClampNeg := hq
    simp [mu, e0]
    omega
  · have e0 := hs 0 (by decide)
    have e1 := hs 1 (by decide)
    have a1 : (p + 1 - w' 2).toNatClampNeg < (p + 1 - w 2).toNatClampNeg := hq
    simp [mu, e0, e1]
    omega
  · have e0 := hs 0 (by decide)
    have e1 := hs 1 (by decide)
    have e2 := hs 2 (by decide)
    have a1 : (p + 1 - w' 3).toNatClampNeg < (p + 1 - w 3).toNatClampNeg := hq
    simp [mu, e0, e1, e2]
    omega
  · have e0 := hs 0 (by decide)
    have e1 := hs 1 (by decide)
    have e2 := hs 2 (by decide)
    have e3 := hs 3 (by decide)
    have a1 : (p + 1 - w' 4).toNatClampNeg < (p + 1 - w 4).toNatClampNeg := hq
    simp [mu, e0, e1, e2, e3]
    omega
/-- the ring so far -/
def fI (M c : Nat) (I0 : Nat → Nat → Int32) (A : Int32) (J : Nat → Nat → Int32) (i : Int32) : Prop := mF M c I0 J ∧ J M 17 = A ∧ (∀ k : Int32, 0 ≤ k → k < i → (0 ≤ J (M + 48) k.toNatClampNeg ∧ J (M + 48) k.toNatClampNeg < A) ∧ 0 ≤ J (M + 20) (J (M + 48) k.toNatClampNeg).toNatClampNeg) ∧ (∀ k l : Int32, 0 ≤ k → k < l → l < i → ¬ J (M + 48) k.toNatClampNeg = J (M + 48) l.toNatClampNeg)
theorem lp_findRing_29 (hS : m_S M K L R) {A m i : Int32} (h : fI M c I0 A J i) (hA : A ≤ 30) (hi : 0 ≤ i ∧ i ≤ 4) (hN : ∀ a, 0 ≤ a → a ≤ A → J (M + 48) i.toNatClampNeg < a → (a < A → 0 ≤ J (M + 20) a.toNatClampNeg ∧ ∀ k : Int32, 0 ≤ k → k < i → ¬ J (M + 48) k.toNatClampNeg = a) → a_at (d + 11) (a_xm a_m252) 52 [some (a_rf M), some (.int m), some (.int i), some (.int a)] [] (n, t, K, L, J, R) P) : ∀ a : Int32, a ≤ 30 → 0 ≤ a → a ≤ A → J (M + 48) i.toNatClampNeg < a → a_at (d + 11) (a_xm a_m252) 29 [some (a_rf M), some (.int m), some (.int i), some (.int a)] [] (n, t, K, L, J, R) P := by
  refine up_ind 30 (fun a ha ih => ?_)
  intro h0 haA hlt
  obtain ⟨f1, f2, f3, f4⟩ := id h
  rw [q252_29]
  simp only [q252_30, q252_31, q252_34, q252_37, q252_38, q252_39, q252_40, m_0 hS, m_K hS, as_nil, as_i, as_r, Nat.reduceAdd, Nat.reduceLeDiff, z_eq0, z_eq1, z_or, z_em, Classical.not_not, not_false_eq_true, not_true_eq_false, true_and, and_true, false_and, and_false, and_self, true_implies, false_implies, implies_true, Option.toList_some, Option.toList_none, List.cons_append, List.nil_append, Nat.add_eq_zero_iff, a_nl_i, a_nl_r, a_nl_n, true_or, or_true, eq_self, ok_4, ok_5, ok_6, ok_7, ok_9, ok_10, ok_20, ok_21, ok_24, ok_30, ok_48, ok_50, ok_60, ok_80, ok_120, ok_180, ok_192, ok_200, ok_900, ok_1000, ok_84000, f2]
  refine ⟨fun h1 => hN a h0 haA hlt (fun h2 => by grind), fun h1 => ?_⟩
  refine ct_mayBeNext (d := d + 9) hS f1.1.1 (by grind) (by grind) (fun k p1 p2 => by have := f3 k p1 p2; grind) (fun v hv => ?_)
  simp only [q252_43, q252_46, q252_49, as_nil, as_i, as_r, Nat.reduceAdd, Nat.reduceLeDiff, z_eq0, z_eq1, z_or, z_em, Classical.not_not, not_false_eq_true, not_true_eq_false, true_and, and_true, false_and, and_false, and_self, true_implies, false_implies, implies_true, Option.toList_some, Option.toList_none, List.cons_append, List.nil_append, Nat.add_eq_zero_iff, a_nl_i, a_nl_r, a_nl_n, true_or, or_true, eq_self, ok_4, ok_5, ok_6, ok_7, ok_9, ok_10, ok_20, ok_21, ok_24, ok_30, ok_48, ok_50, ok_60, ok_80, ok_120, ok_180, ok_192, ok_200, ok_900, ok_1000, ok_84000]
  refine ⟨fun h2 => hN a h0 haA hlt (fun _ => hv h2), fun h2 => ih (by grind) (by grind) (by grind) (by grind)⟩
theorem lp_findRing_16 (hS : m_S M K L R) {A m : Int32} (hA : 0 ≤ A ∧ A ≤ 30) (hm : 2 ≤ m ∧ m ≤ 5) (hN : ∀ J i a, mF M c I0 J → J M 17 = A → a_at (d + 11) (a_xm a_m252) 129 [some (a_rf M), some (.int m), some (.int i), a] [] (n, t, K, L, J, R) P) (hP : ∀ J, mF M c I0 J → J M 74 = m → (∀ k : Int32, 0 ≤ k → k < m → (0 ≤ J (M + 48) k.toNatClampNeg ∧ J (M + 48) k.toNatClampNeg ≤ 29) ∧ 0 ≤ J (M + 20) (J (M + 48) k.toNatClampNeg).toNatClampNeg) → P none (n, t, K, L, J, R)) : ∀ (z : Nat) J i a, mu A (J (M + 48)) i < z → -1 ≤ i ∧ i < m → fI M c I0 A J i → (0 ≤ i → -1 ≤ J (M + 48) i.toNatClampNeg ∧ J (M + 48) i.toNatClampNeg < A) → a_at (d + 11) (a_xm a_m252) 16 [some (a_rf M), some (.int m), some (.int i), a] [] (n, t, K, L, J, R) P := by
  intro z
  induction z with
  | zero => intro J i a hz; omega
  | succ z ih =>
  intro J i a hz hi h hri
  obtain ⟨f1, f2, f3, f4⟩ := id h
  rw [q252_16]
  simp only [q252_17, q252_20, q252_21, q252_24, q252_25, q252_26, q252_27, q252_28, m_0 hS, m_K hS, mR_ringAsk hS, mK_ringAsk hS, mL_ringAsk hS, as_nil, as_i, as_r, Nat.reduceAdd, Nat.reduceLeDiff, z_eq0, z_eq1, z_or, z_em, Classical.not_not, not_false_eq_true, not_true_eq_false, true_and, and_true, false_and, and_false, and_self, true_implies, false_implies, implies_true, Option.toList_some, Option.toList_none, List.cons_append, List.nil_append, Nat.add_eq_zero_iff, a_nl_i, a_nl_r, a_nl_n, true_or, or_true, eq_self, ok_4, ok_5, ok_6, ok_7, ok_9, ok_10, ok_20, ok_21, ok_24, ok_30, ok_48, ok_50, ok_60, ok_80, ok_120, ok_180, ok_192, ok_200, ok_900, ok_1000, ok_84000]
  refine ⟨fun h1 => hN J i a f1 f2, fun h1 => ?_⟩
  have h0 : 0 ≤ i := by grind
  have hi4 : i ≤ 4 := by grind
  have hr := hri h0
  have hpA : 0 ≤ A ∧ A ≤ 48 := by grind
  refine ⟨by grind, ?_⟩
  refine lp_findRing_29 hS h hA.2 ⟨h0, hi4⟩ (fun a2 p0 p1 p2 p3 => ?_) _ (by grind) (by grind) (by grind) (by grind)
  simp only [q252_52, q252_53, q252_56, q252_57, q252_58, q252_59, q252_60, q252_61, q252_64, m_0 hS, m_K hS, mR_ringAsk hS, mK_ringAsk hS, mL_ringAsk hS, as_nil, as_i, as_r, Nat.reduceAdd, Nat.reduceLeDiff, z_eq0, z_eq1, z_or, z_em, Classical.not_not, not_false_eq_true, not_true_eq_false, true_and, and_true, false_and, and_false, and_self, true_implies, false_implies, implies_true, Option.toList_some, Option.toList_none, List.cons_append, List.nil_append, Nat.add_eq_zero_iff, a_nl_i, a_nl_r, a_nl_n, true_or, or_true, eq_self, ok_4, ok_5, ok_6, ok_7, ok_9, ok_10, ok_20, ok_21, ok_24, ok_30, ok_48, ok_50, ok_60, ok_80, ok_120, ok_180, ok_192, ok_200, ok_900, ok_1000, ok_84000, ui_ap, ne_MM, ne_M0, ne_0M, Nat.reduceEqDiff, reduceIte, if_true, if_false, f2]
  refine ⟨by grind, ?_⟩
  have w1 : ∀ k : Int32, 0 ≤ k → ¬ k = i → (a_ui J (M + 48) i.toNatClampNeg a2) (M + 48) k.toNatClampNeg = J (M + 48) k.toNatClampNeg := fun k q1 q2 => by
    rw [ui_ap, if_neg (fun e => q2 (cl_inj q1 h0 e.2))]
  have w2 : (a_ui J (M + 48) i.toNatClampNeg a2) (M + 48) i.toNatClampNeg = a2 := by simp [ui_ap]
  have w3 : ∀ j, (a_ui J (M + 48) i.toNatClampNeg a2) (M + 20) j = J (M + 20) j := fun j => by simp [ui_ap]
  have w4 : (a_ui J (M + 48) i.toNatClampNeg a2) M 17 = A := by simpa [ui_ap] using f2
  have w5 : mF M c I0 (a_ui J (M + 48) i.toNatClampNeg a2) := sF_ringAsk f1
  have w6 : ∀ k : Nat, k < i.toNatClampNeg → (a_ui J (M + 48) i.toNatClampNeg a2) (M + 48) k = J (M + 48) k := fun k hk => by
    rw [ui_ap, if_neg (by omega)]
  revert w1 w2 w3 w4 w5 w6
  generalize a_ui J (M + 48) i.toNatClampNeg a2 = J1
  intro w1 w2 w3 w4 w5 w6
  refine ⟨fun hne => ?_, fun heq => ?_⟩
  · -- one more
    have q1 : a2 < A := by grind
    have q2 := p3 q1
    have f5 : fI M c I0 A J1 (i + 1) := by
      refine ⟨w5, w4, fun k k0 k1 => ?_, fun k l k0 k1 k2 => ?_⟩
      · by_cases hk : k = i
        · subst hk
          rw [w2, w3]
          exact ⟨⟨p0, q1⟩, q2.1⟩
        · rw [w1 k k0 hk, w3]
          exact f3 k k0 (by grind)
      · by_cases hl : l = i
        · subst hl
          rw [w2, w1 k k0 (by grind)]
          exact q2.2 k k0 k1
        · rw [w1 k k0 (by grind), w1 l (by grind) hl]
          exact f4 k l k0 k1 (by grind)
    have f6 : fI M c I0 A J1 i := ⟨w5, w4, fun k k0 k1 => f5.2.2.1 k k0 (by grind), fun k l k0 k1 k2 => f5.2.2.2 k l k0 k1 (by grind)⟩
    have hstay : mu A (J1 (M + 48)) i < z := Nat.lt_of_lt_of_le (mu_stay (w := J (M + 48)) h0 hi4 hpA ⟨hr.1, by rw [w2]; exact p2, by rw [w2]; exact p1⟩ w6) (by omega)
    simp only [q252_73, q252_74, q252_75, q252_76, q252_77, q252_80, q252_83, q252_84, q252_87, q252_88, q252_89, q252_90, q252_126, m_0 hS, m_K hS, mR_ringAsk hS, mK_ringAsk hS, mL_ringAsk hS, as_nil, as_i, as_r, Nat.reduceAdd, Nat.reduceLeDiff, z_eq0, z_eq1, z_or, z_em, Classical.not_not, not_false_eq_true, not_true_eq_false, true_and, and_true, false_and, and_false, and_self, true_implies, false_implies, implies_true, Option.toList_some, Option.toList_none, List.cons_append, List.nil_append, Nat.add_eq_zero_iff, a_nl_i, a_nl_r, a_nl_n, true_or, or_true, eq_self, ok_4, ok_5, ok_6, ok_7, ok_9, ok_10, ok_20, ok_21, ok_24, ok_30, ok_48, ok_50, ok_60, ok_80, ok_120, ok_180, ok_192, ok_200, ok_900, ok_1000, ok_84000]
    refine ⟨fun hfull => ?_, fun hmore => ?_⟩
    · have him : i + 1 = m := by grind
      have hz0 := f5.2.2.1 0 (by decide) (by grind)
      have z0 : (0 : Int32).toNatClampNeg = 0 := rfl
      rw [z0] at hz0
      simp only [q252_93, q252_94, q252_97, q252_99, q252_100, q252_101, q252_102, q252_105, q252_106, q252_107, q252_108, q252_109, q252_112, q252_113, q252_114, q252_126, m_0 hS, m_K hS, mR_isWish hS, mK_isWish hS, mL_isWish hS, mR_ringAsk hS, mK_ringAsk hS, mL_ringAsk hS, as_nil, as_i, as_r, Nat.reduceAdd, Nat.reduceLeDiff, z_eq0, z_eq1, z_or, z_em, Classical.not_not, not_false_eq_true, not_true_eq_false, true_and, and_true, false_and, and_false, and_self, true_implies, false_implies, implies_true, Option.toList_some, Option.toList_none, List.cons_append, List.nil_append, Nat.add_eq_zero_iff, a_nl_i, a_nl_r, a_nl_n, true_or, or_true, eq_self, ok_4, ok_5, ok_6, ok_7, ok_9, ok_10, ok_20, ok_21, ok_24, ok_30, ok_48, ok_50, ok_60, ok_80, ok_120, ok_180, ok_192, ok_200, ok_900, ok_1000, ok_84000]
      refine ⟨by grind, by grind, fun hw => ih J1 i _ hstay hi f6 (fun _ => by rw [w2]; exact ⟨by grind, q1⟩), fun hw => ?_⟩
      rw [him] at f5
      obtain ⟨f7, f8, f9, f10⟩ := id f5
      refine ct_ringFits hS w5.1.1 ⟨by grind, hm.2⟩ (fun k k0 k1 => ⟨⟨(f9 k k0 k1).1.1, by have := (f9 k k0 k1).1.2; grind⟩, (f9 k k0 k1).2⟩) (fun k l k0 k1 l0 l1 e => ?_) (fun v J3 hQ => ?_)
      · have e2 := cl_inj (f9 k k0 k1).1.1 (f9 l l0 l1).1.1 e
        by_cases hkl : k < l
        · exact absurd e2 (f10 k l k0 hkl l1)
        · by_cases hlk : l < k
          · exact absurd e2.symm (f10 l k l0 hlk k1)
          · grind
      · have f11 := mF_Q w5 hQ
        have e1 : J3 (M + 48) = J1 (M + 48) := by funext j; exact hQ.2 _ _ (by unfold sC; omega) (by omega) (by omega) (by omega) (by omega)
        have e2 : ∀ j, J3 (M + 20) j = J1 (M + 20) j := fun j => hQ.2 _ _ (by unfold sC; omega) (by omega) (by omega) (by omega) (by omega)
        have e3 : J3 M 17 = A := (hQ.2 _ _ (by unfold sC; omega) (by omega) (by omega) (by omega) (by omega)).trans w4
        simp only [q252_117, q252_120, q252_121, q252_122, q252_125, q252_126, m_0 hS, m_K hS, as_nil, as_i, as_r, Nat.reduceAdd, Nat.reduceLeDiff, z_eq0, z_eq1, z_or, z_em, Classical.not_not, not_false_eq_true, not_true_eq_false, true_and, and_true, false_and, and_false, and_self, true_implies, false_implies, implies_true, Option.toList_some, Option.toList_none, List.cons_append, List.nil_append, Nat.add_eq_zero_iff, a_nl_i, a_nl_r, a_nl_n, true_or, or_true, eq_self, ok_4, ok_5, ok_6, ok_7, ok_9, ok_10, ok_20, ok_21, ok_24, ok_30, ok_48, ok_50, ok_60, ok_80, ok_120, ok_180, ok_192, ok_200, ok_900, ok_1000, ok_84000]
        refine ⟨fun hv => ?_, fun hv => ?_⟩
        · refine ih J3 i _ (by rw [e1]; exact hstay) hi ⟨f11, e3, ?_, ?_⟩ (fun _ => by rw [e1, w2]; exact ⟨by grind, q1⟩)
          · rw [e1]; intro k k0 k1; rw [e2]; exact f6.2.2.1 k k0 k1
          · rw [e1]; exact f6.2.2.2
        · refine hP _ (sF_ringMany f11) (by simp [ui_ap]) (fun k k0 k1 => ?_)
          have := f9 k k0 k1
          simp only [ui_ap, ne_MM, ne_M0, ne_0M, Nat.reduceEqDiff, reduceIte, if_true, if_false, false_and, and_false, e1, e2]
          exact ⟨⟨this.1.1, by grind⟩, this.2⟩
    · have k1 : (i + 1).toNatClampNeg = i.toNatClampNeg + 1 := cl_up h0 (by grind)
      have x1 : ∀ k : Int32, 0 ≤ k → k < i + 1 → (a_ui J1 (M + 48) (i + 1).toNatClampNeg (-1)) (M + 48) k.toNatClampNeg = J1 (M + 48) k.toNatClampNeg := fun k q1 q2 => by
        rw [ui_ap, if_neg (fun e => by have := cl_inj q1 (by grind) e.2; grind)]
      have x2 : (a_ui J1 (M + 48) (i + 1).toNatClampNeg (-1)) (M + 48) (i + 1).toNatClampNeg = -1 := by simp [ui_ap]
      have x3 : ∀ j, (a_ui J1 (M + 48) (i + 1).toNatClampNeg (-1)) (M + 20) j = J1 (M + 20) j := fun j => by simp [ui_ap]
      have x4 : (a_ui J1 (M + 48) (i + 1).toNatClampNeg (-1)) M 17 = A := by simpa [ui_ap] using w4
      have x6 : ∀ k : Nat, k < i.toNatClampNeg → (a_ui J1 (M + 48) (i + 1).toNatClampNeg (-1)) (M + 48) k = J (M + 48) k := fun k hk => by
        rw [ui_ap, if_neg (by omega), w6 k hk]
      refine ⟨by grind, ?_⟩
      refine ih _ (i + 1) _ ?_ (by grind) ⟨sF_ringAsk w5, x4, fun k k0 k1 => ?_, fun k l k0 k1 k2 => ?_⟩ (fun _ => by rw [x2]; exact ⟨by decide, by grind⟩)
      · refine Nat.lt_of_lt_of_le (mu_on (w := J (M + 48)) h0 (by grind) hpA ⟨hr.1, ?_, ?_⟩ x6 x2) (by omega)
        · rw [x1 i h0 (by grind), w2]; exact p2
        · rw [x1 i h0 (by grind), w2]; exact p1
      · rw [x1 k k0 k1, x3]
        exact f5.2.2.1 k k0 k1
      · rw [x1 k k0 (by grind), x1 l (by grind) k2]
        exact f5.2.2.2 k l k0 k1 k2
  · -- none is left here
    simp only [q252_67, q252_70, q252_126, as_nil, as_i, as_r, Nat.reduceAdd, Nat.reduceLeDiff, z_eq0, z_eq1, z_or, z_em, Classical.not_not, not_false_eq_true, not_true_eq_false, true_and, and_true, false_and, and_false, and_self, true_implies, false_implies, implies_true, Option.toList_some, Option.toList_none, List.cons_append, List.nil_append, Nat.add_eq_zero_iff, a_nl_i, a_nl_r, a_nl_n, true_or, or_true, eq_self, ok_4, ok_5, ok_6, ok_7, ok_9, ok_10, ok_20, ok_21, ok_24, ok_30, ok_48, ok_50, ok_60, ok_80, ok_120, ok_180, ok_192, ok_200, ok_900, ok_1000, ok_84000]
    refine ih J1 _ _ (Nat.lt_of_lt_of_le (mu_back (w := J (M + 48)) h0 hi4 hpA ⟨hr.1, by grind⟩ w6) (by omega)) (by grind) ⟨w5, w4, fun k k0 k1 => ?_, fun k l k0 k1 k2 => ?_⟩ (fun q => ?_)
    · rw [w1 k k0 (by grind), w3]; exact f3 k k0 (by grind)
    · rw [w1 k k0 (by grind), w1 l (by grind) (by grind)]; exact f4 k l k0 k1 (by grind)
    · rw [w1 _ q (by grind)]
      have := f3 (i + (-1)) q (by grind)
      grind
theorem lp_findRing_2 (hS : m_S M K L R) (hP : ∀ J, mF M c I0 J → 0 ≤ J M 74 ∧ J M 74 ≤ 5 → (∀ k : Int32, 0 ≤ k → k < J M 74 → (0 ≤ J (M + 48) k.toNatClampNeg ∧ J (M + 48) k.toNatClampNeg ≤ 29) ∧ 0 ≤ J (M + 20) (J (M + 48) k.toNatClampNeg).toNatClampNeg) → P none (n, t, K, L, J, R)) : ∀ m : Int32, m ≤ 6 → ∀ J i a, 2 ≤ m → mF M c I0 J → a_at (d + 11) (a_xm a_m252) 2 [some (a_rf M), some (.int m), i, a] [] (n, t, K, L, J, R) P := by
  refine up_ind 6 (fun m hm6 ih => ?_)
  intro J i a hm hF
  have r0 := rg_asks hF.1.1
  rw [q252_2]
  simp only [q252_3, q252_4, q252_7, q252_8, q252_9, q252_10, q252_13, q252_14, q252_15, q252_135, q252_136, q252_137, q252_140, m_0 hS, m_K hS, mR_ringAsk hS, mK_ringAsk hS, mL_ringAsk hS, as_nil, as_i, as_r, Nat.reduceAdd, Nat.reduceLeDiff, z_eq0, z_eq1, z_or, z_em, Classical.not_not, not_false_eq_true, not_true_eq_false, true_and, and_true, false_and, and_false, and_self, true_implies, false_implies, implies_true, Option.toList_some, Option.toList_none, List.cons_append, List.nil_append, Nat.add_eq_zero_iff, a_nl_i, a_nl_r, a_nl_n, true_or, or_true, eq_self, ok_4, ok_5, ok_6, ok_7, ok_9, ok_10, ok_20, ok_21, ok_24, ok_30, ok_48, ok_50, ok_60, ok_80, ok_120, ok_180, ok_192, ok_200, ok_900, ok_1000, ok_84000]
  refine ⟨fun h => ?_, fun h => ⟨by grind, ?_⟩⟩
  · refine hP _ (sF_ringMany hF) ?_ (fun k k0 k1 => ?_)
    · simp only [ui_ap, ne_MM, ne_M0, ne_0M, Nat.reduceEqDiff, reduceIte, if_true, if_false, and_self]; decide
    · simp only [ui_ap, ne_MM, ne_M0, ne_0M, Nat.reduceEqDiff, reduceIte, if_true, if_false, and_self] at k1
      grind
  · refine lp_findRing_16 hS r0 ⟨hm, by grind⟩ (fun J2 i2 a2 hF2 e2 => ?_) (fun J2 hF2 e2 h2 => hP J2 hF2 (by rw [e2]; grind) (by rw [e2]; exact h2)) _ _ _ _ (Nat.lt_succ_self _) (by grind) ⟨sF_ringAsk hF, by simp [ui_ap], fun k k0 k1 => by grind, fun k l k0 k1 k2 => by grind⟩ (fun _ => ?_)
    · simp only [q252_129, q252_132, as_nil, as_i, as_r, Nat.reduceAdd, Nat.reduceLeDiff, z_eq0, z_eq1, z_or, z_em, Classical.not_not, not_false_eq_true, not_true_eq_false, true_and, and_true, false_and, and_false, and_self, true_implies, false_implies, implies_true, Option.toList_some, Option.toList_none, List.cons_append, List.nil_append, Nat.add_eq_zero_iff, a_nl_i, a_nl_r, a_nl_n, true_or, or_true, eq_self, ok_4, ok_5, ok_6, ok_7, ok_9, ok_10, ok_20, ok_21, ok_24, ok_30, ok_48, ok_50, ok_60, ok_80, ok_120, ok_180, ok_192, ok_200, ok_900, ok_1000, ok_84000]
      exact ih (by grind) J2 _ _ (by grind) hF2
    · have : (a_ui J (M + 48) (0 : Int32).toNatClampNeg (-1)) (M + 48) (0 : Int32).toNatClampNeg = -1 := by simp [ui_ap]
      rw [this]
      exact ⟨by decide, by grind⟩
theorem ct_findRing (hS : m_S M K L R) (hF : mF M c I0 I) (hP : ∀ J, mF M c I0 J → 0 ≤ J M 74 ∧ J M 74 ≤ 5 → (∀ k : Int32, 0 ≤ k → k < J M 74 → (0 ≤ J (M + 48) k.toNatClampNeg ∧ J (M + 48) k.toNatClampNeg ≤ 29) ∧ 0 ≤ J (M + 20) (J (M + 48) k.toNatClampNeg).toNatClampNeg) → P none (n, t, K, L, J, R)) : a_does (d + 12) 252 [a_rf M] (n, t, K, L, I, R) P := by
  rw [a_enter1 (M := a_m252) rfl (a_cat_rf a_cat_nil) (show 1 ≤ 4 by decide)]
  show a_at _ (a_xm a_m252) 0 [some (a_rf M), none, none, none] [] _ _
  simp only [q252_0, q252_1, as_nil, as_i, as_r, Nat.reduceAdd, Nat.reduceLeDiff, z_eq0, z_eq1, z_or, z_em, Classical.not_not, not_false_eq_true, not_true_eq_false, true_and, and_true, false_and, and_false, and_self, true_implies, false_implies, implies_true, Option.toList_some, Option.toList_none, List.cons_append, List.nil_append, Nat.add_eq_zero_iff, a_nl_i, a_nl_r, a_nl_n, true_or, or_true, eq_self, ok_4, ok_5, ok_6, ok_7, ok_9, ok_10, ok_20, ok_21, ok_24, ok_30, ok_48, ok_50, ok_60, ok_80, ok_120, ok_180, ok_192, ok_200, ok_900, ok_1000, ok_84000]
  exact lp_findRing_2 hS hP 2 (by decide) I _ _ (by decide) hF
theorem pu_ring (hS : m_S M K L R) (hF : mF M c I0 I) (hc : c + 130 ≤ 84000) {a : Int32} (hP : ∀ v J, mF M (c + 120) I0 J → P (some (.int v)) (n, t, K, L, J, R)) : a_does (d + 16) 251 [a_rf M, .int a] (n, t, K, L, I, R) P := by
  have hR := hF.1.1
  have g3 := mC_refl hR
  have hL4 : ∀ J, mF M (c + 4) I0 J → mF M (c + 120) I0 J := fun J h => mF_le h (by omega)
  have hL : ∀ J, mF M c I0 J → mF M (c + 120) I0 J := fun J h => mF_le h (by omega)
  rw [a_enter1 (M := a_m251) rfl (a_cat_rf (a_cat_int a_cat_nil)) (show 2 ≤ 2 by decide)]
  show a_at _ (a_xm a_m251) 0 [some (a_rf M), some (.int a)] [] _ _
  have h12 : -1 ≤ a → a_at (d + 15) (a_xm a_m251) 12 [some (a_rf M), some (.int a)] [] (n, t, K, L, I, R) P := by
    intro q
    simp only [q251_12, q251_13, m_0 hS, m_K hS, as_nil, as_i, as_r, Nat.reduceAdd, Nat.reduceLeDiff, z_eq0, z_eq1, z_or, z_em, Classical.not_not, not_false_eq_true, not_true_eq_false, true_and, and_true, false_and, and_false, and_self, true_implies, false_implies, implies_true, Option.toList_some, Option.toList_none, List.cons_append, List.nil_append, Nat.add_eq_zero_iff, a_nl_i, a_nl_r, a_nl_n, true_or, or_true, eq_self, ok_4, ok_5, ok_6, ok_7, ok_9, ok_10, ok_20, ok_21, ok_24, ok_30, ok_48, ok_50, ok_60, ok_80, ok_120, ok_180, ok_192, ok_200, ok_900, ok_1000, ok_84000]
    refine ct_findRing (d := d + 3) hS hF (fun J f1 f2 f3 => ?_)
    repeat' first
      | with_reducible apply And.intro
      | with_reducible assumption
      | with_reducible intro _
      | with_reducible apply hP
      | with_reducible apply hL
      | simp only [q251_16, q251_17, q251_18, q251_21, q251_22, q251_25, q251_28, q251_29, q251_30, q251_33, q251_36, q251_37, q251_40, q251_41, q251_42, q251_45, q251_47, m_0 hS, m_K hS, mR_ringAsk hS, mK_ringAsk hS, mL_ringAsk hS, as_nil, as_i, as_r, Nat.reduceAdd, Nat.reduceLeDiff, z_eq0, z_eq1, z_or, z_em, Classical.not_not, not_false_eq_true, not_true_eq_false, true_and, and_true, false_and, and_false, and_self, true_implies, false_implies, implies_true, Option.toList_some, Option.toList_none, List.cons_append, List.nil_append, Nat.add_eq_zero_iff, a_nl_i, a_nl_r, a_nl_n, true_or, or_true, eq_self, ok_4, ok_5, ok_6, ok_7, ok_9, ok_10, ok_20, ok_21, ok_24, ok_30, ok_48, ok_50, ok_60, ok_80, ok_120, ok_180, ok_192, ok_200, ok_900, ok_1000, ok_84000]
    all_goals grind [ui_ap]
  repeat' first
    | with_reducible apply And.intro
    | with_reducible assumption
    | with_reducible intro _
    | with_reducible apply hP
    | with_reducible apply hL
    | with_reducible apply sF_refused
    | with_reducible apply h12
    | simp only [q251_0, q251_1, q251_2, q251_5, q251_6, q251_8, q251_11, m_0 hS, m_K hS, sp_refuse_1 hS, sp_refuse_2 hS, sp_refuse_3 hS, sp_refuse_4 hS, sp_refuse_5 hS, sp_refuse_6 hS, as_nil, as_i, as_r, Nat.reduceAdd, Nat.reduceLeDiff, z_eq0, z_eq1, z_or, z_em, Classical.not_not, not_false_eq_true, not_true_eq_false, true_and, and_true, false_and, and_false, and_self, true_implies, false_implies, implies_true, Option.toList_some, Option.toList_none, List.cons_append, List.nil_append, Nat.add_eq_zero_iff, a_nl_i, a_nl_r, a_nl_n, true_or, or_true, eq_self, ok_4, ok_5, ok_6, ok_7, ok_9, ok_10, ok_20, ok_21, ok_24, ok_30, ok_48, ok_50, ok_60, ok_80, ok_120, ok_180, ok_192, ok_200, ok_900, ok_1000, ok_84000]
  all_goals grind [ui_ap]
/-- what the swapping keeps -/
def sW (M c : Nat) (I0 : Nat → Nat → Int32) (m : Int32) (J : Nat → Nat → Int32) (p : Int32) : Prop := mF M c I0 J ∧ J M 74 = m ∧ (∀ k : Int32, 0 ≤ k → k < m → 0 ≤ J (M + 48) k.toNatClampNeg ∧ J (M + 48) k.toNatClampNeg ≤ 29) ∧ (∀ k : Int32, 0 ≤ k → k < p → 0 ≤ J (M + 49) k.toNatClampNeg)
theorem lp_swap_20 (hS : m_S M K L R) {m : Int32} (hm : 0 ≤ m ∧ m ≤ 5) (hN : ∀ J i, sW M c I0 m J m → a_at d (a_xm a_m255) 68 [some (a_rf M), some (.int i), none, none] [] (n, t, K, L, J, R) P) : ∀ i : Int32, i ≤ 5 → ∀ J, 0 ≤ i → i ≤ m → sW M c I0 m J i → (∀ k : Int32, 0 ≤ k → k < m → 0 ≤ J (M + 20) (J (M + 48) k.toNatClampNeg).toNatClampNeg) → a_at d (a_xm a_m255) 20 [some (a_rf M), some (.int i), none, none] [] (n, t, K, L, J, R) P := by
  refine up_ind 5 (fun i hi ih => ?_)
  intro J h0 him h hb
  obtain ⟨f1, f2, f3, f4⟩ := id h
  rw [q255_20]
  simp only [q255_21, q255_22, q255_25, q255_28, q255_29, q255_32, q255_33, q255_34, q255_37, q255_38, q255_41, q255_42, q255_43, q255_44, q255_45, q255_46, q255_49, q255_50, q255_51, q255_54, q255_55, q255_58, q255_59, q255_60, q255_61, q255_62, q255_65, m_0 hS, m_K hS, mR_oldBench hS, mK_oldBench hS, mL_oldBench hS, mR_atBench hS, mK_atBench hS, mL_atBench hS, mR_ringAsk hS, mK_ringAsk hS, mL_ringAsk hS, mR_oldShift hS, mK_oldShift hS, mL_oldShift hS, mR_atShift hS, mK_atShift hS, mL_atShift hS, as_nil, as_i, as_r, Nat.reduceAdd, Nat.reduceLeDiff, z_eq0, z_eq1, z_or, z_em, Classical.not_not, not_false_eq_true, not_true_eq_false, true_and, and_true, false_and, and_false, and_self, true_implies, false_implies, implies_true, Option.toList_some, Option.toList_none, List.cons_append, List.nil_append, Nat.add_eq_zero_iff, a_nl_i, a_nl_r, a_nl_n, true_or, or_true, eq_self, ok_4, ok_5, ok_6, ok_7, ok_9, ok_10, ok_20, ok_21, ok_24, ok_30, ok_48, ok_50, ok_60, ok_80, ok_120, ok_180, ok_192, ok_200, ok_900, ok_1000, ok_84000, ui_ap, ne_MM, ne_M0, ne_0M, Nat.reduceEqDiff, reduceIte, if_true, if_false, f2]
  refine ⟨fun h1 => ?_, fun h1 => ?_⟩
  · have e : i = m := by clear ih hN h hb f3 f4; grind
    subst e
    exact hN J i h
  have him2 : i < m := by clear ih hN h hb f3 f4; grind
  have q1 := f3 i h0 him2
  have q2 := hb i h0 him2
  have r1 := rg_atBench f1.1.1 (J (M + 48) i.toNatClampNeg).toNatClampNeg
  have r2 := rg_atShift f1.1.1 (J (M + 48) i.toNatClampNeg).toNatClampNeg
  repeat refine And.intro (by clear ih hN h hb f3 f4; grind) ?_
  refine ih (by clear ih hN h hb f3 f4; grind) _ (by clear ih hN h hb f3 f4; grind) (by clear ih hN h hb f3 f4; grind) ⟨sF_oldShift (sF_oldBench f1 r1) r2, by simpa [ui_ap] using f2, by simpa [ui_ap] using f3, fun k k0 k1 => ?_⟩ (by simpa [ui_ap] using hb)
  simp only [ui_ap, ne_MM, ne_M0, ne_0M, Nat.reduceEqDiff, reduceIte, if_true, if_false, and_self, false_and, and_false, true_and]
  by_cases hk : k = i
  · subst hk
    rw [if_pos rfl]
    exact q2
  · rw [if_neg (fun e => hk (cl_inj k0 h0 e))]
    exact f4 k k0 (by clear ih hN h hb f3 f4; grind)
theorem lp_swap_70 (hS : m_S M K L R) {m : Int32} (hm : 0 ≤ m ∧ m ≤ 5) (hc : c + 40 ≤ 84000) (hN : ∀ J i, sW M (c + 20) I0 m J m → a_at (d + 12) (a_xm a_m255) 94 [some (a_rf M), some (.int i), none, none] [] (n, t, K, L, J, R) P) : ∀ i : Int32, i ≤ 5 → ∀ J, 0 ≤ i → i ≤ m → sW M (c + 4 * i.toNatClampNeg) I0 m J m → a_at (d + 12) (a_xm a_m255) 70 [some (a_rf M), some (.int i), none, none] [] (n, t, K, L, J, R) P := by
  refine up_ind 5 (fun i hi ih => ?_)
  intro J h0 him h
  obtain ⟨f1, f2, f3, f4⟩ := id h
  have i5 : i.toNatClampNeg < 6 := (show i.toNatClampNeg < (6 : Int32).toNatClampNeg from cl_lt h0 (by clear ih hN h f3 f4; grind))
  rw [q255_70]
  simp only [q255_71, q255_72, q255_75, q255_78, q255_79, q255_80, q255_83, q255_84, q255_85, m_0 hS, m_K hS, mR_ringAsk hS, mK_ringAsk hS, mL_ringAsk hS, as_nil, as_i, as_r, Nat.reduceAdd, Nat.reduceLeDiff, z_eq0, z_eq1, z_or, z_em, Classical.not_not, not_false_eq_true, not_true_eq_false, true_and, and_true, false_and, and_false, and_self, true_implies, false_implies, implies_true, Option.toList_some, Option.toList_none, List.cons_append, List.nil_append, Nat.add_eq_zero_iff, a_nl_i, a_nl_r, a_nl_n, true_or, or_true, eq_self, ok_4, ok_5, ok_6, ok_7, ok_9, ok_10, ok_20, ok_21, ok_24, ok_30, ok_48, ok_50, ok_60, ok_80, ok_120, ok_180, ok_192, ok_200, ok_900, ok_1000, ok_84000, f2]
  refine ⟨fun h1 => hN J i ⟨mF_le f1 (by omega), f2, f3, f4⟩, fun h1 => ?_⟩
  have q1 := f3 i h0 (by clear ih hN h f3 f4; grind)
  repeat refine And.intro (by clear ih hN h f3 f4; grind) ?_
  refine ct_takeFrom (d := d + 10) hS (I0 := I0) f1 (by omega) ⟨q1.1, by grind⟩ (fun J2 g1 _ g3 _ => ?_)
  have e1 : ∀ j, J2 (M + 48) j = J (M + 48) j := fun j => g3 _ _ (by unfold evC; omega) (by omega)
  have e2 : ∀ j, J2 (M + 49) j = J (M + 49) j := fun j => g3 _ _ (by unfold evC; omega) (by omega)
  have e3 : J2 M 74 = m := (g3 _ _ (by unfold evC; omega) (by omega)).trans f2
  simp only [q255_88, q255_91, as_nil, as_i, as_r, Nat.reduceAdd, Nat.reduceLeDiff, z_eq0, z_eq1, z_or, z_em, Classical.not_not, not_false_eq_true, not_true_eq_false, true_and, and_true, false_and, and_false, and_self, true_implies, false_implies, implies_true, Option.toList_some, Option.toList_none, List.cons_append, List.nil_append, Nat.add_eq_zero_iff, a_nl_i, a_nl_r, a_nl_n, true_or, or_true, eq_self, ok_4, ok_5, ok_6, ok_7, ok_9, ok_10, ok_20, ok_21, ok_24, ok_30, ok_48, ok_50, ok_60, ok_80, ok_120, ok_180, ok_192, ok_200, ok_900, ok_1000, ok_84000]
  refine ih (by clear ih hN h f3 f4; grind) J2 (by clear ih hN h f3 f4; grind) (by clear ih hN h f3 f4; grind) ⟨mF_le g1 (by rw [cl_up h0 (by clear ih hN h f3 f4; grind)]; omega), e3, fun k k0 k1 => by rw [e1]; exact f3 k k0 k1, fun k k0 k1 => by rw [e2]; exact f4 k k0 k1⟩
theorem lp_swap_146 (hS : m_S M K L R) {m i j : Int32} (hm : 0 ≤ m ∧ m ≤ 5) (hi : 0 ≤ i ∧ i < m) (hN : ∀ J, sW M c I0 m J m → a_at (d + 12) (a_xm a_m255) 175 [some (a_rf M), some (.int i), some (.int j), some (.int 30)] [] (n, t, K, L, J, R) P) : ∀ o : Int32, o ≤ 30 → ∀ J, 0 ≤ o → sW M c I0 m J m → a_at (d + 12) (a_xm a_m255) 146 [some (a_rf M), some (.int i), some (.int j), some (.int o)] [] (n, t, K, L, J, R) P := by
  refine up_ind 30 (fun o ho ih => ?_)
  intro J h0 h
  obtain ⟨f1, f2, f3, f4⟩ := id h
  have q1 := f3 i hi.1 hi.2
  rw [q255_146]
  simp only [q255_147, q255_149, q255_152, q255_153, q255_156, q255_158, q255_159, q255_162, q255_163, q255_164, q255_165, q255_166, q255_167, q255_168, q255_169, q255_172, m_0 hS, m_K hS, mR_isWish hS, mK_isWish hS, mL_isWish hS, mR_ringAsk hS, mK_ringAsk hS, mL_ringAsk hS, as_nil, as_i, as_r, Nat.reduceAdd, Nat.reduceLeDiff, z_eq0, z_eq1, z_or, z_em, Classical.not_not, not_false_eq_true, not_true_eq_false, true_and, and_true, false_and, and_false, and_self, true_implies, false_implies, implies_true, Option.toList_some, Option.toList_none, List.cons_append, List.nil_append, Nat.add_eq_zero_iff, a_nl_i, a_nl_r, a_nl_n, true_or, or_true, eq_self, ok_4, ok_5, ok_6, ok_7, ok_9, ok_10, ok_20, ok_21, ok_24, ok_30, ok_48, ok_50, ok_60, ok_80, ok_120, ok_180, ok_192, ok_200, ok_900, ok_1000, ok_84000]
  refine ⟨fun h1 => ?_, fun h1 => ?_⟩
  · rw [show o = 30 by clear ih hN h f3 f4; grind]; exact hN J h
  · repeat refine And.intro (by clear ih hN h f3 f4; grind) ?_
    exact ih (by clear ih hN h f3 f4; grind) _ (by clear ih hN h f3 f4; grind) ⟨sF_isWish f1, by simpa [ui_ap] using f2, by simpa [ui_ap] using f3, by simpa [ui_ap] using f4⟩
theorem lp_swap_96 (hS : m_S M K L R) {m : Int32} (hm : 0 ≤ m ∧ m ≤ 5) (hc : c + 40 ≤ 84000) (hP : ∀ v J, mF M (c + 40) I0 J → P (some (.int v)) (n, t, K, L, J, R)) : ∀ i : Int32, i ≤ 5 → ∀ J x y, 0 ≤ i → i ≤ m → sW M (c + 20 + 4 * i.toNatClampNeg) I0 m J m → a_at (d + 12) (a_xm a_m255) 96 [some (a_rf M), some (.int i), x, y] [] (n, t, K, L, J, R) P := by
  refine up_ind 5 (fun i hi ih => ?_)
  intro J x y h0 him h
  obtain ⟨f1, f2, f3, f4⟩ := id h
  have i5 : i.toNatClampNeg < 6 := (show i.toNatClampNeg < (6 : Int32).toNatClampNeg from cl_lt h0 (by clear ih hP h f3 f4; grind))
  have h122 : ∀ j, i < m → 0 ≤ j → j < m → a_at (d + 12) (a_xm a_m255) 122 [some (a_rf M), some (.int i), some (.int j), y] [] (n, t, K, L, J, R) P := by
    intro j q0 j0 j1
    have i5 : i.toNatClampNeg < 5 := (show i.toNatClampNeg < (5 : Int32).toNatClampNeg from cl_lt h0 (by clear ih hP h f3 f4; grind))
    have q1 := f3 i h0 q0
    have q2 := f4 j j0 j1
    have r1 := rg_oldBench f1.1.1 j.toNatClampNeg
    have r2 := rg_oldShift f1.1.1 j.toNatClampNeg
    simp only [q255_122, q255_123, q255_124, q255_127, q255_128, q255_129, q255_130, q255_133, q255_134, q255_135, q255_136, q255_139, q255_140, q255_141, m_0 hS, m_K hS, mR_ringAsk hS, mK_ringAsk hS, mL_ringAsk hS, mR_oldBench hS, mK_oldBench hS, mL_oldBench hS, mR_oldShift hS, mK_oldShift hS, mL_oldShift hS, as_nil, as_i, as_r, Nat.reduceAdd, Nat.reduceLeDiff, z_eq0, z_eq1, z_or, z_em, Classical.not_not, not_false_eq_true, not_true_eq_false, true_and, and_true, false_and, and_false, and_self, true_implies, false_implies, implies_true, Option.toList_some, Option.toList_none, List.cons_append, List.nil_append, Nat.add_eq_zero_iff, a_nl_i, a_nl_r, a_nl_n, true_or, or_true, eq_self, ok_4, ok_5, ok_6, ok_7, ok_9, ok_10, ok_20, ok_21, ok_24, ok_30, ok_48, ok_50, ok_60, ok_80, ok_120, ok_180, ok_192, ok_200, ok_900, ok_1000, ok_84000]
    repeat refine And.intro (by clear ih hP h f3 f4; grind) ?_
    refine ct_giveTo (d := d + 1) hS (I0 := I0) f1 (by omega) ⟨q1.1, by grind⟩ ⟨q2, r1.2⟩ r2 (fun J2 g1 g3 _ => ?_)
    have e1 : ∀ j, J2 (M + 48) j = J (M + 48) j := fun j => g3 _ _ (by unfold evC; omega) (by unfold sC; omega) (by omega) (by omega)
    have e2 : ∀ j, J2 (M + 49) j = J (M + 49) j := fun j => g3 _ _ (by unfold evC; omega) (by unfold sC; omega) (by omega) (by omega)
    have e3 : J2 M 74 = m := (g3 _ _ (by unfold evC; omega) (by unfold sC; omega) (by omega) (by omega)).trans f2
    simp only [q255_144, q255_145, as_nil, as_i, as_r, Nat.reduceAdd, Nat.reduceLeDiff, z_eq0, z_eq1, z_or, z_em, Classical.not_not, not_false_eq_true, not_true_eq_false, true_and, and_true, false_and, and_false, and_self, true_implies, false_implies, implies_true, Option.toList_some, Option.toList_none, List.cons_append, List.nil_append, Nat.add_eq_zero_iff, a_nl_i, a_nl_r, a_nl_n, true_or, or_true, eq_self, ok_4, ok_5, ok_6, ok_7, ok_9, ok_10, ok_20, ok_21, ok_24, ok_30, ok_48, ok_50, ok_60, ok_80, ok_120, ok_180, ok_192, ok_200, ok_900, ok_1000, ok_84000]
    refine lp_swap_146 hS (c := c + 20 + 4 * (i + 1).toNatClampNeg) (I0 := I0) hm ⟨h0, q0⟩ (fun J3 h3 => ?_) 0 (by decide) J2 (by decide) ⟨mF_le g1 (by rw [cl_up h0 (by clear ih hP h f3 f4; grind)]; omega), e3, fun k k0 k1 => by rw [e1]; exact f3 k k0 k1, fun k k0 k1 => by rw [e2]; exact f4 k k0 k1⟩
    simp only [q255_175, q255_178, as_nil, as_i, as_r, Nat.reduceAdd, Nat.reduceLeDiff, z_eq0, z_eq1, z_or, z_em, Classical.not_not, not_false_eq_true, not_true_eq_false, true_and, and_true, false_and, and_false, and_self, true_implies, false_implies, implies_true, Option.toList_some, Option.toList_none, List.cons_append, List.nil_append, Nat.add_eq_zero_iff, a_nl_i, a_nl_r, a_nl_n, true_or, or_true, eq_self, ok_4, ok_5, ok_6, ok_7, ok_9, ok_10, ok_20, ok_21, ok_24, ok_30, ok_48, ok_50, ok_60, ok_80, ok_120, ok_180, ok_192, ok_200, ok_900, ok_1000, ok_84000]
    exact ih (by clear ih hP h f3 f4; grind) J3 _ _ (by clear ih hP h f3 f4; grind) (by clear ih hP h f3 f4; grind) h3
  rw [q255_96]
  simp only [q255_97, q255_98, q255_101, q255_104, q255_105, q255_106, q255_107, q255_108, q255_111, q255_114, q255_115, q255_116, q255_117, q255_120, q255_121, q255_181, q255_182, q255_185, m_0 hS, m_K hS, as_nil, as_i, as_r, Nat.reduceAdd, Nat.reduceLeDiff, z_eq0, z_eq1, z_or, z_em, Classical.not_not, not_false_eq_true, not_true_eq_false, true_and, and_true, false_and, and_false, and_self, true_implies, false_implies, implies_true, Option.toList_some, Option.toList_none, List.cons_append, List.nil_append, Nat.add_eq_zero_iff, a_nl_i, a_nl_r, a_nl_n, true_or, or_true, eq_self, ok_4, ok_5, ok_6, ok_7, ok_9, ok_10, ok_20, ok_21, ok_24, ok_30, ok_48, ok_50, ok_60, ok_80, ok_120, ok_180, ok_192, ok_200, ok_900, ok_1000, ok_84000, f2]
  refine ⟨fun h1 => hP _ J (mF_le f1 (by omega)), fun h1 => ⟨fun h2 => h122 _ (by clear ih hP h f3 f4; grind) (by decide) (by clear ih hP h f3 f4; grind), fun h2 => h122 _ (by clear ih hP h f3 f4; grind) (by clear ih hP h f3 f4; grind) (by clear ih hP h f3 f4; grind)⟩⟩
theorem pu_swap (hS : m_S M K L R) (hF : mF M c I0 I) (hc : c + 130 ≤ 84000) (hP : ∀ v J, mF M (c + 120) I0 J → P (some (.int v)) (n, t, K, L, J, R)) : a_does (d + 16) 255 [a_rf M] (n, t, K, L, I, R) P := by
  have hR := hF.1.1
  have g3 := mC_refl hR
  have hL4 : ∀ J, mF M (c + 4) I0 J → mF M (c + 120) I0 J := fun J h => mF_le h (by omega)
  have hL : ∀ J, mF M c I0 J → mF M (c + 120) I0 J := fun J h => mF_le h (by omega)
  rw [a_enter1 (M := a_m255) rfl (a_cat_rf a_cat_nil) (show 1 ≤ 4 by decide)]
  show a_at _ (a_xm a_m255) 0 [some (a_rf M), none, none, none] [] _ _
  simp only [q255_0, q255_1, m_0 hS, m_K hS, as_nil, as_i, as_r, Nat.reduceAdd, Nat.reduceLeDiff, z_eq0, z_eq1, z_or, z_em, Classical.not_not, not_false_eq_true, not_true_eq_false, true_and, and_true, false_and, and_false, and_self, true_implies, false_implies, implies_true, Option.toList_some, Option.toList_none, List.cons_append, List.nil_append, Nat.add_eq_zero_iff, a_nl_i, a_nl_r, a_nl_n, true_or, or_true, eq_self, ok_4, ok_5, ok_6, ok_7, ok_9, ok_10, ok_20, ok_21, ok_24, ok_30, ok_48, ok_50, ok_60, ok_80, ok_120, ok_180, ok_192, ok_200, ok_900, ok_1000, ok_84000]
  refine ct_findRing (d := d + 3) hS hF (fun J f1 f2 f3 => ?_)
  simp only [q255_4, q255_5, q255_8, q255_11, q255_12, q255_14, q255_17, q255_18, q255_19, m_0 hS, m_K hS, sp_refuse_1 hS, sp_refuse_2 hS, sp_refuse_3 hS, sp_refuse_4 hS, sp_refuse_5 hS, sp_refuse_6 hS, as_nil, as_i, as_r, Nat.reduceAdd, Nat.reduceLeDiff, z_eq0, z_eq1, z_or, z_em, Classical.not_not, not_false_eq_true, not_true_eq_false, true_and, and_true, false_and, and_false, and_self, true_implies, false_implies, implies_true, Option.toList_some, Option.toList_none, List.cons_append, List.nil_append, Nat.add_eq_zero_iff, a_nl_i, a_nl_r, a_nl_n, true_or, or_true, eq_self, ok_4, ok_5, ok_6, ok_7, ok_9, ok_10, ok_20, ok_21, ok_24, ok_30, ok_48, ok_50, ok_60, ok_80, ok_120, ok_180, ok_192, ok_200, ok_900, ok_1000, ok_84000]
  refine ⟨fun h1 => ?_, fun h1 => ?_⟩
  · refine lp_swap_20 hS f2 (fun J2 i2 h2 => ?_) 0 (by decide) J (by decide) f2.1 ⟨f1, rfl, fun k k0 k1 => (f3 k k0 k1).1, fun k k0 k1 => by grind⟩ (fun k k0 k1 => (f3 k k0 k1).2)
    simp only [q255_68, q255_69, as_nil, as_i, as_r, Nat.reduceAdd, Nat.reduceLeDiff, z_eq0, z_eq1, z_or, z_em, Classical.not_not, not_false_eq_true, not_true_eq_false, true_and, and_true, false_and, and_false, and_self, true_implies, false_implies, implies_true, Option.toList_some, Option.toList_none, List.cons_append, List.nil_append, Nat.add_eq_zero_iff, a_nl_i, a_nl_r, a_nl_n, true_or, or_true, eq_self, ok_4, ok_5, ok_6, ok_7, ok_9, ok_10, ok_20, ok_21, ok_24, ok_30, ok_48, ok_50, ok_60, ok_80, ok_120, ok_180, ok_192, ok_200, ok_900, ok_1000, ok_84000]
    refine lp_swap_70 (d := d + 3) (c := c) hS f2 (by omega) (fun J3 i3 h3 => ?_) 0 (by decide) J2 (by decide) f2.1 h2
    simp only [q255_94, q255_95, as_nil, as_i, as_r, Nat.reduceAdd, Nat.reduceLeDiff, z_eq0, z_eq1, z_or, z_em, Classical.not_not, not_false_eq_true, not_true_eq_false, true_and, and_true, false_and, and_false, and_self, true_implies, false_implies, implies_true, Option.toList_some, Option.toList_none, List.cons_append, List.nil_append, Nat.add_eq_zero_iff, a_nl_i, a_nl_r, a_nl_n, true_or, or_true, eq_self, ok_4, ok_5, ok_6, ok_7, ok_9, ok_10, ok_20, ok_21, ok_24, ok_30, ok_48, ok_50, ok_60, ok_80, ok_120, ok_180, ok_192, ok_200, ok_900, ok_1000, ok_84000]
    exact lp_swap_96 (d := d + 3) (c := c) hS f2 (by omega) (fun v J4 h4 => hP v J4 (mF_le h4 (by omega))) 0 (by decide) J3 _ _ (by decide) f2.1 h3
  · exact hP _ _ (hL _ (sF_refused f1))
end SI

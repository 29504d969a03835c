/-! the reference: best -/
section ZQQ
variable {d n t M c : Nat} {K L : Nat → Nat} {I I0 J J0 J1 J2 : Nat → Nat → Int32} {R : Nat → Nat → Nat} {P : Option Value → AH → Prop}
theorem bG_refl (h : ∀ j, fw M I j → ¬ 0 ≤ I (M + 20) j → I (M + 20) j = -9 ∧ I (M + 21) j = -9) : bG M I I := ⟨fun _ _ _ _ _ _ _ _ => rfl, h⟩
theorem bF_of (h : bG M I J) : bF M I J := fun x j h1 h2 h3 h4 h5 h6 => h.1 x j h1 (fun q => h2 q.1) h3 h4 h5 h6
theorem gs_rf {I9 Y : Nat → Nat → Int32} (hg : gs M I9 J Y) {k : Nat} {v : Int32} : gs M I9 (a_ui J (M + 23) k v) Y := gs_ui hg (sR_refused hg.1) (by omega) ⟨by unfold ps1; omega, by omega⟩
theorem gs_bG {I9 Y : Nat → Nat → Int32} (hg : gs M I9 I Y) (hR : mR M J) (h : bG M I J) (hu : ∀ j, fw M I j → ¬ 0 ≤ I (M + 20) j) (hu2 : ∀ j, fw M I j → ¬ 0 ≤ J (M + 20) j) (hcl : ∀ j, fw M I j → ¬ 0 ≤ I (M + 20) j → I (M + 20) j = -9 ∧ I (M + 21) j = -9) : gs M I9 J Y := by
  refine ⟨hR, fun x j hx => ?_, psE_tr hg.2.2 ⟨fun k j p => ?_, fun o o0 o1 o2 i i0 i1 => ?_⟩⟩
  · rw [h.1 x j (by unfold sC; omega) (by omega) (by omega) (by omega) (by omega) (by omega)]
    exact hg.2.1 x j hx
  · by_cases c : (k = 20 ∨ k = 21) ∧ fw M I j
    · have a := h.2 j c.2 (hu2 j c.2)
      have b := hcl j c.2 (hu j c.2)
      rcases c.1 with e | e <;> subst e
      · exact a.1.trans b.1.symm
      · exact a.2.trans b.2.symm
    · refine h.1 _ _ (by unfold sC; unfold ps1 at p; omega) (by unfold ps1 at p; omega) (by unfold ps1 at p; omega) (by unfold ps1 at p; omega) (by unfold ps1 at p; omega) (fun q => c ⟨by omega, q.2⟩)
  · have l4 := rg_length hg.1 o.toNatClampNeg
    have i4 : i < 4 := Int32.lt_of_lt_of_le i1 l4.2
    have n := n4 (o := o) (i := i) ⟨o0, o1⟩ ⟨i0, i4⟩
    have in4 : i.toNatClampNeg < 4 := cl_lt i0 i4
    refine h.1 _ _ (by unfold sC; omega) (fun ⟨_, q, q1, q2, q3⟩ => ?_) (by omega) (by omega) (by omega) (by omega)
    rw [n.1] at q2 q3
    have e : q = o.toNatClampNeg := by omega
    rw [e] at q1
    exact hu _ q1 o2
theorem xg_findBest (hS : m_S M K L R) (hF : mF M c I0 I) {I9 Y : Nat → Nat → Int32} (hg9 : gs M I9 I Y) (hno : noP Y) {f e : Int32} (hf : 0 ≤ f ∧ f ≤ 199) (he : e ≤ 199) (hfe : f ≤ e) (he7 : e - f ≤ 7) (hfm : 0 ≤ I M 66 ∧ I M 66 ≤ 4) (hd : ∀ k l : Int32, 0 ≤ k → k < I M 66 → 0 ≤ l → l < I M 66 → (I (M + 41) k.toNatClampNeg).toNatClampNeg = (I (M + 41) l.toNatClampNeg).toNatClampNeg → k = l) (hu : ∀ k : Int32, 0 ≤ k → k < I M 66 → ¬ 0 ≤ I (M + 20) (I (M + 41) k.toNatClampNeg).toNatClampNeg) (hP : ∀ v J, mF M c I0 J → J M 66 = I M 66 → gs M I9 J Y → P (some (.int v)) (n, t, K, L, J, R)) : a_does (d + 11) 243 [a_rf M, .int f, .int e] (n, t, K, L, I, R) P := by
  have hR := hF.1.1
  have g1 := rg_benches hR
  have hj30 : ∀ j, fw M I j → j < 30 := fun j ⟨k, _, _, p3⟩ => by
    have r := rg_few hR k.toNatClampNeg
    have w : (I (M + 41) k.toNatClampNeg).toNatClampNeg < 30 := cl_lt (j := 30) r.1 (Int32.lt_of_le_of_lt r.2 (by decide))
    omega
  have hu2 : ∀ j, fw M I j → ¬ 0 ≤ I (M + 20) j := fun j ⟨k, p1, p2, p3⟩ => by
    rw [p3]
    exact hu k p1 p2
  have hcl : ∀ j, fw M I j → ¬ 0 ≤ I (M + 20) j → I (M + 20) j = -9 ∧ I (M + 21) j = -9 := fun j hj hn => by
    have e20 : I (M + 20) j = Y 20 j := hg9.2.2.1 20 j (by unfold ps1; omega)
    have e21 : I (M + 21) j = Y 21 j := hg9.2.2.1 21 j (by unfold ps1; omega)
    rw [e20] at hn
    rw [e20, e21]
    exact hno j (hj30 j hj) hn
  have hpl : 0 ≤ (e - f + 1) * I M 6 ∧ (e - f + 1) * I M 6 ≤ 48 ∧ (I M 6 = 0 → (e - f + 1) * I M 6 = 0) := by
    generalize I M 6 = b at g1
    have : b = 0 ∨ b = 1 ∨ b = 2 ∨ b = 3 ∨ b = 4 ∨ b = 5 ∨ b = 6 := by grind
    rcases this with h | h | h | h | h | h | h <;> subst h <;> grind
  rw [a_enter1 (M := a_m243) rfl (a_cat_rf (a_cat_int (a_cat_int a_cat_nil))) (show 3 ≤ 10 by decide)]
  show a_at _ (a_xm a_m243) 0 [some (a_rf M), some (.int f), some (.int e), none, none, none, none, none, none, none] [] _ _
  simp only [q243_0, q243_1, q243_2, q243_3, q243_4, q243_5, q243_6, q243_9, q243_10, q243_11, q243_12, q243_14, q243_15, q243_17, q243_18, q243_21, q243_22, q243_23, q243_24, q243_25, q243_28, q243_29, q243_30, m_0 hS, m_K hS, mR_sumTo hS, mK_sumTo hS, mL_sumTo hS, mR_way hS, mK_way hS, mL_way hS, as_nil, as_i, as_r, Nat.reduceAdd, Nat.reduceLeDiff, z_eq0, z_eq1, z_or, z_em, Classical.not_not, not_false_eq_true, not_true_eq_false, true_and, and_true, false_and, and_false, and_self, true_implies, false_implies, implies_true, Option.toList_some, Option.toList_none, List.cons_append, List.nil_append, Nat.add_eq_zero_iff, a_nl_i, a_nl_r, a_nl_n, true_or, or_true, eq_self, ok_4, ok_5, ok_6, ok_7, ok_9, ok_10, ok_20, ok_21, ok_24, ok_30, ok_48, ok_50, ok_60, ok_80, ok_120, ok_180, ok_192, ok_200, ok_900, ok_1000, ok_84000]
  repeat refine And.intro (by grind) ?_
  generalize (e - f + 1) * I M 6 = pl at hpl
  have hb0 : bG M I (a_ui (a_ui I (M + 43) (Int32.toNatClampNeg 0) 0) (M + 42) (Int32.toNatClampNeg 0) (-1)) := bG_ui (bG_ui (bG_refl hcl) (by omega)) (by omega)
  have hr0 : mR M (a_ui (a_ui I (M + 43) (Int32.toNatClampNeg 0) 0) (M + 42) (Int32.toNatClampNeg 0) (-1)) := sR_way (sR_sumTo hR)
  have hw0 : (a_ui (a_ui I (M + 43) (Int32.toNatClampNeg 0) 0) (M + 42) (Int32.toNatClampNeg 0) (-1)) (M + 42) (Int32.toNatClampNeg 0) = -1 := by simp [ui_ap]
  have hab : ∀ j, (a_ui (a_ui I (M + 43) (Int32.toNatClampNeg 0) 0) (M + 42) (Int32.toNatClampNeg 0) (-1)) (M + 20) j = I (M + 20) j := fun j => by simp [ui_ap]
  refine lq_findBest_31 hS (I := I) hf he ⟨hpl.1, hpl.2.1⟩ hpl.2.2 hfm hd (fun v J hb => ?_) _ _ _ _ _ _ _ _ (Nat.lt_succ_self _) ⟨by decide, hfm.1⟩ ⟨hr0, hb0, fun k p1 p2 p3 => ?_, fun k p1 p2 => ?_, fun k p1 p2 => ?_⟩
  · obtain ⟨b1, b2g, b3, b4, b5⟩ := hb
    have b2 := bF_of b2g
    have hu3 : ∀ j, fw M I j → ¬ 0 ≤ J (M + 20) j := fun j ⟨k, p1, p2, p3⟩ p4 => by
      subst p3
      have := (b3 k p1 p2 p4).1
      grind
    refine hP v J ⟨⟨b1, fun x j hx => ?_⟩, mE_fw hF.2 b2 (fun j ⟨k, p1, p2, p3⟩ p4 => ?_)⟩ (bF_fewMany b2) (gs_bG hg9 b1 b2g hu2 hu3 hcl)
    · rw [b2 x j (by unfold eC at hx; unfold sC; omega) (by unfold eC at hx; omega) (by unfold eC at hx; omega) (by unfold eC at hx; omega) (by unfold eC at hx; omega) (by unfold eC at hx; omega)]
      exact hF.1.2 x j hx
    · subst p3
      have := (b3 k p1 p2 p4).1
      grind
  · rw [hab] at p3; exact absurd p3 (hu k p1 p2)
  · have : k = 0 := by grind
    subst this
    rw [hw0]
    exact ⟨by decide, by grind⟩
  · grind
def bZ9 (M c : Nat) (I0 I9 Y I J : Nat → Nat → Int32) (s k : Int32) : Prop := bW M c I0 I J s k ∧ gs M I9 J Y
theorem lx_best_99 (hS : m_S M K L R) {I9 Y : Nat → Nat → Int32} {s f e a : Int32} (hs : 0 ≤ s) (h4 : pn 31 s.toInt.toNat ≤ 4) (hX : ∀ v J, mF M c I0 J → gs M I9 J Y → P (some (.int v)) (n, t, K, L, J, R)) (hN : ∀ J k, bZ9 M c I0 I9 Y I J s k → J M 66 ≤ 4 → a_at (d + 11) (a_xm a_m242) 171 [some (a_rf M), some (.int f), some (.int e), some (.int s), some (.int a), some (.int k), none, none, none] [] (n, t, K, L, J, R) P) : ∀ k : Int32, k ≤ 30 → ∀ J, 0 ≤ k → bZ9 M c I0 I9 Y I J s k → a_at (d + 11) (a_xm a_m242) 99 [some (a_rf M), some (.int f), some (.int e), some (.int s), some (.int a), some (.int k), none, none, none] [] (n, t, K, L, J, R) P := by
  refine up_ind 30 (fun k hk ih => ?_)
  intro J h0 hw
  obtain ⟨⟨w1, w2, w3, w4, w5⟩, w6⟩ := id hw
  have hR := w1.1.1
  have g1 := rg_asks hR
  have k30 : k.toInt.toNat ≤ 30 := by
    have h1 := Int32.le_iff_toInt_le.mp h0
    have h2 := Int32.le_iff_toInt_le.mp hk
    simp at h1 h2
    omega
  have hp1 := pn_le k.toNatClampNeg 31 s.toInt.toNat (by show k.toInt.toNat ≤ 31; omega)
  have hf4 : 0 ≤ J M 66 ∧ J M 66 ≤ 4 := by
    rw [Int32.le_iff_toInt_le, Int32.le_iff_toInt_le, w3]
    have : (4 : Int32).toInt = 4 := rfl
    have : (0 : Int32).toInt = 0 := rfl
    omega
  rw [q242_99]
  simp only [q242_101, q242_102, q242_105, q242_108, q242_109, q242_111, q242_112, q242_113, q242_114, q242_115, m_0 hS, m_K hS, as_nil, as_i, as_r, Nat.reduceAdd, Nat.reduceLeDiff, z_eq0, z_eq1, z_or, z_em, Classical.not_not, not_false_eq_true, not_true_eq_false, true_and, and_true, false_and, and_false, and_self, true_implies, false_implies, implies_true, Option.toList_some, Option.toList_none, List.cons_append, List.nil_append, Nat.add_eq_zero_iff, a_nl_i, a_nl_r, a_nl_n, true_or, or_true, eq_self, ok_4, ok_5, ok_6, ok_7, ok_9, ok_10, ok_20, ok_21, ok_24, ok_30, ok_48, ok_50, ok_60, ok_80, ok_120, ok_180, ok_192, ok_200, ok_900, ok_1000, ok_84000]
  refine ⟨fun h => hN J k hw hf4.2, fun h => ?_⟩
  have hk30 : k < 30 := by grind
  have kn : k.toInt = (k.toNatClampNeg : Nat) := by
    have h1 := Int32.le_iff_toInt_le.mp h0
    simp at h1
    show k.toInt = (k.toInt.toNat : Nat)
    omega
  have kl : k.toNatClampNeg < 30 := (show k.toNatClampNeg < (30 : Int32).toNatClampNeg from cl_lt h0 hk30)
  have hbit := bit_at s hs k.toNatClampNeg kl k kn
  have hst := pn_step k.toNatClampNeg s.toInt.toNat
  have hcu := cl_up h0 (by grind)
  have hp2 := pn_le (k + 1).toNatClampNeg 31 s.toInt.toNat (by rw [hcu]; omega)
  rw [hcu] at hp2
  refine ⟨fun hb => ?_, fun hb => ?_⟩
  · have hbit2 : s.toInt.toNat / 2 ^ k.toNatClampNeg % 2 = 0 := by
      have : s.toInt.toNat / 2 ^ k.toNatClampNeg % 2 = 0 ∨ s.toInt.toNat / 2 ^ k.toNatClampNeg % 2 = 1 := by omega
      rcases this with h | h
      · exact h
      · refine absurd (Int32.toInt_inj.mp ?_) hb
        rw [hbit, h]
        rfl
    simp only [q242_165, q242_168, as_nil, as_i, as_r, Nat.reduceAdd, Nat.reduceLeDiff, z_eq0, z_eq1, z_or, z_em, Classical.not_not, not_false_eq_true, not_true_eq_false, true_and, and_true, false_and, and_false, and_self, true_implies, false_implies, implies_true, Option.toList_some, Option.toList_none, List.cons_append, List.nil_append, Nat.add_eq_zero_iff, a_nl_i, a_nl_r, a_nl_n, true_or, or_true, eq_self, ok_4, ok_5, ok_6, ok_7, ok_9, ok_10, ok_20, ok_21, ok_24, ok_30, ok_48, ok_50, ok_60, ok_80, ok_120, ok_180, ok_192, ok_200, ok_900, ok_1000, ok_84000]
    refine ih (by grind) J (by grind) ⟨⟨w1, by grind, ?_, fun x p1 p2 => ?_, w5⟩, w6⟩
    · rw [hcu, hst, hbit2, w3]
      simp
    · have := w4 x p1 p2
      exact ⟨by grind, this.2⟩
  · simp only [q242_118, q242_119, q242_121, q242_124, q242_127, q242_128, q242_131, q242_133, q242_134, q242_137, q242_138, q242_140, q242_143, q242_144, q242_145, q242_148, q242_149, q242_152, q242_154, q242_155, q242_156, q242_157, q242_160, q242_161, q242_162, q242_165, q242_168, m_0 hS, m_K hS, mR_isGone hS, mK_isGone hS, mL_isGone hS, mR_few hS, mK_few hS, mL_few hS, sp_hasPlace hS, sp_refuse_1 hS, sp_refuse_2 hS, sp_refuse_3 hS, sp_refuse_4 hS, sp_refuse_5 hS, sp_refuse_6 hS, as_nil, as_i, as_r, Nat.reduceAdd, Nat.reduceLeDiff, z_eq0, z_eq1, z_or, z_em, Classical.not_not, not_false_eq_true, not_true_eq_false, true_and, and_true, false_and, and_false, and_self, true_implies, false_implies, implies_true, Option.toList_some, Option.toList_none, List.cons_append, List.nil_append, Nat.add_eq_zero_iff, a_nl_i, a_nl_r, a_nl_n, true_or, or_true, eq_self, ok_4, ok_5, ok_6, ok_7, ok_9, ok_10, ok_20, ok_21, ok_24, ok_30, ok_48, ok_50, ok_60, ok_80, ok_120, ok_180, ok_192, ok_200, ok_900, ok_1000, ok_84000, ui_ap, ne_MM, ne_M0, ne_0M, Nat.reduceEqDiff, reduceIte, if_true, if_false]
    rw [hb] at hbit
    have hbit2 : s.toInt.toNat / 2 ^ k.toNatClampNeg % 2 = 1 := by
      have : (1 : Int32).toInt = 1 := rfl
      omega
    have hf3 : J M 66 < 4 := by
      rw [Int32.lt_iff_toInt_lt, w3]
      have : (4 : Int32).toInt = 4 := rfl
      omega
    have hnx : ¬ 0 ≤ J (M + 20) k.toNatClampNeg → bZ9 M c I0 I9 Y I (a_ui (a_ui J (M + 41) (J M 66).toNatClampNeg k) M 66 (J M 66 + 1)) s (k + 1) := by
      intro hno
      have e1 : ∀ x : Int32, 0 ≤ x → x < J M 66 → ¬ x.toNatClampNeg = (J M 66).toNatClampNeg := fun x p1 p2 p3 => by
        have := cl_inj p1 hf4.1 p3
        grind
      have k29 : 0 ≤ k ∧ k ≤ 29 := by grind
      refine ⟨⟨sF_fewMany (sF_few w1 k29), ?_, ?_, fun x p1 p2 => ?_, fun x y p1 p2 p3 => ?_⟩, gs_u0 (gs_ui w6 (sR_few w6.1 k29) (by omega) ⟨by unfold ps1; omega, by omega⟩) (sR_fewMany (sR_few w6.1 k29)) (by unfold ps1; omega)⟩
      · simp only [ui_ap, ne_MM, ne_M0, ne_0M, Nat.reduceEqDiff, reduceIte, if_true, if_false, and_self, false_and, and_false]
        grind
      · simp only [ui_ap, ne_MM, ne_M0, ne_0M, Nat.reduceEqDiff, reduceIte, if_true, if_false, and_self, false_and, and_false]
        rw [hcu, hst, hbit2]
        exact ti_up w3 (by omega)
      · simp only [ui_ap, ne_MM, ne_M0, ne_0M, Nat.reduceEqDiff, reduceIte, if_true, if_false, and_self, false_and, and_false, true_and] at p2 ⊢
        by_cases hx : x = J M 66
        · subst hx
          rw [if_pos rfl]
          exact ⟨by grind, hno⟩
        · rw [if_neg (e1 x p1 (by grind))]
          have := w4 x p1 (by grind)
          exact ⟨by grind, this.2⟩
      · simp only [ui_ap, ne_MM, ne_M0, ne_0M, Nat.reduceEqDiff, reduceIte, if_true, if_false, and_self, false_and, and_false, true_and] at p3 ⊢
        rw [if_neg (e1 x p1 (by grind))]
        by_cases hy : y = J M 66
        · subst hy
          rw [if_pos rfl]
          exact (w4 x p1 p2).1
        · rw [if_neg (e1 y (by grind) (by grind))]
          exact w5 x y p1 p2 (by grind)
    repeat' first
      | with_reducible apply And.intro
      | with_reducible assumption
      | with_reducible intro _
      | with_reducible apply hX
      | with_reducible apply sF_refused
      | with_reducible apply gs_rf
      | with_reducible apply ih
      | with_reducible apply hnx
    all_goals grind [ui_ap]
theorem xp_best (hS : m_S M K L R) (hF : mF M c I0 I) (hc : c + 130 ≤ 84000) {a b s w : Int32} {I9 Y : Nat → Nat → Int32} (hg : gs M I9 I Y) (hno : noP Y) (hP : ∀ v J, mF M (c + 120) I0 J → gs M I9 J Y → P (some (.int v)) (n, t, K, L, J, R)) : a_does (d + 16) 242 [a_rf M, .int a, .int b, .int s, .int w] (n, t, K, L, I, R) P := by
  have hR := hF.1.1
  have g3 := mC_refl hR
  have hL4 : ∀ J, mF M (c + 4) I0 J → mF M (c + 120) I0 J := fun J h => mF_le h (by omega)
  have hL : ∀ J, mF M c I0 J → mF M (c + 120) I0 J := fun J h => mF_le h (by omega)
  have g1 := rg_asks hR
  rw [a_enter1 (M := a_m242) rfl (a_cat_rf (a_cat_int (a_cat_int (a_cat_int (a_cat_int a_cat_nil))))) (show 5 ≤ 9 by decide)]
  show a_at _ (a_xm a_m242) 0 [some (a_rf M), some (.int a), some (.int b), some (.int s), some (.int w), none, none, none, none] [] _ _
  have h91 : (0 ≤ a ∧ a ≤ 199) → (0 ≤ b ∧ b ≤ 199) → a ≤ b → b - a ≤ 7 → 0 ≤ s → pn 31 s.toInt.toNat ≤ 4 → a_at (d + 15) (a_xm a_m242) 91 [some (a_rf M), some (.int a), some (.int b), some (.int s), some (.int w), none, none, none, none] [] (n, t, K, L, I, R) P := by
    intro q1 q2 q3 q4 q5 q6
    simp only [q242_91, q242_92, q242_93, q242_96, q242_97, m_0 hS, m_K hS, as_nil, as_i, as_r, Nat.reduceAdd, Nat.reduceLeDiff, z_eq0, z_eq1, z_or, z_em, Classical.not_not, not_false_eq_true, not_true_eq_false, true_and, and_true, false_and, and_false, and_self, true_implies, false_implies, implies_true, Option.toList_some, Option.toList_none, List.cons_append, List.nil_append, Nat.add_eq_zero_iff, a_nl_i, a_nl_r, a_nl_n, true_or, or_true, eq_self, ok_4, ok_5, ok_6, ok_7, ok_9, ok_10, ok_20, ok_21, ok_24, ok_30, ok_48, ok_50, ok_60, ok_80, ok_120, ok_180, ok_192, ok_200, ok_900, ok_1000, ok_84000]
    refine lx_best_99 (d := d + 4) hS (I9 := I9) (Y := Y) (I := I) (c := c) (I0 := I0) q5 q6 (fun v J h h9 => hP v J (hL J h) h9) (fun J k hw h4 => ?_) 0 (by decide) _ (by decide) ⟨⟨sF_fewMany hF, ?_, ?_, fun x p1 p2 => ?_, fun x y p1 p2 p3 => ?_⟩, gs_u0 hg (sR_fewMany hg.1) (by unfold ps1; omega)⟩
    · obtain ⟨⟨w1, w2, w3, w4, w5⟩, w6⟩ := hw
      have hf0 : 0 ≤ J M 66 := by
        rw [Int32.le_iff_toInt_le, w3]
        have : (0 : Int32).toInt = 0 := rfl
        omega
      simp only [q242_171, q242_172, q242_173, q242_174, m_0 hS, m_K hS, as_nil, as_i, as_r, Nat.reduceAdd, Nat.reduceLeDiff, z_eq0, z_eq1, z_or, z_em, Classical.not_not, not_false_eq_true, not_true_eq_false, true_and, and_true, false_and, and_false, and_self, true_implies, false_implies, implies_true, Option.toList_some, Option.toList_none, List.cons_append, List.nil_append, Nat.add_eq_zero_iff, a_nl_i, a_nl_r, a_nl_n, true_or, or_true, eq_self, ok_4, ok_5, ok_6, ok_7, ok_9, ok_10, ok_20, ok_21, ok_24, ok_30, ok_48, ok_50, ok_60, ok_80, ok_120, ok_180, ok_192, ok_200, ok_900, ok_1000, ok_84000]
      refine xg_findBest (d := d + 4) hS (I0 := I0) (c := c) w1 w6 hno q1 q2.2 q3 q4 ⟨hf0, h4⟩ (fun k l p1 p2 p3 p4 p5 => ?_) (fun k p1 p2 => (w4 k p1 p2).2) (fun v J2 f2 e2 g2 => ?_)
      · have r1 := rg_few w1.1.1 k.toNatClampNeg
        have r2 := rg_few w1.1.1 l.toNatClampNeg
        have r3 := cl_inj r1.1 r2.1 p5
        by_cases hkl : k < l
        · have := w5 k l p1 hkl p4; grind
        · by_cases hlk : l < k
          · have := w5 l k p3 hlk p2; grind
          · grind
      · simp only [q242_177, q242_179, q242_181, q242_182, q242_185, q242_187, q242_188, q242_190, q242_192, q242_193, as_nil, as_i, as_r, Nat.reduceAdd, Nat.reduceLeDiff, z_eq0, z_eq1, z_or, z_em, Classical.not_not, not_false_eq_true, not_true_eq_false, true_and, and_true, false_and, and_false, and_self, true_implies, false_implies, implies_true, Option.toList_some, Option.toList_none, List.cons_append, List.nil_append, Nat.add_eq_zero_iff, a_nl_i, a_nl_r, a_nl_n, true_or, or_true, eq_self, ok_4, ok_5, ok_6, ok_7, ok_9, ok_10, ok_20, ok_21, ok_24, ok_30, ok_48, ok_50, ok_60, ok_80, ok_120, ok_180, ok_192, ok_200, ok_900, ok_1000, ok_84000]
        refine ⟨fun _ => ?_, fun _ => hP v J2 (hL J2 f2) g2⟩
        exact lp_best_195 (d := d + 4) hS f2 (by rw [e2]; exact h4) (fun v => hP v J2 (hL J2 f2) g2) 0 (by decide) _ _ (by decide)
    · simp only [ui_ap, ne_MM, ne_M0, ne_0M, Nat.reduceEqDiff, reduceIte, if_true, if_false, and_self, false_and, and_false]
      exact g1.1
    · simp only [ui_ap, ne_MM, ne_M0, ne_0M, Nat.reduceEqDiff, reduceIte, if_true, if_false, and_self, false_and, and_false]
      rfl
    · simp only [ui_ap, ne_MM, ne_M0, ne_0M, Nat.reduceEqDiff, reduceIte, if_true, if_false, and_self, false_and, and_false] at p2
      grind
    · simp only [ui_ap, ne_MM, ne_M0, ne_0M, Nat.reduceEqDiff, reduceIte, if_true, if_false, and_self, false_and, and_false] at p3
      grind
  have h76 : (0 ≤ a ∧ a ≤ 199) → (0 ≤ b ∧ b ≤ 199) → a ≤ b → b - a ≤ 7 → 0 ≤ s → a_at (d + 15) (a_xm a_m242) 76 [some (a_rf M), some (.int a), some (.int b), some (.int s), some (.int w), none, none, none, none] [] (n, t, K, L, I, R) P := by
    intro q1 q2 q3 q4 q5
    simp only [q242_76, q242_77, as_nil, as_i, as_r, Nat.reduceAdd, Nat.reduceLeDiff, z_eq0, z_eq1, z_or, z_em, Classical.not_not, not_false_eq_true, not_true_eq_false, true_and, and_true, false_and, and_false, and_self, true_implies, false_implies, implies_true, Option.toList_some, Option.toList_none, List.cons_append, List.nil_append, Nat.add_eq_zero_iff, a_nl_i, a_nl_r, a_nl_n, true_or, or_true, eq_self, ok_4, ok_5, ok_6, ok_7, ok_9, ok_10, ok_20, ok_21, ok_24, ok_30, ok_48, ok_50, ok_60, ok_80, ok_120, ok_180, ok_192, ok_200, ok_900, ok_1000, ok_84000]
    refine ct_onesB q5 (fun v hv => ?_)
    simp only [q242_80, q242_81, q242_84, q242_85, q242_87, q242_90, m_0 hS, m_K hS, sp_refuse_1 hS, sp_refuse_2 hS, sp_refuse_3 hS, sp_refuse_4 hS, sp_refuse_5 hS, sp_refuse_6 hS, as_nil, as_i, as_r, Nat.reduceAdd, Nat.reduceLeDiff, z_eq0, z_eq1, z_or, z_em, Classical.not_not, not_false_eq_true, not_true_eq_false, true_and, and_true, false_and, and_false, and_self, true_implies, false_implies, implies_true, Option.toList_some, Option.toList_none, List.cons_append, List.nil_append, Nat.add_eq_zero_iff, a_nl_i, a_nl_r, a_nl_n, true_or, or_true, eq_self, ok_4, ok_5, ok_6, ok_7, ok_9, ok_10, ok_20, ok_21, ok_24, ok_30, ok_48, ok_50, ok_60, ok_80, ok_120, ok_180, ok_192, ok_200, ok_900, ok_1000, ok_84000]
    refine ⟨fun h => h91 q1 q2 q3 q4 q5 ?_, fun h => hP _ _ (hL _ (sF_refused hF)) (gs_rf hg)⟩
    have := Int32.le_iff_toInt_le.mp h
    have h4 : (4 : Int32).toInt = 4 := rfl
    omega
  repeat' first
    | with_reducible apply And.intro
    | with_reducible assumption
    | with_reducible intro _
    | with_reducible apply hP
    | with_reducible apply hL
    | with_reducible apply sF_refused
    | with_reducible apply gs_rf hg
    | with_reducible apply h76
    | simp only [q242_0, q242_1, q242_2, q242_5, q242_8, q242_9, q242_12, q242_13, q242_14, q242_15, q242_18, q242_19, q242_22, q242_23, q242_24, q242_27, q242_28, q242_30, q242_31, q242_34, q242_35, q242_37, q242_40, q242_41, q242_43, q242_46, q242_48, q242_50, q242_53, q242_54, q242_56, q242_57, q242_58, q242_59, q242_62, q242_63, q242_64, q242_67, q242_68, q242_69, q242_70, q242_71, q242_73, q242_84, q242_85, q242_87, q242_90, m_0 hS, m_K hS, sp_isSpan, sp_refuse_1 hS, sp_refuse_2 hS, sp_refuse_3 hS, sp_refuse_4 hS, sp_refuse_5 hS, sp_refuse_6 hS, as_nil, as_i, as_r, Nat.reduceAdd, Nat.reduceLeDiff, z_eq0, z_eq1, z_or, z_em, Classical.not_not, not_false_eq_true, not_true_eq_false, true_and, and_true, false_and, and_false, and_self, true_implies, false_implies, implies_true, Option.toList_some, Option.toList_none, List.cons_append, List.nil_append, Nat.add_eq_zero_iff, a_nl_i, a_nl_r, a_nl_n, true_or, or_true, eq_self, ok_4, ok_5, ok_6, ok_7, ok_9, ok_10, ok_20, ok_21, ok_24, ok_30, ok_48, ok_50, ok_60, ok_80, ok_120, ok_180, ok_192, ok_200, ok_900, ok_1000, ok_84000]
  all_goals grind [ui_ap]
end ZQQ
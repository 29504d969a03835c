/-! the search for the best 2 -/
section SG
variable {d n t M c : Nat} {K L : Nat → Nat} {I I0 J J0 J1 J2 : Nat → Nat → Int32} {R : Nat → Nat → Nat} {P : Option Value → AH → Prop}
theorem lp_findBest_166 (hS : m_S M K L R) {f e pl b i a p0 : Int32} (hf : 0 ≤ f ∧ f ≤ 199) (he : e ≤ 199) (ha : 0 ≤ a ∧ a < 30) (hpl : 0 ≤ pl ∧ pl ≤ 48) (hb0 : J0 M 6 = 0 → pl = 0) (hp0 : 0 ≤ p0) (hN : ∀ J p fd s, mC M J0 J → p0 ≤ p → p ≤ 49 → (p < pl → f + p / J0 M 6 ≤ 200) → a_at (d + 10) (a_xm a_m243) 264 [some (a_rf M), some (.int f), some (.int e), some (.int pl), some (.int b), some (.int i), some (.int a), some (.int p), some (.int fd), s] [] (n, t, K, L, J, R) P) : ∀ p : Int32, p ≤ 49 → ∀ J s, p0 ≤ p → mC M J0 J → a_at (d + 10) (a_xm a_m243) 166 [some (a_rf M), some (.int f), some (.int e), some (.int pl), some (.int b), some (.int i), some (.int a), some (.int p), some (.int 0), s] [] (n, t, K, L, J, R) P := by
  refine up_ind 49 (fun p hp ih => ?_)
  intro J s h0 hC
  have g0 := rg_benches hC.1
  have e1 := eS_benches hC
  have hN' : ∀ J2 p2 fd s, mC M J0 J2 → p0 ≤ p2 → p2 ≤ 49 → (p2 < pl → f + p2 / J M 6 ≤ 200) → a_at (d + 10) (a_xm a_m243) 264 [some (a_rf M), some (.int f), some (.int e), some (.int pl), some (.int b), some (.int i), some (.int a), some (.int p2), some (.int fd), s] [] (n, t, K, L, J2, R) P := fun J2 p2 fd s q1 q2 q3 q4 => hN J2 p2 fd s q1 q2 q3 (by rw [← e1]; exact q4)
  have hX : ∀ J2 s, mC M J0 J2 → p ≤ pl → (p < pl → f + p / J M 6 ≤ 200) → a_at (d + 10) (a_xm a_m243) 166 [some (a_rf M), some (.int f), some (.int e), some (.int pl), some (.int b), some (.int i), some (.int a), some (.int p), some (.int 1), s] [] (n, t, K, L, J2, R) P := by
    intro J2 s hC2 hp hsp
    rw [q243_166]
    simp only [q243_168, q243_169, q243_172, q243_174, as_nil, as_i, as_r, Nat.reduceAdd, Nat.reduceLeDiff, z_eq0, z_eq1, z_or, z_em, Classical.not_not, not_false_eq_true, not_true_eq_false, true_and, and_true, false_and, and_false, and_self, true_implies, false_implies, implies_true, Option.toList_some, Option.toList_none, List.cons_append, List.nil_append, Nat.add_eq_zero_iff, a_nl_i, a_nl_r, a_nl_n, true_or, or_true, eq_self, ok_4, ok_5, ok_6, ok_7, ok_9, ok_10, ok_20, ok_21, ok_24, ok_30, ok_48, ok_50, ok_60, ok_80, ok_120, ok_180, ok_192, ok_200, ok_900, ok_1000, ok_84000]
    refine ⟨fun h => hN' J2 p 1 s hC2 h0 (by grind) hsp, fun h => ⟨fun h1 => hN' J2 p 1 s hC2 h0 (by grind) hsp, fun h1 => absurd h1 (by decide)⟩⟩
  have g3 := rg_length hC.1 a.toNatClampNeg
  have g4 : ∀ J', mC M J0 J' → J' (M + 10) a.toNatClampNeg = J (M + 10) a.toNatClampNeg := fun J' h => (eS_length h _).trans (eS_length hC _).symm
  have g1 : ¬ J M 6 = 0 → _ := fun h => div_rng (x := p) (k := J M 6) (by grind) (by grind)
  have hfit : p ≤ 48 → ¬ J M 6 = 0 → ∀ Q, (∀ v J', mC M J0 J' → Q (some (.int v)) (n, t, K, L, J', R)) → a_does (d + 10) 221 [a_rf M, .int a, .int (p - p / J M 6 * J M 6), .int (f + p / J M 6)] (n, t, K, L, J, R) Q := fun q1 q2 Q hQ => by
    have g5 := g1 q2
    have g2 := rem_rng (x := p) (k := J M 6) (by grind) (by grind) (by grind) (by grind)
    generalize p - p / J M 6 * J M 6 = y at g2
    exact ct_fitOf hS hC ha (by grind) (by grind) hQ
  rw [q243_166]
  repeat' first
    | with_reducible apply And.intro
    | with_reducible assumption
    | with_reducible intro _
    | with_reducible apply ih
    | with_reducible apply hX
    | with_reducible apply hfit
    | with_reducible apply hN'
    | simp only [q243_168, q243_169, q243_172, q243_174, q243_177, q243_178, q243_181, q243_184, q243_185, q243_188, q243_189, q243_191, q243_192, q243_195, q243_196, q243_197, q243_199, q243_201, q243_202, q243_205, q243_207, q243_208, q243_211, q243_213, q243_214, q243_215, q243_216, q243_217, q243_218, q243_221, q243_222, q243_224, q243_226, q243_227, q243_230, q243_231, q243_233, q243_236, q243_239, q243_240, q243_243, q243_244, q243_246, q243_248, q243_250, q243_253, q243_254, q243_257, q243_258, q243_259, q243_261, m_0 hS, m_K hS, mR_length hS, mK_length hS, mL_length hS, as_nil, as_i, as_r, Nat.reduceAdd, Nat.reduceLeDiff, z_eq0, z_eq1, z_or, z_em, Classical.not_not, not_false_eq_true, not_true_eq_false, true_and, and_true, false_and, and_false, and_self, true_implies, false_implies, implies_true, Option.toList_some, Option.toList_none, List.cons_append, List.nil_append, Nat.add_eq_zero_iff, a_nl_i, a_nl_r, a_nl_n, true_or, or_true, eq_self, ok_4, ok_5, ok_6, ok_7, ok_9, ok_10, ok_20, ok_21, ok_24, ok_30, ok_48, ok_50, ok_60, ok_80, ok_120, ok_180, ok_192, ok_200, ok_900, ok_1000, ok_84000, Int32.add_zero]
  all_goals (try clear ih); (try clear hN); (try clear hX); (try clear hfit); (try clear hN'); (try simp only [g4 _ (by assumption)] at *); (try generalize p / J M 6 = q at *); grind [ui_ap]
set_option maxHeartbeats 8000000 in
theorem lp_findBest_31 (hS : m_S M K L R) {f e pl : Int32} (hf : 0 ≤ f ∧ f ≤ 199) (he : e ≤ 199) (hpl : 0 ≤ pl ∧ pl ≤ 48) (hb0 : I M 6 = 0 → pl = 0) (hfm : 0 ≤ I M 66 ∧ I M 66 ≤ 4) (hd : ∀ k l : Int32, 0 ≤ k → k < I M 66 → 0 ≤ l → l < I M 66 → (I (M + 41) k.toNatClampNeg).toNatClampNeg = (I (M + 41) l.toNatClampNeg).toNatClampNeg → k = l) (hP : ∀ v J, bI M I J pl (-1) → P (some (.int v)) (n, t, K, L, J, R)) : ∀ (z : Nat) J b i k p u v, mu pl (J (M + 42)) i < z → (-1 ≤ i ∧ i ≤ I M 66) → bI M I J pl i → a_at (d + 10) (a_xm a_m243) 31 [some (a_rf M), some (.int f), some (.int e), some (.int pl), some (.int b), some (.int i), k, p, u, v] [] (n, t, K, L, J, R) P := by
  intro z
  induction z with
  | zero => intro J b i k p u v hz; omega
  | succ z ih =>
  intro J b i k p u v hz hi hb
  obtain ⟨b1, b2, b3, b4, b5⟩ := id hb
  have e1 := bF_fewMany b2
  have e2 := bF_few b2
  have hback : ∀ J' b k p u v, 0 ≤ i → bI M I J' pl (i + (-1)) → (∀ k : Nat, k < i.toNatClampNeg → J' (M + 42) k = J (M + 42) k) → a_at (d + 10) (a_xm a_m243) 31 [some (a_rf M), some (.int f), some (.int e), some (.int pl), some (.int b), some (.int (i + (-1))), k, p, u, v] [] (n, t, K, L, J', R) P := by
    intro J' b k p u v q1 q2 q3
    have := mu_back (w := J (M + 42)) (w' := J' (M + 42)) q1 (by grind) hpl (b4 i q1 (Int32.le_refl _)) q3
    exact ih J' b _ k p u v (by omega) (by grind) q2
  rw [q243_31]
  simp only [q243_33, q243_36, q243_38, q243_39, q243_42, q243_360, q243_362, m_0 hS, m_K hS, as_nil, as_i, as_r, Nat.reduceAdd, Nat.reduceLeDiff, z_eq0, z_eq1, z_or, z_em, Classical.not_not, not_false_eq_true, not_true_eq_false, true_and, and_true, false_and, and_false, and_self, true_implies, false_implies, implies_true, Option.toList_some, Option.toList_none, List.cons_append, List.nil_append, Nat.add_eq_zero_iff, a_nl_i, a_nl_r, a_nl_n, true_or, or_true, eq_self, ok_4, ok_5, ok_6, ok_7, ok_9, ok_10, ok_20, ok_21, ok_24, ok_30, ok_48, ok_50, ok_60, ok_80, ok_120, ok_180, ok_192, ok_200, ok_900, ok_1000, ok_84000]
  refine ⟨fun h => ?_, fun h => ⟨fun h1 => ?_, fun h1 => ?_⟩⟩
  · refine hP b J ?_
    rw [show (-1 : Int32) = i by grind]
    exact hb
  · -- a place is looked for
    have q1 : 0 ≤ i ∧ i < I M 66 := by grind
    have ha := rg_few b1 i.toNatClampNeg
    have hfi : fw M I (J (M + 41) i.toNatClampNeg).toNatClampNeg := ⟨i, q1.1, q1.2, by rw [e2]⟩
    have hwi := b4 i q1.1 (Int32.le_refl _)
    -- taken out
    have hgo : ∀ J1, bI M I J1 pl i → J1 (M + 42) = J (M + 42) → ¬ 0 ≤ J1 (M + 20) (J (M + 41) i.toNatClampNeg).toNatClampNeg → a_at (d + 10) (a_xm a_m243) 152 [some (a_rf M), some (.int f), some (.int e), some (.int pl), some (.int b), some (.int i), some (.int (J (M + 41) i.toNatClampNeg)), p, u, v] [] (n, t, K, L, J1, R) P := by
      intro J1 hb1 hw1 hnp
      obtain ⟨c1, c2, c3, c4, c5⟩ := id hb1
      have hb0' : J1 M 6 = 0 → pl = 0 := fun h => hb0 (by rw [← bF_benches c2]; exact h)
      simp only [q243_152, q243_153, q243_156, q243_158, q243_159, q243_160, q243_161, q243_163, q243_164, m_0 hS, m_K hS, mR_way hS, mK_way hS, mL_way hS, as_nil, as_i, as_r, Nat.reduceAdd, Nat.reduceLeDiff, z_eq0, z_eq1, z_or, z_em, Classical.not_not, not_false_eq_true, not_true_eq_false, true_and, and_true, false_and, and_false, and_self, true_implies, false_implies, implies_true, Option.toList_some, Option.toList_none, List.cons_append, List.nil_append, Nat.add_eq_zero_iff, a_nl_i, a_nl_r, a_nl_n, true_or, or_true, eq_self, ok_4, ok_5, ok_6, ok_7, ok_9, ok_10, ok_20, ok_21, ok_24, ok_30, ok_48, ok_50, ok_60, ok_80, ok_120, ok_180, ok_192, ok_200, ok_900, ok_1000, ok_84000, hw1]
      refine ⟨by grind, ?_⟩
      refine lp_findBest_166 hS (J0 := J1) (p0 := J (M + 42) i.toNatClampNeg + 1) hf he (by grind) hpl hb0' (by grind) (fun J2 p2 fd s hC hp hp49 hsp => ?_) _ (by grind) J1 v (Int32.le_refl _) (mC_refl c1)
      have w2 : J2 (M + 42) = J (M + 42) := by rw [← hw1]; funext j; exact eS_way hC j
      have bn2 : J2 M 6 = J1 M 6 := eS_benches hC
      have hpl3 : ∀ k : Int32, 0 ≤ k → k < I M 66 → 0 ≤ J2 (M + 20) (I (M + 41) k.toNatClampNeg).toNatClampNeg → k < i ∧ 0 ≤ J (M + 42) k.toNatClampNeg ∧ J (M + 42) k.toNatClampNeg < pl := by
        intro k2 p1 p2' p3
        rw [eS_atBench hC] at p3
        have c6 := c3 k2 p1 p2' p3
        rw [hw1] at c6
        refine ⟨?_, c6.2⟩
        have : ¬ k2 = i := fun q => by subst q; exact hnp (by rw [e2]; exact p3)
        grind
      simp only [q243_264, q243_266, q243_267, as_nil, as_i, as_r, Nat.reduceAdd, Nat.reduceLeDiff, z_eq0, z_eq1, z_or, z_em, Classical.not_not, not_false_eq_true, not_true_eq_false, true_and, and_true, false_and, and_false, and_self, true_implies, false_implies, implies_true, Option.toList_some, Option.toList_none, List.cons_append, List.nil_append, Nat.add_eq_zero_iff, a_nl_i, a_nl_r, a_nl_n, true_or, or_true, eq_self, ok_4, ok_5, ok_6, ok_7, ok_9, ok_10, ok_20, ok_21, ok_24, ok_30, ok_48, ok_50, ok_60, ok_80, ok_120, ok_180, ok_192, ok_200, ok_900, ok_1000, ok_84000]
      refine ⟨fun h2 => ?_, fun h2 => ?_⟩
      · -- placed, or left out
        have r2 := hC.1
        have hF3 : bF M I (a_ui J2 (M + 42) i.toNatClampNeg p2) := bF_ui (bF_C c2 hC) (by omega)
        have hw3 : ∀ k : Int32, 0 ≤ k → ¬ k = i → (a_ui J2 (M + 42) i.toNatClampNeg p2) (M + 42) k.toNatClampNeg = J (M + 42) k.toNatClampNeg := fun k2 p1 p3 => by
          rw [ui_ap, if_neg (fun q => p3 (cl_inj p1 q1.1 q.2)), w2]
        have hw4 : (a_ui J2 (M + 42) i.toNatClampNeg p2) (M + 42) i.toNatClampNeg = p2 := by simp [ui_ap]
        have hb3 : ∀ k, (a_ui J2 (M + 42) i.toNatClampNeg p2) (M + 20) k = J2 (M + 20) k := fun k => by simp [ui_ap]
        have hb6 : (a_ui J2 (M + 42) i.toNatClampNeg p2) M 6 = J2 M 6 := by simp [ui_ap]
        have r3 : mR M (a_ui J2 (M + 42) i.toNatClampNeg p2) := sR_way r2
        simp only [q243_276, q243_277, q243_280, q243_282, q243_284, q243_285, q243_287, q243_288, m_0 hS, m_K hS, mR_way hS, mK_way hS, mL_way hS, as_nil, as_i, as_r, Nat.reduceAdd, Nat.reduceLeDiff, z_eq0, z_eq1, z_or, z_em, Classical.not_not, not_false_eq_true, not_true_eq_false, true_and, and_true, false_and, and_false, and_self, true_implies, false_implies, implies_true, Option.toList_some, Option.toList_none, List.cons_append, List.nil_append, Nat.add_eq_zero_iff, a_nl_i, a_nl_r, a_nl_n, true_or, or_true, eq_self, ok_4, ok_5, ok_6, ok_7, ok_9, ok_10, ok_20, ok_21, ok_24, ok_30, ok_48, ok_50, ok_60, ok_80, ok_120, ok_180, ok_192, ok_200, ok_900, ok_1000, ok_84000]
        refine ⟨by grind, ?_⟩
        revert hF3 hw3 hw4 hb3 r3 hb6
        generalize a_ui J2 (M + 42) i.toNatClampNeg p2 = J3
        intro hF3 hw3 hw4 hb3 r3 hb6
        -- behind the placing
        have hend : ∀ J4, mR M J4 → bF M I J4 → (∀ k, J4 (M + 42) k = J3 (M + 42) k) → (∀ k : Int32, 0 ≤ k → k < I M 66 → ¬ k = i → J4 (M + 20) (I (M + 41) k.toNatClampNeg).toNatClampNeg = J3 (M + 20) (I (M + 41) k.toNatClampNeg).toNatClampNeg) → (0 ≤ J4 (M + 20) (I (M + 41) i.toNatClampNeg).toNatClampNeg → p2 < pl) → ∀ x, a_at (d + 10) (a_xm a_m243) 345 [some (a_rf M), some (.int f), some (.int e), some (.int pl), some (.int b), some (.int i), some (.int (J (M + 41) i.toNatClampNeg)), some (.int p2), some (.int fd), s] [.int x, .int (i + 1), a_rf (M + 43)] (n, t, K, L, J4, R) P := by
          intro J4 d1 d2 d3 d4 d5 x
          simp only [q243_345, q243_346, q243_349, q243_350, q243_353, q243_355, q243_356, q243_357, m_0 hS, m_K hS, mR_way hS, mK_way hS, mL_way hS, as_nil, as_i, as_r, Nat.reduceAdd, Nat.reduceLeDiff, z_eq0, z_eq1, z_or, z_em, Classical.not_not, not_false_eq_true, not_true_eq_false, true_and, and_true, false_and, and_false, and_self, true_implies, false_implies, implies_true, Option.toList_some, Option.toList_none, List.cons_append, List.nil_append, Nat.add_eq_zero_iff, a_nl_i, a_nl_r, a_nl_n, true_or, or_true, eq_self, ok_4, ok_5, ok_6, ok_7, ok_9, ok_10, ok_20, ok_21, ok_24, ok_30, ok_48, ok_50, ok_60, ok_80, ok_120, ok_180, ok_192, ok_200, ok_900, ok_1000, ok_84000, mK_sumTo hS, mL_sumTo hS]
          refine ⟨by grind, by grind, ?_⟩
          have hcl : (i + 1).toNatClampNeg = i.toNatClampNeg + 1 := cl_up q1.1 (by grind)
          have w5 : ∀ k : Int32, 0 ≤ k → k ≤ i → a_ui (a_ui J4 (M + 43) (i + 1).toNatClampNeg x) (M + 42) (i + 1).toNatClampNeg (-1) (M + 42) k.toNatClampNeg = J3 (M + 42) k.toNatClampNeg := fun k p1 p3 => by
            have : k.toNatClampNeg < (i + 1).toNatClampNeg := cl_lt p1 (by grind)
            rw [ui_ap, if_neg (by omega), ui_ap, if_neg (by omega), d3]
          have w6 : a_ui (a_ui J4 (M + 43) (i + 1).toNatClampNeg x) (M + 42) (i + 1).toNatClampNeg (-1) (M + 42) (i + 1).toNatClampNeg = -1 := by simp [ui_ap]
          have w7 : ∀ k, a_ui (a_ui J4 (M + 43) (i + 1).toNatClampNeg x) (M + 42) (i + 1).toNatClampNeg (-1) (M + 20) k = J4 (M + 20) k := fun k => by simp [ui_ap]
          refine ih _ b (i + 1) _ _ _ _ ?_ (by grind) ⟨sR_way (sR_sumTo d1), bF_ui (bF_ui d2 (by omega)) (by omega), ?_, ?_, ?_⟩
          · refine Nat.lt_of_lt_of_le (mu_on (w := J (M + 42)) q1.1 (by grind) hpl ?_ ?_ w6) (by omega)
            · rw [w5 i q1.1 (Int32.le_refl _), hw4]
              exact ⟨hwi.1, by grind, by grind⟩
            · intro k hk
              have hk2 : (Int32.ofNat k).toNatClampNeg = k := by
                have h30 : i.toNatClampNeg < 4 := (show i.toNatClampNeg < (4 : Int32).toNatClampNeg from cl_lt q1.1 (by grind))
                have : k = 0 ∨ k = 1 ∨ k = 2 := by omega
                rcases this with h | h | h <;> subst h <;> decide
              have hk3 : (0 : Int32) ≤ Int32.ofNat k ∧ Int32.ofNat k < i := by
                have h30 : i.toNatClampNeg < 4 := (show i.toNatClampNeg < (4 : Int32).toNatClampNeg from cl_lt q1.1 (by grind))
                have : k = 0 ∨ k = 1 ∨ k = 2 := by omega
                have hz : (0 : Int32) ≤ Int32.ofNat k := by rcases this with h | h | h <;> subst h <;> decide
                refine ⟨hz, ?_⟩
                apply Int32.not_le.mp
                intro hle
                have : i.toNatClampNeg ≤ (Int32.ofNat k).toNatClampNeg := by
                  by_cases hq : i = Int32.ofNat k
                  · rw [hq]; exact Nat.le_refl _
                  · exact Nat.le_of_lt (cl_lt q1.1 (by grind))
                omega
              have := w5 (Int32.ofNat k) hk3.1 (by grind)
              rw [hk2] at this
              rw [this]
              have := hw3 (Int32.ofNat k) hk3.1 (by grind)
              rw [hk2] at this
              exact this
          · intro k p1 p3 p4
            rw [w7] at p4
            by_cases hki : k = i
            · subst hki
              rw [w5 k p1 (Int32.le_refl _), hw4]
              exact ⟨by grind, by grind, d5 p4⟩
            · rw [d4 k p1 p3 hki, hb3] at p4
              have c7 := hpl3 k p1 p3 p4
              rw [w5 k p1 (by grind), hw3 k p1 hki]
              exact ⟨by grind, c7.2⟩
          · intro k p1 p3
            by_cases hki : k = i + 1
            · subst hki; rw [w6]; exact ⟨by decide, by grind⟩
            · rw [w5 k p1 (by grind)]
              by_cases hk2 : k = i
              · subst hk2; rw [hw4]; exact ⟨by grind, by grind⟩
              · rw [hw3 k p1 hk2]; exact b4 k p1 (by grind)
          · intro k p1 p3
            rw [w5 k p1 (by grind)]
            by_cases hk2 : k = i
            · subst hk2; rw [hw4]; grind
            · rw [hw3 k p1 hk2]; exact b5 k p1 (by grind)
        refine ⟨fun h3 => ?_, fun h3 => ?_⟩
        · -- left out
          simp only [q243_313, q243_314, q243_317, q243_319, q243_320, q243_321, q243_322, q243_325, q243_327, q243_328, q243_330, q243_331, q243_334, q243_335, q243_337, q243_340, q243_343, q243_344, m_0 hS, m_K hS, mR_sumTo hS, mK_sumTo hS, mL_sumTo hS, as_nil, as_i, as_r, Nat.reduceAdd, Nat.reduceLeDiff, z_eq0, z_eq1, z_or, z_em, Classical.not_not, not_false_eq_true, not_true_eq_false, true_and, and_true, false_and, and_false, and_self, true_implies, false_implies, implies_true, Option.toList_some, Option.toList_none, List.cons_append, List.nil_append, Nat.add_eq_zero_iff, a_nl_i, a_nl_r, a_nl_n, true_or, or_true, eq_self, ok_4, ok_5, ok_6, ok_7, ok_9, ok_10, ok_20, ok_21, ok_24, ok_30, ok_48, ok_50, ok_60, ok_80, ok_120, ok_180, ok_192, ok_200, ok_900, ok_1000, ok_84000]
          repeat refine And.intro (by grind) ?_
          refine ⟨fun h4 => ?_, fun h4 => absurd h3 h4⟩
          exact hend J3 r3 hF3 (fun _ => rfl) (fun _ _ _ _ => rfl) (fun p4 => by
            rw [hb3] at p4
            have := (hpl3 i q1.1 q1.2 p4).1
            grind) _
        · -- placed
          have g0 := rg_benches r3
          have hbn : ¬ J3 M 6 = 0 := fun h => by
            rw [hb6, bn2] at h
            have := hb0' h
            grind
          have g1 := div_rng (x := p2) (k := J3 M 6) (by grind) (by grind)
          have g2 := rem_rng (x := p2) (k := J3 M 6) (by grind) (by grind) (by grind) (by grind)
          simp only [q243_291, q243_292, q243_294, q243_296, q243_297, q243_300, q243_301, q243_302, q243_304, q243_305, q243_308, q243_309, q243_310, m_0 hS, m_K hS, as_nil, as_i, as_r, Nat.reduceAdd, Nat.reduceLeDiff, z_eq0, z_eq1, z_or, z_em, Classical.not_not, not_false_eq_true, not_true_eq_false, true_and, and_true, false_and, and_false, and_self, true_implies, false_implies, implies_true, Option.toList_some, Option.toList_none, List.cons_append, List.nil_append, Nat.add_eq_zero_iff, a_nl_i, a_nl_r, a_nl_n, true_or, or_true, eq_self, ok_4, ok_5, ok_6, ok_7, ok_9, ok_10, ok_20, ok_21, ok_24, ok_30, ok_48, ok_50, ok_60, ok_80, ok_120, ok_180, ok_192, ok_200, ok_900, ok_1000, ok_84000, hbn]
          refine ct_putAt hS r3 (by grind) (by grind) (fun J4 hm => ?_)
          have r4 : mR M (a_ui (a_ui J4 (M + 20) (J (M + 41) i.toNatClampNeg).toNatClampNeg (p2 - p2 / J3 M 6 * J3 M 6)) (M + 21) (J (M + 41) i.toNatClampNeg).toNatClampNeg (f + p2 / J3 M 6)) → mR M J4 := fun _ => hm.1
          have F4 : bF M I (a_ui (a_ui J4 (M + 20) (J (M + 41) i.toNatClampNeg).toNatClampNeg (p2 - p2 / J3 M 6 * J3 M 6)) (M + 21) (J (M + 41) i.toNatClampNeg).toNatClampNeg (f + p2 / J3 M 6)) := bF_ui (bF_ui (bF_S hF3 hm) (Or.inr (Or.inr (Or.inr ⟨Or.inl rfl, hfi⟩)))) (Or.inr (Or.inr (Or.inr ⟨Or.inr rfl, hfi⟩)))
          have w4 : ∀ k, (a_ui (a_ui J4 (M + 20) (J (M + 41) i.toNatClampNeg).toNatClampNeg (p2 - p2 / J3 M 6 * J3 M 6)) (M + 21) (J (M + 41) i.toNatClampNeg).toNatClampNeg (f + p2 / J3 M 6)) (M + 42) k = J3 (M + 42) k := fun k => by
            rw [ui_ap, if_neg (by omega), ui_ap, if_neg (by omega)]; exact hm.2 _ _ (by unfold sC; omega) (by omega)
          have a4 : ∀ k : Int32, 0 ≤ k → k < I M 66 → ¬ k = i → (a_ui (a_ui J4 (M + 20) (J (M + 41) i.toNatClampNeg).toNatClampNeg (p2 - p2 / J3 M 6 * J3 M 6)) (M + 21) (J (M + 41) i.toNatClampNeg).toNatClampNeg (f + p2 / J3 M 6)) (M + 20) (I (M + 41) k.toNatClampNeg).toNatClampNeg = J3 (M + 20) (I (M + 41) k.toNatClampNeg).toNatClampNeg := fun k p1 p3 p4 => by
            rw [ui_ap, if_neg (by omega), ui_ap, if_neg (fun q => p4 (hd k i p1 p3 q1.1 q1.2 (by rw [← e2 i.toNatClampNeg]; exact q.2)))]; exact hm.2 _ _ (by unfold sC; omega) (by omega)
          have r5 : mR M (a_ui (a_ui J4 (M + 20) (J (M + 41) i.toNatClampNeg).toNatClampNeg (p2 - p2 / J3 M 6 * J3 M 6)) (M + 21) (J (M + 41) i.toNatClampNeg).toNatClampNeg (f + p2 / J3 M 6)) := sR_atShift (sR_atBench hm.1 (by grind)) (by
            have hs3 := hsp (by grind)
            rw [← bn2, ← hb6] at hs3
            exact ⟨by grind, hs3⟩)
          revert r5 F4 w4 a4 r4
          generalize (a_ui (a_ui J4 (M + 20) (J (M + 41) i.toNatClampNeg).toNatClampNeg (p2 - p2 / J3 M 6 * J3 M 6)) (M + 21) (J (M + 41) i.toNatClampNeg).toNatClampNeg (f + p2 / J3 M 6)) = J5
          intro r4 F4 w4 a4 r5
          simp only [q243_313, q243_314, q243_317, q243_319, q243_320, q243_321, q243_322, q243_325, q243_327, q243_328, q243_330, q243_331, q243_334, q243_335, q243_337, m_0 hS, m_K hS, mR_sumTo hS, mK_sumTo hS, mL_sumTo hS, as_nil, as_i, as_r, Nat.reduceAdd, Nat.reduceLeDiff, z_eq0, z_eq1, z_or, z_em, Classical.not_not, not_false_eq_true, not_true_eq_false, true_and, and_true, false_and, and_false, and_self, true_implies, false_implies, implies_true, Option.toList_some, Option.toList_none, List.cons_append, List.nil_append, Nat.add_eq_zero_iff, a_nl_i, a_nl_r, a_nl_n, true_or, or_true, eq_self, ok_4, ok_5, ok_6, ok_7, ok_9, ok_10, ok_20, ok_21, ok_24, ok_30, ok_48, ok_50, ok_60, ok_80, ok_120, ok_180, ok_192, ok_200, ok_900, ok_1000, ok_84000]
          repeat refine And.intro (by grind) ?_
          refine ⟨fun h4 => absurd h4 h3, fun h4 => ?_⟩
          refine ct_markAt hS r5 (by grind) (fun x hx => ?_)
          simp only [q243_340, q243_343, q243_344, as_nil, as_i, as_r, Nat.reduceAdd, Nat.reduceLeDiff, z_eq0, z_eq1, z_or, z_em, Classical.not_not, not_false_eq_true, not_true_eq_false, true_and, and_true, false_and, and_false, and_self, true_implies, false_implies, implies_true, Option.toList_some, Option.toList_none, List.cons_append, List.nil_append, Nat.add_eq_zero_iff, a_nl_i, a_nl_r, a_nl_n, true_or, or_true, eq_self, ok_4, ok_5, ok_6, ok_7, ok_9, ok_10, ok_20, ok_21, ok_24, ok_30, ok_48, ok_50, ok_60, ok_80, ok_120, ok_180, ok_192, ok_200, ok_900, ok_1000, ok_84000]
          exact hend J5 r5 F4 w4 a4 (fun _ => by grind) _
      · -- none is left
        simp only [q243_270, q243_273, as_nil, as_i, as_r, Nat.reduceAdd, Nat.reduceLeDiff, z_eq0, z_eq1, z_or, z_em, Classical.not_not, not_false_eq_true, not_true_eq_false, true_and, and_true, false_and, and_false, and_self, true_implies, false_implies, implies_true, Option.toList_some, Option.toList_none, List.cons_append, List.nil_append, Nat.add_eq_zero_iff, a_nl_i, a_nl_r, a_nl_n, true_or, or_true, eq_self, ok_4, ok_5, ok_6, ok_7, ok_9, ok_10, ok_20, ok_21, ok_24, ok_30, ok_48, ok_50, ok_60, ok_80, ok_120, ok_180, ok_192, ok_200, ok_900, ok_1000, ok_84000]
        refine hback J2 _ _ _ _ _ q1.1 ⟨hC.1, bF_C c2 hC, fun k2 p1 p3 p4 => ?_, fun k2 p1 p3 => ?_, fun k2 p1 p3 => ?_⟩ (fun k2 _ => by rw [w2])
        · have c7 := hpl3 k2 p1 p3 p4
          rw [w2]
          exact ⟨by grind, c7.2⟩
        · rw [w2]; exact b4 k2 p1 (by grind)
        · rw [w2]; exact b5 k2 p1 (by grind)
    simp only [q243_104, q243_105, q243_108, q243_110, q243_111, q243_113, q243_114, q243_117, q243_119, q243_120, q243_123, q243_124, q243_127, q243_129, q243_130, q243_131, m_0 hS, m_K hS, mR_few hS, mK_few hS, mL_few hS, mR_way hS, mK_way hS, mL_way hS, as_nil, as_i, as_r, Nat.reduceAdd, Nat.reduceLeDiff, z_eq0, z_eq1, z_or, z_em, Classical.not_not, not_false_eq_true, not_true_eq_false, true_and, and_true, false_and, and_false, and_self, true_implies, false_implies, implies_true, Option.toList_some, Option.toList_none, List.cons_append, List.nil_append, Nat.add_eq_zero_iff, a_nl_i, a_nl_r, a_nl_n, true_or, or_true, eq_self, ok_4, ok_5, ok_6, ok_7, ok_9, ok_10, ok_20, ok_21, ok_24, ok_30, ok_48, ok_50, ok_60, ok_80, ok_120, ok_180, ok_192, ok_200, ok_900, ok_1000, ok_84000]
    repeat refine And.intro (by grind) ?_
    have hno : ¬ (0 ≤ J (M + 42) i.toNatClampNeg ∧ J (M + 42) i.toNatClampNeg < pl) → ¬ 0 ≤ J (M + 20) (J (M + 41) i.toNatClampNeg).toNatClampNeg := fun q p => q (b3 i q1.1 q1.2 (by rw [← e2]; exact p)).2
    intro h2
    refine ⟨by grind, fun h3 => hgo J hb rfl (hno (by grind)), fun h3 => ?_⟩
    simp only [q243_134, q243_135, q243_138, q243_140, q243_142, q243_143, q243_144, q243_147, q243_149, q243_151, m_0 hS, m_K hS, mR_atBench hS, mK_atBench hS, mL_atBench hS, mR_atShift hS, mK_atShift hS, mL_atShift hS, as_nil, as_i, as_r, Nat.reduceAdd, Nat.reduceLeDiff, z_eq0, z_eq1, z_or, z_em, Classical.not_not, not_false_eq_true, not_true_eq_false, true_and, and_true, false_and, and_false, and_self, true_implies, false_implies, implies_true, Option.toList_some, Option.toList_none, List.cons_append, List.nil_append, Nat.add_eq_zero_iff, a_nl_i, a_nl_r, a_nl_n, true_or, or_true, eq_self, ok_4, ok_5, ok_6, ok_7, ok_9, ok_10, ok_20, ok_21, ok_24, ok_30, ok_48, ok_50, ok_60, ok_80, ok_120, ok_180, ok_192, ok_200, ok_900, ok_1000, ok_84000]
    repeat refine And.intro (by grind) ?_
    refine hgo _ ⟨sR_atShift (sR_atBench b1 (by decide)) (by decide), bF_ui (bF_ui b2 (Or.inr (Or.inr (Or.inr ⟨Or.inl rfl, hfi⟩)))) (Or.inr (Or.inr (Or.inr ⟨Or.inr rfl, hfi⟩))), fun k p1 p3 p4 => ?_, fun k p1 p3 => ?_, fun k p1 p3 => ?_⟩ (by funext j; simp [ui_ap]) (by simp [ui_ap])
    · rw [ui_ap, if_neg (by omega), ui_ap] at p4
      by_cases hq : (I (M + 41) k.toNatClampNeg).toNatClampNeg = (J (M + 41) i.toNatClampNeg).toNatClampNeg
      · rw [if_pos ⟨rfl, hq⟩] at p4
        exact absurd p4 (by decide)
      · rw [if_neg (fun q => hq q.2)] at p4
        simpa [ui_ap] using b3 k p1 p3 p4
    · simpa [ui_ap] using b4 k p1 p3
    · simpa [ui_ap] using b5 k p1 p3
  · -- all are placed or left out
    have q1 : 0 ≤ i := by grind
    have h98 : ∀ J' b k p u v, bI M I J' pl i → J' (M + 42) = J (M + 42) → a_at (d + 10) (a_xm a_m243) 98 [some (a_rf M), some (.int f), some (.int e), some (.int pl), some (.int b), some (.int i), k, p, u, v] [] (n, t, K, L, J', R) P := by
      intro J' b k p u v hb' hw'
      obtain ⟨c1, c2, c3, c4, c5⟩ := hb'
      simp only [q243_98, q243_101, as_nil, as_i, as_r, Nat.reduceAdd, Nat.reduceLeDiff, z_eq0, z_eq1, z_or, z_em, Classical.not_not, not_false_eq_true, not_true_eq_false, true_and, and_true, false_and, and_false, and_self, true_implies, false_implies, implies_true, Option.toList_some, Option.toList_none, List.cons_append, List.nil_append, Nat.add_eq_zero_iff, a_nl_i, a_nl_r, a_nl_n, true_or, or_true, eq_self, ok_4, ok_5, ok_6, ok_7, ok_9, ok_10, ok_20, ok_21, ok_24, ok_30, ok_48, ok_50, ok_60, ok_80, ok_120, ok_180, ok_192, ok_200, ok_900, ok_1000, ok_84000]
      refine hback J' b k p u v q1 ⟨c1, c2, fun k2 p1 p3 p4 => ?_, fun k2 p1 p3 => c4 k2 p1 (by grind), fun k2 p1 p3 => c5 k2 p1 (by grind)⟩ (fun k2 _ => by rw [hw'])
      have := c3 k2 p1 p3 p4
      exact ⟨by grind, this.2⟩
    simp only [q243_45, q243_46, q243_49, q243_51, q243_52, q243_54, q243_57, q243_58, q243_61, q243_63, q243_64, q243_66, q243_67, m_0 hS, m_K hS, mR_sumTo hS, mK_sumTo hS, mL_sumTo hS, as_nil, as_i, as_r, Nat.reduceAdd, Nat.reduceLeDiff, z_eq0, z_eq1, z_or, z_em, Classical.not_not, not_false_eq_true, not_true_eq_false, true_and, and_true, false_and, and_false, and_self, true_implies, false_implies, implies_true, Option.toList_some, Option.toList_none, List.cons_append, List.nil_append, Nat.add_eq_zero_iff, a_nl_i, a_nl_r, a_nl_n, true_or, or_true, eq_self, ok_4, ok_5, ok_6, ok_7, ok_9, ok_10, ok_20, ok_21, ok_24, ok_30, ok_48, ok_50, ok_60, ok_80, ok_120, ok_180, ok_192, ok_200, ok_900, ok_1000, ok_84000]
    repeat refine And.intro (by grind) ?_
    intro h2
    refine ⟨by grind, ?_⟩
    exact lp_findBest_69 hS (I := I) (J0 := J) hpl hfm (by grind) (fun J' k' hb' hw' => h98 J' _ _ _ _ _ hb' hw') 0 (by decide) J (by decide) hb rfl
end SG

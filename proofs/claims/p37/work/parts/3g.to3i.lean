section
/-! the search for the best 2 -/
section SG
variable {d n t M c : Nat} {K L : Nat → Nat} {I I0 J J0 J1 J2 J3 J4 : Nat → Nat → Int32} {R : Nat → Nat → Nat} {P : Option Value → AH → Prop}
theorem lp_findBest_166 (hS : m_S M K L R) {f e pl b i a p0 : Int32} (hf : 0 ≤ f ∧ f ≤ 199) (he : e ≤ 199) (ha : 0 ≤ a ∧ a < 30) (hpl : 0 ≤ pl ∧ pl ≤ 48) (hb0 : J0 M 6 = 0 → pl = 0) (hp0 : 0 ≤ p0) (hN : ∀ J p fd s, mC M J0 J → p0 ≤ p → p ≤ 49 → (p < pl → f + p / J0 M 6 ≤ 200) → a_at (d + 10) (a_xm a_m243) 264 [some (a_rf M), some (.int f), some (.int e), some (.int pl), some (.int b), some (.int i), some (.int a), some (.int p), some (.int fd), s] [] (n, t, K, L, J, R) P) : ∀ p : Int32, p ≤ 49 → ∀ J s, p0 ≤ p → mC M J0 J → a_at (d + 10) (a_xm a_m243) 166 [some (a_rf M), some (.int f), some (.int e), some (.int pl), some (.int b), some (.int i), some (.int a), some (.int p), some (.int 0), s] [] (n, t, K, L, J, R) P := by
  refine up_ind 49 (fun p hp ih => ?_)
  intro J s h0 hC
  have g0 := rg_benches hC.1
  have e1 := eS_benches hC
  have hN' : ∀ J2 p2 fd s, mC M J0 J2 → p0 ≤ p2 → p2 ≤ 49 → (p2 < pl → f + p2 / J M 6 ≤ 200) → a_at (d + 10) (a_xm a_m243) 264 [some (a_rf M), some (.int f), some (.int e), some (.int pl), some (.int b), some (.int i), some (.int a), some (.int p2), some (.int fd), s] [] (n, t, K, L, J2, R) P := fun J2 p2 fd s q1 q2 q3 q4 => hN J2 p2 fd s q1 q2 q3 (by rw [← e1]; exact q4)
  have hX : ∀ J2 s, mC M J0 J2 → p ≤ pl → (p < pl → f + p / J M 6 ≤ 200) → a_at (d + 10) (a_xm a_m243) 166 [some (a_rf M), some (.int f), some (.int e), some (.int pl), some (.int b), some (.int i), some (.int a), some (.int p), some (.int 1), s] [] (n, t, K, L, J2, R) P := by
    intro J2 s hC2 hp hsp
    rw [q243_166]
    simp only [q243_168, q243_169, q243_172, q243_174, as_nil, as_i, as_r, Nat.reduceAdd, Nat.reduceLeDiff, z_eq0, z_eq1, z_or, z_em, Classical.not_not, not_false_eq_true, not_true_eq_false, true_and, and_true, false_and, and_false, and_self, true_implies, false_implies, implies_true, Option.toList_some, Option.toList_none, List.cons_append, List.nil_append, Nat.add_eq_zero_iff, a_nl_i, a_nl_r, a_nl_n, true_or, or_true, eq_self, ok_4, ok_5, ok_6, ok_7, ok_9, ok_10, ok_20, ok_21, ok_24, ok_30, ok_48, ok_50, ok_60, ok_80, ok_120, ok_180, ok_192, ok_200, ok_900, ok_1000, ok_84000]
    refine ⟨fun h => hN' J2 p 1 s hC2 h0 (by grind) hsp, fun h => ⟨fun h1 => hN' J2 p 1 s hC2 h0 (by grind) hsp, fun h1 => absurd h1 (by decide)⟩⟩
  have g3 := rg_length hC.1 a.toNatClampNeg
  have g4 : ∀ J', mC M J0 J' → J' (M + 10) a.toNatClampNeg = J (M + 10) a.toNatClampNeg := fun J' h => (eS_length h _).trans (eS_length hC _).symm
  have g1 : ¬ J M 6 = 0 → _ := fun h => div_rng (x := p) (k := J M 6) (by grind) (by grind)
  have hfit : p ≤ 48 → ¬ J M 6 = 0 → ∀ Q, (∀ v J', mC M J0 J' → Q (some (.int v)) (n, t, K, L, J', R)) → a_does (d + 10) 221 [a_rf M, .int a, .int (p - p / J M 6 * J M 6), .int (f + p / J M 6)] (n, t, K, L, J, R) Q := fun q1 q2 Q hQ => by
    have g5 := g1 q2
    have g2 := rem_rng (x := p) (k := J M 6) (by grind) (by grind) (by grind) (by grind)
    generalize p - p / J M 6 * J M 6 = y at g2
    exact ct_fitOf hS hC ha (by grind) (by grind) hQ
  rw [q243_166]
  repeat' first
    | with_reducible apply And.intro
    | with_reducible assumption
    | with_reducible intro _
    | with_reducible apply ih
    | with_reducible apply hX
    | with_reducible apply hfit
    | with_reducible apply hN'
    | simp only [q243_168, q243_169, q243_172, q243_174, q243_177, q243_178, q243_181, q243_184, q243_185, q243_188, q243_189, q243_191, q243_192, q243_195, q243_196, q243_197, q243_199, q243_201, q243_202, q243_205, q243_207, q243_208, q243_211, q243_213, q243_214, q243_215, q243_216, q243_217, q243_218, q243_221, q243_222, q243_224, q243_226, q243_227, q243_230, q243_231, q243_233, q243_236, q243_239, q243_240, q243_243, q243_244, q243_246, q243_248, q243_250, q243_253, q243_254, q243_257, q243_258, q243_259, q243_261, m_0 hS, m_K hS, mR_length hS, mK_length hS, mL_length hS, as_nil, as_i, as_r, Nat.reduceAdd, Nat.reduceLeDiff, z_eq0, z_eq1, z_or, z_em, Classical.not_not, not_false_eq_true, not_true_eq_false, true_and, and_true, false_and, and_false, and_self, true_implies, false_implies, implies_true, Option.toList_some, Option.toList_none, List.cons_append, List.nil_append, Nat.add_eq_zero_iff, a_nl_i, a_nl_r, a_nl_n, true_or, or_true, eq_self, ok_4, ok_5, ok_6, ok_7, ok_9, ok_10, ok_20, ok_21, ok_24, ok_30, ok_48, ok_50, ok_60, ok_80, ok_120, ok_180, ok_192, ok_200, ok_900, ok_1000, ok_84000, Int32.add_zero]
  all_goals (try clear ih); (try clear hN); (try clear hX); (try clear hfit); (try clear hN'); (try simp only [g4 _ (by assumption)] at *); (try generalize p / J M 6 = q at *); grind [ui_ap]
theorem nat_i {k : Nat} {i : Int32} (h0 : 0 ≤ i) (h4 : i < 4) (hk : k < i.toNatClampNeg) : (Int32.ofNat k).toNatClampNeg = k ∧ 0 ≤ Int32.ofNat k ∧ Int32.ofNat k < i := by
  have h30 : i.toNatClampNeg < 4 := (show i.toNatClampNeg < (4 : Int32).toNatClampNeg from cl_lt h0 h4)
  have hc : k = 0 ∨ k = 1 ∨ k = 2 := by omega
  have hk2 : (Int32.ofNat k).toNatClampNeg = k := by rcases hc with h | h | h <;> subst h <;> decide
  have hz : (0 : Int32) ≤ Int32.ofNat k := by rcases hc with h | h | h <;> subst h <;> decide
  refine ⟨hk2, hz, ?_⟩
  apply Int32.not_le.mp
  intro hle
  have : i.toNatClampNeg ≤ (Int32.ofNat k).toNatClampNeg := by
    by_cases hq : i = Int32.ofNat k
    · rw [hq]; exact Nat.le_refl _
    · exact Nat.le_of_lt (cl_lt h0 (by grind))
  omega
theorem lp_findBest_345 (hS : m_S M K L R) {f e pl b i p2 fd a x : Int32} {s : Option Value} {z : Nat} {w : Nat → Int32} (hpl : 0 ≤ pl ∧ pl ≤ 48) (hfm : 0 ≤ I M 66 ∧ I M 66 ≤ 4) (ih : ∀ J b i k p u v, mu pl (J (M + 42)) i < z → (-1 ≤ i ∧ i ≤ I M 66) → bI M I J pl i → a_at (d + 10) (a_xm a_m243) 31 [some (a_rf M), some (.int f), some (.int e), some (.int pl), some (.int b), some (.int i), k, p, u, v] [] (n, t, K, L, J, R) P) (q1 : 0 ≤ i ∧ i < I M 66) (hz : mu pl w i < z + 1) (b4 : ∀ k : Int32, 0 ≤ k → k ≤ i → -1 ≤ w k.toNatClampNeg ∧ w k.toNatClampNeg ≤ pl) (b5 : ∀ k : Int32, 0 ≤ k → k < i → 0 ≤ w k.toNatClampNeg) (hw0 : w i.toNatClampNeg < p2) (hw1 : p2 ≤ pl) (d1 : mR M J4) (d2 : bF M I J4) (d3 : ∀ k : Int32, 0 ≤ k → k < i → J4 (M + 42) k.toNatClampNeg = w k.toNatClampNeg) (d4 : J4 (M + 42) i.toNatClampNeg = p2) (d5 : ∀ k : Int32, 0 ≤ k → k < I M 66 → 0 ≤ J4 (M + 20) (I (M + 41) k.toNatClampNeg).toNatClampNeg → (k < i ∧ 0 ≤ w k.toNatClampNeg ∧ w k.toNatClampNeg < pl) ∨ (k = i ∧ p2 < pl)) : a_at (d + 10) (a_xm a_m243) 345 [some (a_rf M), some (.int f), some (.int e), some (.int pl), some (.int b), some (.int i), some (.int a), some (.int p2), some (.int fd), s] [.int x, .int (i + 1), a_rf (M + 43)] (n, t, K, L, J4, R) P := by
  have hwi := b4 i q1.1 (Int32.le_refl _)
  have q2 : i < 4 ∧ i + 1 ≤ I M 66 ∧ 0 ≤ i + 1 ∧ i + 1 < 5 ∧ -1 ≤ i + 1 := by (try clear hS); (try clear hd); (try clear hP); (try clear ih); (try clear hb); (try clear b2); (try clear b3); (try clear b4); (try clear b5); (try clear c2); (try clear c3); (try clear c4); (try clear c5); (try clear hb1); (try clear hback); (try clear hgo); (try clear hend); (try clear h98); (try clear hF3); (try clear hw3); (try clear hb3); (try clear e2); (try clear hC); (try clear hpl3); (try clear d2); (try clear d3); (try clear d4); (try clear d5); (try clear w5); (try clear w7); (try clear F4); (try clear w4); (try clear a4); (try clear hm); (try clear hno); (try clear hw2); (try clear hlow); (try clear hsp); grind
  simp only [q243_345, q243_346, q243_349, q243_350, q243_353, q243_355, q243_356, q243_357, m_0 hS, m_K hS, mR_way hS, mK_way hS, mL_way hS, as_nil, as_i, as_r, Nat.reduceAdd, Nat.reduceLeDiff, z_eq0, z_eq1, z_or, z_em, Classical.not_not, not_false_eq_true, not_true_eq_false, true_and, and_true, false_and, and_false, and_self, true_implies, false_implies, implies_true, Option.toList_some, Option.toList_none, List.cons_append, List.nil_append, Nat.add_eq_zero_iff, a_nl_i, a_nl_r, a_nl_n, true_or, or_true, eq_self, ok_4, ok_5, ok_6, ok_7, ok_9, ok_10, ok_20, ok_21, ok_24, ok_30, ok_48, ok_50, ok_60, ok_80, ok_120, ok_180, ok_192, ok_200, ok_900, ok_1000, ok_84000, mK_sumTo hS, mL_sumTo hS]
  refine ⟨⟨q2.2.2.1, q2.2.2.2.1⟩, ⟨q2.2.2.1, q2.2.2.2.1⟩, ?_⟩
  have hcl : (i + 1).toNatClampNeg = i.toNatClampNeg + 1 := cl_up q1.1 (by (try clear hS); (try clear hd); (try clear hP); (try clear ih); (try clear hb); (try clear b2); (try clear b3); (try clear b4); (try clear b5); (try clear c2); (try clear c3); (try clear c4); (try clear c5); (try clear hb1); (try clear hback); (try clear hgo); (try clear hend); (try clear h98); (try clear hF3); (try clear hw3); (try clear hb3); (try clear e2); (try clear hC); (try clear hpl3); (try clear d2); (try clear d3); (try clear d4); (try clear d5); (try clear w5); (try clear w7); (try clear F4); (try clear w4); (try clear a4); (try clear hm); (try clear hno); (try clear hw2); (try clear hlow); (try clear hsp); grind)
  have w5 : ∀ k : Int32, 0 ≤ k → k ≤ i → (a_ui (a_ui J4 (M + 43) (i + 1).toNatClampNeg x) (M + 42) (i + 1).toNatClampNeg (-1)) (M + 42) k.toNatClampNeg = J4 (M + 42) k.toNatClampNeg := fun k p1 p3 => by
    have : k.toNatClampNeg < (i + 1).toNatClampNeg := cl_lt p1 (by (try clear hS); (try clear hd); (try clear hP); (try clear ih); (try clear hb); (try clear b2); (try clear b3); (try clear b4); (try clear b5); (try clear c2); (try clear c3); (try clear c4); (try clear c5); (try clear hb1); (try clear hback); (try clear hgo); (try clear hend); (try clear h98); (try clear hF3); (try clear hw3); (try clear hb3); (try clear e2); (try clear hC); (try clear hpl3); (try clear d2); (try clear d3); (try clear d4); (try clear d5); (try clear w5); (try clear w7); (try clear F4); (try clear w4); (try clear a4); (try clear hm); (try clear hno); (try clear hw2); (try clear hlow); (try clear hsp); grind)
    rw [ui_ap, if_neg (by omega), ui_ap, if_neg (by omega)]
  have w6 : (a_ui (a_ui J4 (M + 43) (i + 1).toNatClampNeg x) (M + 42) (i + 1).toNatClampNeg (-1)) (M + 42) (i + 1).toNatClampNeg = -1 := by simp [ui_ap]
  have w7 : ∀ k, (a_ui (a_ui J4 (M + 43) (i + 1).toNatClampNeg x) (M + 42) (i + 1).toNatClampNeg (-1)) (M + 20) k = J4 (M + 20) k := fun k => by simp [ui_ap]
  have r1 : mR M (a_ui (a_ui J4 (M + 43) (i + 1).toNatClampNeg x) (M + 42) (i + 1).toNatClampNeg (-1)) := sR_way (sR_sumTo d1)
  have r2 : bF M I (a_ui (a_ui J4 (M + 43) (i + 1).toNatClampNeg x) (M + 42) (i + 1).toNatClampNeg (-1)) := bF_ui (bF_ui d2 (by omega)) (by omega)
  revert w5 w6 w7 r1 r2
  generalize (a_ui (a_ui J4 (M + 43) (i + 1).toNatClampNeg x) (M + 42) (i + 1).toNatClampNeg (-1)) = J5
  intro w5 w6 w7 r1 r2
  have hi5 := (w5 i q1.1 (Int32.le_refl _)).trans d4
  have hlow : ∀ k : Int32, 0 ≤ k → k < i → J5 (M + 42) k.toNatClampNeg = w k.toNatClampNeg := fun k p1 p3 => (w5 k p1 (by (try clear hS); (try clear hd); (try clear hP); (try clear ih); (try clear hb); (try clear b2); (try clear b3); (try clear b4); (try clear b5); (try clear c2); (try clear c3); (try clear c4); (try clear c5); (try clear hb1); (try clear hback); (try clear hgo); (try clear hend); (try clear h98); (try clear hF3); (try clear hw3); (try clear hb3); (try clear e2); (try clear hC); (try clear hpl3); (try clear d2); (try clear d3); (try clear d4); (try clear d5); (try clear w5); (try clear w7); (try clear F4); (try clear w4); (try clear a4); (try clear hm); (try clear hno); (try clear hw2); (try clear hlow); (try clear hsp); grind)).trans (d3 k p1 p3)
  refine ih _ b (i + 1) _ _ _ _ ?_ ⟨q2.2.2.2.2, q2.2.1⟩ ⟨r1, r2, ?_, ?_, ?_⟩
  · refine Nat.lt_of_lt_of_le (mu_on (w := w) q1.1 q2.1 hpl ⟨hwi.1, by rw [hi5]; exact hw0, by rw [hi5]; exact hw1⟩ (fun k hk => ?_) w6) (by omega)
    have hk2 := nat_i q1.1 q2.1 hk
    have := hlow (Int32.ofNat k) hk2.2.1 hk2.2.2
    rw [hk2.1] at this
    exact this
  · intro k p1 p3 p4
    rw [w7] at p4
    rcases d5 k p1 p3 p4 with h | h
    · rw [hlow k p1 h.1]
      exact ⟨by clear ih d3 d5 b4 b5 hlow w5; (try clear hS); (try clear hd); (try clear hP); (try clear ih); (try clear hb); (try clear b2); (try clear b3); (try clear b4); (try clear b5); (try clear c2); (try clear c3); (try clear c4); (try clear c5); (try clear hb1); (try clear hback); (try clear hgo); (try clear hend); (try clear h98); (try clear hF3); (try clear hw3); (try clear hb3); (try clear e2); (try clear hC); (try clear hpl3); (try clear d2); (try clear d3); (try clear d4); (try clear d5); (try clear w5); (try clear w7); (try clear F4); (try clear w4); (try clear a4); (try clear hm); (try clear hno); (try clear hw2); (try clear hlow); (try clear hsp); grind, h.2⟩
    · obtain ⟨rfl, h⟩ := h
      rw [hi5]
      exact ⟨by clear ih d3 d5 b4 b5 hlow w5; (try clear hS); (try clear hd); (try clear hP); (try clear ih); (try clear hb); (try clear b2); (try clear b3); (try clear b4); (try clear b5); (try clear c2); (try clear c3); (try clear c4); (try clear c5); (try clear hb1); (try clear hback); (try clear hgo); (try clear hend); (try clear h98); (try clear hF3); (try clear hw3); (try clear hb3); (try clear e2); (try clear hC); (try clear hpl3); (try clear d2); (try clear d3); (try clear d4); (try clear d5); (try clear w5); (try clear w7); (try clear F4); (try clear w4); (try clear a4); (try clear hm); (try clear hno); (try clear hw2); (try clear hlow); (try clear hsp); grind, by clear ih d3 d5 b4 b5 hlow w5; (try clear hS); (try clear hd); (try clear hP); (try clear ih); (try clear hb); (try clear b2); (try clear b3); (try clear b4); (try clear b5); (try clear c2); (try clear c3); (try clear c4); (try clear c5); (try clear hb1); (try clear hback); (try clear hgo); (try clear hend); (try clear h98); (try clear hF3); (try clear hw3); (try clear hb3); (try clear e2); (try clear hC); (try clear hpl3); (try clear d2); (try clear d3); (try clear d4); (try clear d5); (try clear w5); (try clear w7); (try clear F4); (try clear w4); (try clear a4); (try clear hm); (try clear hno); (try clear hw2); (try clear hlow); (try clear hsp); grind, h⟩
  · intro k p1 p3
    by_cases hki : k = i + 1
    · subst hki; rw [w6]; exact ⟨by decide, by clear ih d3 d5 b4 b5 hlow w5; (try clear hS); (try clear hd); (try clear hP); (try clear ih); (try clear hb); (try clear b2); (try clear b3); (try clear b4); (try clear b5); (try clear c2); (try clear c3); (try clear c4); (try clear c5); (try clear hb1); (try clear hback); (try clear hgo); (try clear hend); (try clear h98); (try clear hF3); (try clear hw3); (try clear hb3); (try clear e2); (try clear hC); (try clear hpl3); (try clear d2); (try clear d3); (try clear d4); (try clear d5); (try clear w5); (try clear w7); (try clear F4); (try clear w4); (try clear a4); (try clear hm); (try clear hno); (try clear hw2); (try clear hlow); (try clear hsp); grind⟩
    · by_cases hk2 : k = i
      · subst hk2; rw [hi5]; exact ⟨by clear ih d3 d5 b4 b5 hlow w5; (try clear hS); (try clear hd); (try clear hP); (try clear ih); (try clear hb); (try clear b2); (try clear b3); (try clear b4); (try clear b5); (try clear c2); (try clear c3); (try clear c4); (try clear c5); (try clear hb1); (try clear hback); (try clear hgo); (try clear hend); (try clear h98); (try clear hF3); (try clear hw3); (try clear hb3); (try clear e2); (try clear hC); (try clear hpl3); (try clear d2); (try clear d3); (try clear d4); (try clear d5); (try clear w5); (try clear w7); (try clear F4); (try clear w4); (try clear a4); (try clear hm); (try clear hno); (try clear hw2); (try clear hlow); (try clear hsp); grind, hw1⟩
      · have hk3 : k < i := by clear ih d3 d5 b4 b5 hlow w5; (try clear hS); (try clear hd); (try clear hP); (try clear ih); (try clear hb); (try clear b2); (try clear b3); (try clear b4); (try clear b5); (try clear c2); (try clear c3); (try clear c4); (try clear c5); (try clear hb1); (try clear hback); (try clear hgo); (try clear hend); (try clear h98); (try clear hF3); (try clear hw3); (try clear hb3); (try clear e2); (try clear hC); (try clear hpl3); (try clear d2); (try clear d3); (try clear d4); (try clear d5); (try clear w5); (try clear w7); (try clear F4); (try clear w4); (try clear a4); (try clear hm); (try clear hno); (try clear hw2); (try clear hlow); (try clear hsp); grind
        rw [hlow k p1 hk3]; exact b4 k p1 (by clear ih d3 d5 b4 b5 hlow w5; (try clear hS); (try clear hd); (try clear hP); (try clear ih); (try clear hb); (try clear b2); (try clear b3); (try clear b4); (try clear b5); (try clear c2); (try clear c3); (try clear c4); (try clear c5); (try clear hb1); (try clear hback); (try clear hgo); (try clear hend); (try clear h98); (try clear hF3); (try clear hw3); (try clear hb3); (try clear e2); (try clear hC); (try clear hpl3); (try clear d2); (try clear d3); (try clear d4); (try clear d5); (try clear w5); (try clear w7); (try clear F4); (try clear w4); (try clear a4); (try clear hm); (try clear hno); (try clear hw2); (try clear hlow); (try clear hsp); grind)
  · intro k p1 p3
    by_cases hk2 : k = i
    · subst hk2; rw [hi5]; clear ih d3 d5 b4 b5 hlow w5; (try clear hS); (try clear hd); (try clear hP); (try clear ih); (try clear hb); (try clear b2); (try clear b3); (try clear b4); (try clear b5); (try clear c2); (try clear c3); (try clear c4); (try clear c5); (try clear hb1); (try clear hback); (try clear hgo); (try clear hend); (try clear h98); (try clear hF3); (try clear hw3); (try clear hb3); (try clear e2); (try clear hC); (try clear hpl3); (try clear d2); (try clear d3); (try clear d4); (try clear d5); (try clear w5); (try clear w7); (try clear F4); (try clear w4); (try clear a4); (try clear hm); (try clear hno); (try clear hw2); (try clear hlow); (try clear hsp); grind
    · have hk3 : k < i := by clear ih d3 d5 b4 b5 hlow w5; (try clear hS); (try clear hd); (try clear hP); (try clear ih); (try clear hb); (try clear b2); (try clear b3); (try clear b4); (try clear b5); (try clear c2); (try clear c3); (try clear c4); (try clear c5); (try clear hb1); (try clear hback); (try clear hgo); (try clear hend); (try clear h98); (try clear hF3); (try clear hw3); (try clear hb3); (try clear e2); (try clear hC); (try clear hpl3); (try clear d2); (try clear d3); (try clear d4); (try clear d5); (try clear w5); (try clear w7); (try clear F4); (try clear w4); (try clear a4); (try clear hm); (try clear hno); (try clear hw2); (try clear hlow); (try clear hsp); grind
      rw [hlow k p1 hk3]; exact b5 k p1 hk3
theorem lp_findBest_276 (hS : m_S M K L R) {f e pl b i p2 fd : Int32} {s : Option Value} {z : Nat} {w : Nat → Int32} (hf : 0 ≤ f ∧ f ≤ 199) (he : e ≤ 199) (hb0 : I M 6 = 0 → pl = 0) (hd : ∀ k l : Int32, 0 ≤ k → k < I M 66 → 0 ≤ l → l < I M 66 → (I (M + 41) k.toNatClampNeg).toNatClampNeg = (I (M + 41) l.toNatClampNeg).toNatClampNeg → k = l) (hpl : 0 ≤ pl ∧ pl ≤ 48) (hfm : 0 ≤ I M 66 ∧ I M 66 ≤ 4) (ih : ∀ J b i k p u v, mu pl (J (M + 42)) i < z → (-1 ≤ i ∧ i ≤ I M 66) → bI M I J pl i → a_at (d + 10) (a_xm a_m243) 31 [some (a_rf M), some (.int f), some (.int e), some (.int pl), some (.int b), some (.int i), k, p, u, v] [] (n, t, K, L, J, R) P) (q1 : 0 ≤ i ∧ i < I M 66) (hz : mu pl w i < z + 1) (b4 : ∀ k : Int32, 0 ≤ k → k ≤ i → -1 ≤ w k.toNatClampNeg ∧ w k.toNatClampNeg ≤ pl) (b5 : ∀ k : Int32, 0 ≤ k → k < i → 0 ≤ w k.toNatClampNeg) (hw0 : w i.toNatClampNeg < p2) (hw1 : p2 ≤ pl) (hsp : p2 < pl → f + p2 / I M 6 ≤ 200) (r3 : mR M J3) (hF3 : bF M I J3) (hw3 : ∀ k : Int32, 0 ≤ k → k < i → J3 (M + 42) k.toNatClampNeg = w k.toNatClampNeg) (hw4 : J3 (M + 42) i.toNatClampNeg = p2) (hpl3 : (∀ k : Int32, 0 ≤ k → k < I M 66 → 0 ≤ J3 (M + 20) (I (M + 41) k.toNatClampNeg).toNatClampNeg → k < i ∧ 0 ≤ w k.toNatClampNeg ∧ w k.toNatClampNeg < pl)) : a_at (d + 10) (a_xm a_m243) 285 [some (a_rf M), some (.int f), some (.int e), some (.int pl), some (.int b), some (.int i), some (.int (I (M + 41) i.toNatClampNeg)), some (.int p2), some (.int fd), s] [] (n, t, K, L, J3, R) P := by
  have hwi := b4 i q1.1 (Int32.le_refl _)
  have e1 := bF_benches hF3
  have hg := rg_few r3 i.toNatClampNeg
  rw [bF_few hF3] at hg
  have p20 : 0 ≤ p2 := by (try clear hS); (try clear hd); (try clear hP); (try clear ih); (try clear hb); (try clear b2); (try clear b3); (try clear b4); (try clear b5); (try clear c2); (try clear c3); (try clear c4); (try clear c5); (try clear hb1); (try clear hback); (try clear hgo); (try clear hend); (try clear h98); (try clear hF3); (try clear hw3); (try clear hb3); (try clear e2); (try clear hC); (try clear hpl3); (try clear d2); (try clear d3); (try clear d4); (try clear d5); (try clear w5); (try clear w7); (try clear F4); (try clear w4); (try clear a4); (try clear hm); (try clear hno); (try clear hw2); (try clear hlow); (try clear hsp); grind
  have i5 : i < 5 ∧ i + 1 < 5 ∧ 0 ≤ i + 1 := by (try clear hS); (try clear hd); (try clear hP); (try clear ih); (try clear hb); (try clear b2); (try clear b3); (try clear b4); (try clear b5); (try clear c2); (try clear c3); (try clear c4); (try clear c5); (try clear hb1); (try clear hback); (try clear hgo); (try clear hend); (try clear h98); (try clear hF3); (try clear hw3); (try clear hb3); (try clear e2); (try clear hC); (try clear hpl3); (try clear d2); (try clear d3); (try clear d4); (try clear d5); (try clear w5); (try clear w7); (try clear F4); (try clear w4); (try clear a4); (try clear hm); (try clear hno); (try clear hw2); (try clear hlow); (try clear hsp); grind
  have ha30 : 0 ≤ I (M + 41) i.toNatClampNeg ∧ I (M + 41) i.toNatClampNeg < 30 := by (try clear hS); (try clear hd); (try clear hP); (try clear ih); (try clear hb); (try clear b2); (try clear b3); (try clear b4); (try clear b5); (try clear c2); (try clear c3); (try clear c4); (try clear c5); (try clear hb1); (try clear hback); (try clear hgo); (try clear hend); (try clear h98); (try clear hF3); (try clear hw3); (try clear hb3); (try clear e2); (try clear hC); (try clear hpl3); (try clear d2); (try clear d3); (try clear d4); (try clear d5); (try clear w5); (try clear w7); (try clear F4); (try clear w4); (try clear a4); (try clear hm); (try clear hno); (try clear hw2); (try clear hlow); (try clear hsp); grind
  simp only [q243_285, q243_287, q243_288, as_nil, as_i, as_r, Nat.reduceAdd, Nat.reduceLeDiff, z_eq0, z_eq1, z_or, z_em, Classical.not_not, not_false_eq_true, not_true_eq_false, true_and, and_true, false_and, and_false, and_self, true_implies, false_implies, implies_true, Option.toList_some, Option.toList_none, List.cons_append, List.nil_append, Nat.add_eq_zero_iff, a_nl_i, a_nl_r, a_nl_n, true_or, or_true, eq_self, ok_4, ok_5, ok_6, ok_7, ok_9, ok_10, ok_20, ok_21, ok_24, ok_30, ok_48, ok_50, ok_60, ok_80, ok_120, ok_180, ok_192, ok_200, ok_900, ok_1000, ok_84000]
  refine ⟨fun h3 => ?_, fun h3 => ?_⟩
  · -- left out
    simp only [q243_313, q243_314, q243_317, q243_319, q243_320, q243_321, q243_322, q243_325, q243_327, q243_328, q243_330, q243_331, q243_334, q243_335, q243_337, q243_340, q243_343, q243_344, m_0 hS, m_K hS, mR_sumTo hS, mK_sumTo hS, mL_sumTo hS, as_nil, as_i, as_r, Nat.reduceAdd, Nat.reduceLeDiff, z_eq0, z_eq1, z_or, z_em, Classical.not_not, not_false_eq_true, not_true_eq_false, true_and, and_true, false_and, and_false, and_self, true_implies, false_implies, implies_true, Option.toList_some, Option.toList_none, List.cons_append, List.nil_append, Nat.add_eq_zero_iff, a_nl_i, a_nl_r, a_nl_n, true_or, or_true, eq_self, ok_4, ok_5, ok_6, ok_7, ok_9, ok_10, ok_20, ok_21, ok_24, ok_30, ok_48, ok_50, ok_60, ok_80, ok_120, ok_180, ok_192, ok_200, ok_900, ok_1000, ok_84000]
    refine ⟨⟨q1.1, i5.1⟩, fun _ => ?_, fun h4 => absurd h3 h4⟩
    exact lp_findBest_345 hS hpl hfm ih q1 hz b4 b5 hw0 hw1 r3 hF3 hw3 hw4 (fun k p1 p3 p4 => Or.inl (hpl3 k p1 p3 p4))
  · -- placed
    have g0 := rg_benches r3
    have hbn : ¬ J3 M 6 = 0 := fun h => by
      rw [e1] at h
      have := hb0 h
      (try clear hS); (try clear hd); (try clear hP); (try clear ih); (try clear hb); (try clear b2); (try clear b3); (try clear b4); (try clear b5); (try clear c2); (try clear c3); (try clear c4); (try clear c5); (try clear hb1); (try clear hback); (try clear hgo); (try clear hend); (try clear h98); (try clear hF3); (try clear hw3); (try clear hb3); (try clear e2); (try clear hC); (try clear hpl3); (try clear d2); (try clear d3); (try clear d4); (try clear d5); (try clear w5); (try clear w7); (try clear F4); (try clear w4); (try clear a4); (try clear hm); (try clear hno); (try clear hw2); (try clear hlow); (try clear hsp); grind
    have hlt : p2 < pl := by (try clear hS); (try clear hd); (try clear hP); (try clear ih); (try clear hb); (try clear b2); (try clear b3); (try clear b4); (try clear b5); (try clear c2); (try clear c3); (try clear c4); (try clear c5); (try clear hb1); (try clear hback); (try clear hgo); (try clear hend); (try clear h98); (try clear hF3); (try clear hw3); (try clear hb3); (try clear e2); (try clear hC); (try clear hpl3); (try clear d2); (try clear d3); (try clear d4); (try clear d5); (try clear w5); (try clear w7); (try clear F4); (try clear w4); (try clear a4); (try clear hm); (try clear hno); (try clear hw2); (try clear hlow); (try clear hsp); grind
    have g1 := div_rng (x := p2) (k := J3 M 6) p20 (by (try clear hS); (try clear hd); (try clear hP); (try clear ih); (try clear hb); (try clear b2); (try clear b3); (try clear b4); (try clear b5); (try clear c2); (try clear c3); (try clear c4); (try clear c5); (try clear hb1); (try clear hback); (try clear hgo); (try clear hend); (try clear h98); (try clear hF3); (try clear hw3); (try clear hb3); (try clear e2); (try clear hC); (try clear hpl3); (try clear d2); (try clear d3); (try clear d4); (try clear d5); (try clear w5); (try clear w7); (try clear F4); (try clear w4); (try clear a4); (try clear hm); (try clear hno); (try clear hw2); (try clear hlow); (try clear hsp); grind)
    have g2 := rem_rng (x := p2) (k := J3 M 6) p20 (by (try clear hS); (try clear hd); (try clear hP); (try clear ih); (try clear hb); (try clear b2); (try clear b3); (try clear b4); (try clear b5); (try clear c2); (try clear c3); (try clear c4); (try clear c5); (try clear hb1); (try clear hback); (try clear hgo); (try clear hend); (try clear h98); (try clear hF3); (try clear hw3); (try clear hb3); (try clear e2); (try clear hC); (try clear hpl3); (try clear d2); (try clear d3); (try clear d4); (try clear d5); (try clear w5); (try clear w7); (try clear F4); (try clear w4); (try clear a4); (try clear hm); (try clear hno); (try clear hw2); (try clear hlow); (try clear hsp); grind) (by (try clear hS); (try clear hd); (try clear hP); (try clear ih); (try clear hb); (try clear b2); (try clear b3); (try clear b4); (try clear b5); (try clear c2); (try clear c3); (try clear c4); (try clear c5); (try clear hb1); (try clear hback); (try clear hgo); (try clear hend); (try clear h98); (try clear hF3); (try clear hw3); (try clear hb3); (try clear e2); (try clear hC); (try clear hpl3); (try clear d2); (try clear d3); (try clear d4); (try clear d5); (try clear w5); (try clear w7); (try clear F4); (try clear w4); (try clear a4); (try clear hm); (try clear hno); (try clear hw2); (try clear hlow); (try clear hsp); grind) (by (try clear hS); (try clear hd); (try clear hP); (try clear ih); (try clear hb); (try clear b2); (try clear b3); (try clear b4); (try clear b5); (try clear c2); (try clear c3); (try clear c4); (try clear c5); (try clear hb1); (try clear hback); (try clear hgo); (try clear hend); (try clear h98); (try clear hF3); (try clear hw3); (try clear hb3); (try clear e2); (try clear hC); (try clear hpl3); (try clear d2); (try clear d3); (try clear d4); (try clear d5); (try clear w5); (try clear w7); (try clear F4); (try clear w4); (try clear a4); (try clear hm); (try clear hno); (try clear hw2); (try clear hlow); (try clear hsp); grind)
    have hs3 := hsp hlt
    rw [← e1] at hs3
    simp only [q243_291, q243_292, q243_294, q243_296, q243_297, q243_300, q243_301, q243_302, q243_304, q243_305, q243_308, q243_309, q243_310, m_0 hS, m_K hS, as_nil, as_i, as_r, Nat.reduceAdd, Nat.reduceLeDiff, z_eq0, z_eq1, z_or, z_em, Classical.not_not, not_false_eq_true, not_true_eq_false, true_and, and_true, false_and, and_false, and_self, true_implies, false_implies, implies_true, Option.toList_some, Option.toList_none, List.cons_append, List.nil_append, Nat.add_eq_zero_iff, a_nl_i, a_nl_r, a_nl_n, true_or, or_true, eq_self, ok_4, ok_5, ok_6, ok_7, ok_9, ok_10, ok_20, ok_21, ok_24, ok_30, ok_48, ok_50, ok_60, ok_80, ok_120, ok_180, ok_192, ok_200, ok_900, ok_1000, ok_84000, hbn]
    refine ct_putAt hS r3 ha30 (by (try clear hS); (try clear hd); (try clear hP); (try clear ih); (try clear hb); (try clear b2); (try clear b3); (try clear b4); (try clear b5); (try clear c2); (try clear c3); (try clear c4); (try clear c5); (try clear hb1); (try clear hback); (try clear hgo); (try clear hend); (try clear h98); (try clear hF3); (try clear hw3); (try clear hb3); (try clear e2); (try clear hC); (try clear hpl3); (try clear d2); (try clear d3); (try clear d4); (try clear d5); (try clear w5); (try clear w7); (try clear F4); (try clear w4); (try clear a4); (try clear hm); (try clear hno); (try clear hw2); (try clear hlow); (try clear hsp); grind) (fun J4 hm => ?_)
    have F4 : bF M I (a_ui (a_ui J4 (M + 20) (I (M + 41) i.toNatClampNeg).toNatClampNeg (p2 - p2 / J3 M 6 * J3 M 6)) (M + 21) (I (M + 41) i.toNatClampNeg).toNatClampNeg (f + p2 / J3 M 6)) := bF_ui (bF_ui (bF_S hF3 hm) (Or.inr (Or.inr (Or.inr ⟨Or.inl rfl, ⟨i, q1.1, q1.2, rfl⟩⟩)))) (Or.inr (Or.inr (Or.inr ⟨Or.inr rfl, ⟨i, q1.1, q1.2, rfl⟩⟩)))
    have w4 : ∀ k, (a_ui (a_ui J4 (M + 20) (I (M + 41) i.toNatClampNeg).toNatClampNeg (p2 - p2 / J3 M 6 * J3 M 6)) (M + 21) (I (M + 41) i.toNatClampNeg).toNatClampNeg (f + p2 / J3 M 6)) (M + 42) k = J3 (M + 42) k := fun k => by
      rw [ui_ap, if_neg (by omega), ui_ap, if_neg (by omega)]; exact hm.2 _ _ (by unfold sC; omega) (by omega)
    have a4 : ∀ k : Int32, 0 ≤ k → k < I M 66 → ¬ k = i → (a_ui (a_ui J4 (M + 20) (I (M + 41) i.toNatClampNeg).toNatClampNeg (p2 - p2 / J3 M 6 * J3 M 6)) (M + 21) (I (M + 41) i.toNatClampNeg).toNatClampNeg (f + p2 / J3 M 6)) (M + 20) (I (M + 41) k.toNatClampNeg).toNatClampNeg = J3 (M + 20) (I (M + 41) k.toNatClampNeg).toNatClampNeg := fun k p1 p3 p4 => by
      rw [ui_ap, if_neg (by omega), ui_ap, if_neg (fun q => p4 (hd k i p1 p3 q1.1 q1.2 q.2))]; exact hm.2 _ _ (by unfold sC; omega) (by omega)
    have r5 : mR M (a_ui (a_ui J4 (M + 20) (I (M + 41) i.toNatClampNeg).toNatClampNeg (p2 - p2 / J3 M 6 * J3 M 6)) (M + 21) (I (M + 41) i.toNatClampNeg).toNatClampNeg (f + p2 / J3 M 6)) := sR_atShift (sR_atBench hm.1 (by (try clear hS); (try clear hd); (try clear hP); (try clear ih); (try clear hb); (try clear b2); (try clear b3); (try clear b4); (try clear b5); (try clear c2); (try clear c3); (try clear c4); (try clear c5); (try clear hb1); (try clear hback); (try clear hgo); (try clear hend); (try clear h98); (try clear hF3); (try clear hw3); (try clear hb3); (try clear e2); (try clear hC); (try clear hpl3); (try clear d2); (try clear d3); (try clear d4); (try clear d5); (try clear w5); (try clear w7); (try clear F4); (try clear w4); (try clear a4); (try clear hm); (try clear hno); (try clear hw2); (try clear hlow); (try clear hsp); grind)) (by (try clear hS); (try clear hd); (try clear hP); (try clear ih); (try clear hb); (try clear b2); (try clear b3); (try clear b4); (try clear b5); (try clear c2); (try clear c3); (try clear c4); (try clear c5); (try clear hb1); (try clear hback); (try clear hgo); (try clear hend); (try clear h98); (try clear hF3); (try clear hw3); (try clear hb3); (try clear e2); (try clear hC); (try clear hpl3); (try clear d2); (try clear d3); (try clear d4); (try clear d5); (try clear w5); (try clear w7); (try clear F4); (try clear w4); (try clear a4); (try clear hm); (try clear hno); (try clear hw2); (try clear hlow); (try clear hsp); grind)
    revert r5 F4 w4 a4
    generalize (a_ui (a_ui J4 (M + 20) (I (M + 41) i.toNatClampNeg).toNatClampNeg (p2 - p2 / J3 M 6 * J3 M 6)) (M + 21) (I (M + 41) i.toNatClampNeg).toNatClampNeg (f + p2 / J3 M 6)) = J5
    intro F4 w4 a4 r5
    simp only [q243_313, q243_314, q243_317, q243_319, q243_320, q243_321, q243_322, q243_325, q243_327, q243_328, q243_330, q243_331, q243_334, q243_335, q243_337, m_0 hS, m_K hS, mR_sumTo hS, mK_sumTo hS, mL_sumTo hS, as_nil, as_i, as_r, Nat.reduceAdd, Nat.reduceLeDiff, z_eq0, z_eq1, z_or, z_em, Classical.not_not, not_false_eq_true, not_true_eq_false, true_and, and_true, false_and, and_false, and_self, true_implies, false_implies, implies_true, Option.toList_some, Option.toList_none, List.cons_append, List.nil_append, Nat.add_eq_zero_iff, a_nl_i, a_nl_r, a_nl_n, true_or, or_true, eq_self, ok_4, ok_5, ok_6, ok_7, ok_9, ok_10, ok_20, ok_21, ok_24, ok_30, ok_48, ok_50, ok_60, ok_80, ok_120, ok_180, ok_192, ok_200, ok_900, ok_1000, ok_84000]
    refine ⟨⟨q1.1, i5.1⟩, fun h4 => absurd h4 h3, fun h4 => ?_⟩
    refine ct_markAt hS r5 ha30 (fun x hx => ?_)
    simp only [q243_340, q243_343, q243_344, as_nil, as_i, as_r, Nat.reduceAdd, Nat.reduceLeDiff, z_eq0, z_eq1, z_or, z_em, Classical.not_not, not_false_eq_true, not_true_eq_false, true_and, and_true, false_and, and_false, and_self, true_implies, false_implies, implies_true, Option.toList_some, Option.toList_none, List.cons_append, List.nil_append, Nat.add_eq_zero_iff, a_nl_i, a_nl_r, a_nl_n, true_or, or_true, eq_self, ok_4, ok_5, ok_6, ok_7, ok_9, ok_10, ok_20, ok_21, ok_24, ok_30, ok_48, ok_50, ok_60, ok_80, ok_120, ok_180, ok_192, ok_200, ok_900, ok_1000, ok_84000]
    refine lp_findBest_345 hS hpl hfm ih q1 hz b4 b5 hw0 hw1 r5 F4 (fun k p1 p3 => (w4 _).trans (hw3 k p1 p3)) ((w4 _).trans hw4) (fun k p1 p3 p4 => ?_)
    by_cases hk : k = i
    · exact Or.inr ⟨hk, hlt⟩
    · rw [a4 k p1 p3 hk] at p4
      exact Or.inl (hpl3 k p1 p3 p4)
theorem lp_findBest_152 (hS : m_S M K L R) {f e pl b i : Int32} {p u v : Option Value} {z : Nat} {w : Nat → Int32} (hf : 0 ≤ f ∧ f ≤ 199) (he : e ≤ 199) (hb0 : I M 6 = 0 → pl = 0) (hd : ∀ k l : Int32, 0 ≤ k → k < I M 66 → 0 ≤ l → l < I M 66 → (I (M + 41) k.toNatClampNeg).toNatClampNeg = (I (M + 41) l.toNatClampNeg).toNatClampNeg → k = l) (hpl : 0 ≤ pl ∧ pl ≤ 48) (hfm : 0 ≤ I M 66 ∧ I M 66 ≤ 4) (ih : ∀ J b i k p u v, mu pl (J (M + 42)) i < z → (-1 ≤ i ∧ i ≤ I M 66) → bI M I J pl i → a_at (d + 10) (a_xm a_m243) 31 [some (a_rf M), some (.int f), some (.int e), some (.int pl), some (.int b), some (.int i), k, p, u, v] [] (n, t, K, L, J, R) P) (q1 : 0 ≤ i ∧ i < I M 66) (hz : mu pl w i < z + 1) (b4 : ∀ k : Int32, 0 ≤ k → k ≤ i → -1 ≤ w k.toNatClampNeg ∧ w k.toNatClampNeg ≤ pl) (b5 : ∀ k : Int32, 0 ≤ k → k < i → 0 ≤ w k.toNatClampNeg) (hback : ∀ J' b k p u v, 0 ≤ i → bI M I J' pl (i + (-1)) → (∀ k : Nat, k < i.toNatClampNeg → J' (M + 42) k = w k) → a_at (d + 10) (a_xm a_m243) 31 [some (a_rf M), some (.int f), some (.int e), some (.int pl), some (.int b), some (.int (i + (-1))), k, p, u, v] [] (n, t, K, L, J', R) P) (hb1 : bI M I J1 pl i) (hw1 : J1 (M + 42) = w) (hnp : ¬ 0 ≤ J1 (M + 20) (I (M + 41) i.toNatClampNeg).toNatClampNeg) : a_at (d + 10) (a_xm a_m243) 152 [some (a_rf M), some (.int f), some (.int e), some (.int pl), some (.int b), some (.int i), some (.int (I (M + 41) i.toNatClampNeg)), p, u, v] [] (n, t, K, L, J1, R) P := by
  obtain ⟨c1, c2, c3, c4, c5⟩ := id hb1
  have hwi := b4 i q1.1 (Int32.le_refl _)
  have hg := rg_few c1 i.toNatClampNeg
  rw [bF_few c2] at hg
  have i5 : i < 5 ∧ i < 4 := by (try clear hS); (try clear hd); (try clear hP); (try clear ih); (try clear hb); (try clear b2); (try clear b3); (try clear b4); (try clear b5); (try clear c2); (try clear c3); (try clear c4); (try clear c5); (try clear hb1); (try clear hback); (try clear hgo); (try clear hend); (try clear h98); (try clear hF3); (try clear hw3); (try clear hb3); (try clear e2); (try clear hC); (try clear hpl3); (try clear d2); (try clear d3); (try clear d4); (try clear d5); (try clear w5); (try clear w7); (try clear F4); (try clear w4); (try clear a4); (try clear hm); (try clear hno); (try clear hw2); (try clear hlow); (try clear hsp); grind
  have ha30 : 0 ≤ I (M + 41) i.toNatClampNeg ∧ I (M + 41) i.toNatClampNeg < 30 := by (try clear hS); (try clear hd); (try clear hP); (try clear ih); (try clear hb); (try clear b2); (try clear b3); (try clear b4); (try clear b5); (try clear c2); (try clear c3); (try clear c4); (try clear c5); (try clear hb1); (try clear hback); (try clear hgo); (try clear hend); (try clear h98); (try clear hF3); (try clear hw3); (try clear hb3); (try clear e2); (try clear hC); (try clear hpl3); (try clear d2); (try clear d3); (try clear d4); (try clear d5); (try clear w5); (try clear w7); (try clear F4); (try clear w4); (try clear a4); (try clear hm); (try clear hno); (try clear hw2); (try clear hlow); (try clear hsp); grind
  have hb0' : J1 M 6 = 0 → pl = 0 := fun h => hb0 (by rw [← bF_benches c2]; exact h)
  simp only [q243_152, q243_153, q243_156, q243_158, q243_159, q243_160, q243_161, q243_163, q243_164, m_0 hS, m_K hS, mR_way hS, mK_way hS, mL_way hS, as_nil, as_i, as_r, Nat.reduceAdd, Nat.reduceLeDiff, z_eq0, z_eq1, z_or, z_em, Classical.not_not, not_false_eq_true, not_true_eq_false, true_and, and_true, false_and, and_false, and_self, true_implies, false_implies, implies_true, Option.toList_some, Option.toList_none, List.cons_append, List.nil_append, Nat.add_eq_zero_iff, a_nl_i, a_nl_r, a_nl_n, true_or, or_true, eq_self, ok_4, ok_5, ok_6, ok_7, ok_9, ok_10, ok_20, ok_21, ok_24, ok_30, ok_48, ok_50, ok_60, ok_80, ok_120, ok_180, ok_192, ok_200, ok_900, ok_1000, ok_84000, hw1]
  refine ⟨⟨q1.1, i5.1⟩, ?_⟩
  refine lp_findBest_166 hS (J0 := J1) (p0 := w i.toNatClampNeg + 1) hf he ha30 hpl hb0' (by (try clear hS); (try clear hd); (try clear hP); (try clear ih); (try clear hb); (try clear b2); (try clear b3); (try clear b4); (try clear b5); (try clear c2); (try clear c3); (try clear c4); (try clear c5); (try clear hb1); (try clear hback); (try clear hgo); (try clear hend); (try clear h98); (try clear hF3); (try clear hw3); (try clear hb3); (try clear e2); (try clear hC); (try clear hpl3); (try clear d2); (try clear d3); (try clear d4); (try clear d5); (try clear w5); (try clear w7); (try clear F4); (try clear w4); (try clear a4); (try clear hm); (try clear hno); (try clear hw2); (try clear hlow); (try clear hsp); grind) (fun J2 p2 fd s hC hp hp49 hsp => ?_) _ (by (try clear hS); (try clear hd); (try clear hP); (try clear ih); (try clear hb); (try clear b2); (try clear b3); (try clear b4); (try clear b5); (try clear c2); (try clear c3); (try clear c4); (try clear c5); (try clear hb1); (try clear hback); (try clear hgo); (try clear hend); (try clear h98); (try clear hF3); (try clear hw3); (try clear hb3); (try clear e2); (try clear hC); (try clear hpl3); (try clear d2); (try clear d3); (try clear d4); (try clear d5); (try clear w5); (try clear w7); (try clear F4); (try clear w4); (try clear a4); (try clear hm); (try clear hno); (try clear hw2); (try clear hlow); (try clear hsp); grind) J1 v (Int32.le_refl _) (mC_refl c1)
  have w2 : J2 (M + 42) = w := by rw [← hw1]; funext j; exact eS_way hC j
  have f2 := bF_C c2 hC
  have hpl3 : (∀ k : Int32, 0 ≤ k → k < I M 66 → 0 ≤ J2 (M + 20) (I (M + 41) k.toNatClampNeg).toNatClampNeg → k < i ∧ 0 ≤ w k.toNatClampNeg ∧ w k.toNatClampNeg < pl) := by
    intro k2 p1 p2' p3
    rw [eS_atBench hC] at p3
    have c6 := c3 k2 p1 p2' p3
    rw [hw1] at c6
    refine ⟨?_, c6.2⟩
    have : ¬ k2 = i := fun q => by subst q; exact hnp p3
    (try clear hS); (try clear hd); (try clear hP); (try clear ih); (try clear hb); (try clear b2); (try clear b3); (try clear b4); (try clear b5); (try clear c2); (try clear c3); (try clear c4); (try clear c5); (try clear hb1); (try clear hback); (try clear hgo); (try clear hend); (try clear h98); (try clear hF3); (try clear hw3); (try clear hb3); (try clear e2); (try clear hC); (try clear hpl3); (try clear d2); (try clear d3); (try clear d4); (try clear d5); (try clear w5); (try clear w7); (try clear F4); (try clear w4); (try clear a4); (try clear hm); (try clear hno); (try clear hw2); (try clear hlow); (try clear hsp); grind
  have hp3 : w i.toNatClampNeg < p2 := by (try clear hS); (try clear hd); (try clear hP); (try clear ih); (try clear hb); (try clear b2); (try clear b3); (try clear b4); (try clear b5); (try clear c2); (try clear c3); (try clear c4); (try clear c5); (try clear hb1); (try clear hback); (try clear hgo); (try clear hend); (try clear h98); (try clear hF3); (try clear hw3); (try clear hb3); (try clear e2); (try clear hC); (try clear hpl3); (try clear d2); (try clear d3); (try clear d4); (try clear d5); (try clear w5); (try clear w7); (try clear F4); (try clear w4); (try clear a4); (try clear hm); (try clear hno); (try clear hw2); (try clear hlow); (try clear hsp); grind
  simp only [q243_264, q243_266, q243_267, as_nil, as_i, as_r, Nat.reduceAdd, Nat.reduceLeDiff, z_eq0, z_eq1, z_or, z_em, Classical.not_not, not_false_eq_true, not_true_eq_false, true_and, and_true, false_and, and_false, and_self, true_implies, false_implies, implies_true, Option.toList_some, Option.toList_none, List.cons_append, List.nil_append, Nat.add_eq_zero_iff, a_nl_i, a_nl_r, a_nl_n, true_or, or_true, eq_self, ok_4, ok_5, ok_6, ok_7, ok_9, ok_10, ok_20, ok_21, ok_24, ok_30, ok_48, ok_50, ok_60, ok_80, ok_120, ok_180, ok_192, ok_200, ok_900, ok_1000, ok_84000]
  refine ⟨fun h2 => ?_, fun h2 => ?_⟩
  · simp only [q243_276, q243_277, q243_280, q243_282, q243_284, m_0 hS, m_K hS, mR_way hS, mK_way hS, mL_way hS, as_nil, as_i, as_r, Nat.reduceAdd, Nat.reduceLeDiff, z_eq0, z_eq1, z_or, z_em, Classical.not_not, not_false_eq_true, not_true_eq_false, true_and, and_true, false_and, and_false, and_self, true_implies, false_implies, implies_true, Option.toList_some, Option.toList_none, List.cons_append, List.nil_append, Nat.add_eq_zero_iff, a_nl_i, a_nl_r, a_nl_n, true_or, or_true, eq_self, ok_4, ok_5, ok_6, ok_7, ok_9, ok_10, ok_20, ok_21, ok_24, ok_30, ok_48, ok_50, ok_60, ok_80, ok_120, ok_180, ok_192, ok_200, ok_900, ok_1000, ok_84000]
    refine ⟨⟨q1.1, i5.1⟩, ?_⟩
    have hbn : J2 M 6 = I M 6 := bF_benches f2
    have hbn1 : J1 M 6 = I M 6 := bF_benches c2
    refine lp_findBest_276 hS hf he hb0 hd hpl hfm ih q1 hz b4 b5 hp3 h2 (by rw [← hbn1]; exact hsp) (sR_way hC.1) (bF_ui f2 (by omega)) (fun k p1 p3 => ?_) (by simp [ui_ap]) (by simpa [ui_ap] using hpl3)
    rw [ui_ap, if_neg (fun q => by have := cl_inj p1 q1.1 q.2; subst this; exact (Int32.lt_irrefl p3).elim), w2]
  · simp only [q243_270, q243_273, as_nil, as_i, as_r, Nat.reduceAdd, Nat.reduceLeDiff, z_eq0, z_eq1, z_or, z_em, Classical.not_not, not_false_eq_true, not_true_eq_false, true_and, and_true, false_and, and_false, and_self, true_implies, false_implies, implies_true, Option.toList_some, Option.toList_none, List.cons_append, List.nil_append, Nat.add_eq_zero_iff, a_nl_i, a_nl_r, a_nl_n, true_or, or_true, eq_self, ok_4, ok_5, ok_6, ok_7, ok_9, ok_10, ok_20, ok_21, ok_24, ok_30, ok_48, ok_50, ok_60, ok_80, ok_120, ok_180, ok_192, ok_200, ok_900, ok_1000, ok_84000]
    refine hback J2 _ _ _ _ _ q1.1 ⟨hC.1, f2, fun k2 p1 p3 p4 => ?_, fun k2 p1 p3 => ?_, fun k2 p1 p3 => ?_⟩ (fun k2 _ => by rw [w2])
    · have c7 := hpl3 k2 p1 p3 p4
      rw [w2]
      exact ⟨by clear hpl3 b4 b5 hback; (try clear hS); (try clear hd); (try clear hP); (try clear ih); (try clear hb); (try clear b2); (try clear b3); (try clear b4); (try clear b5); (try clear c2); (try clear c3); (try clear c4); (try clear c5); (try clear hb1); (try clear hback); (try clear hgo); (try clear hend); (try clear h98); (try clear hF3); (try clear hw3); (try clear hb3); (try clear e2); (try clear hC); (try clear hpl3); (try clear d2); (try clear d3); (try clear d4); (try clear d5); (try clear w5); (try clear w7); (try clear F4); (try clear w4); (try clear a4); (try clear hm); (try clear hno); (try clear hw2); (try clear hlow); (try clear hsp); grind, c7.2⟩
    · rw [w2]; exact b4 k2 p1 (by clear hpl3 b4 b5 hback; (try clear hS); (try clear hd); (try clear hP); (try clear ih); (try clear hb); (try clear b2); (try clear b3); (try clear b4); (try clear b5); (try clear c2); (try clear c3); (try clear c4); (try clear c5); (try clear hb1); (try clear hback); (try clear hgo); (try clear hend); (try clear h98); (try clear hF3); (try clear hw3); (try clear hb3); (try clear e2); (try clear hC); (try clear hpl3); (try clear d2); (try clear d3); (try clear d4); (try clear d5); (try clear w5); (try clear w7); (try clear F4); (try clear w4); (try clear a4); (try clear hm); (try clear hno); (try clear hw2); (try clear hlow); (try clear hsp); grind)
    · rw [w2]; exact b5 k2 p1 (by clear hpl3 b4 b5 hback; (try clear hS); (try clear hd); (try clear hP); (try clear ih); (try clear hb); (try clear b2); (try clear b3); (try clear b4); (try clear b5); (try clear c2); (try clear c3); (try clear c4); (try clear c5); (try clear hb1); (try clear hback); (try clear hgo); (try clear hend); (try clear h98); (try clear hF3); (try clear hw3); (try clear hb3); (try clear e2); (try clear hC); (try clear hpl3); (try clear d2); (try clear d3); (try clear d4); (try clear d5); (try clear w5); (try clear w7); (try clear F4); (try clear w4); (try clear a4); (try clear hm); (try clear hno); (try clear hw2); (try clear hlow); (try clear hsp); grind)
theorem lp_findBest_31 (hS : m_S M K L R) {f e pl : Int32} (hf : 0 ≤ f ∧ f ≤ 199) (he : e ≤ 199) (hpl : 0 ≤ pl ∧ pl ≤ 48) (hb0 : I M 6 = 0 → pl = 0) (hfm : 0 ≤ I M 66 ∧ I M 66 ≤ 4) (hd : ∀ k l : Int32, 0 ≤ k → k < I M 66 → 0 ≤ l → l < I M 66 → (I (M + 41) k.toNatClampNeg).toNatClampNeg = (I (M + 41) l.toNatClampNeg).toNatClampNeg → k = l) (hP : ∀ v J, bI M I J pl (-1) → P (some (.int v)) (n, t, K, L, J, R)) : ∀ (z : Nat) J b i k p u v, mu pl (J (M + 42)) i < z → (-1 ≤ i ∧ i ≤ I M 66) → bI M I J pl i → a_at (d + 10) (a_xm a_m243) 31 [some (a_rf M), some (.int f), some (.int e), some (.int pl), some (.int b), some (.int i), k, p, u, v] [] (n, t, K, L, J, R) P := by
  intro z
  induction z with
  | zero => intro J b i k p u v hz; omega
  | succ z ih =>
  intro J b i k p u v hz hi hb
  obtain ⟨b1, b2, b3, b4, b5⟩ := id hb
  have e1 := bF_fewMany b2
  have e2 := bF_few b2
  have hback : ∀ J' b k p u v, 0 ≤ i → bI M I J' pl (i + (-1)) → (∀ k : Nat, k < i.toNatClampNeg → J' (M + 42) k = J (M + 42) k) → a_at (d + 10) (a_xm a_m243) 31 [some (a_rf M), some (.int f), some (.int e), some (.int pl), some (.int b), some (.int (i + (-1))), k, p, u, v] [] (n, t, K, L, J', R) P := by
    intro J' b k p u v q1 q2 q3
    have := mu_back (w := J (M + 42)) (w' := J' (M + 42)) q1 (by (try clear hS); (try clear hd); (try clear hP); (try clear ih); (try clear hb); (try clear b2); (try clear b3); (try clear b4); (try clear b5); (try clear c2); (try clear c3); (try clear c4); (try clear c5); (try clear hb1); (try clear hback); (try clear hgo); (try clear hend); (try clear h98); (try clear hF3); (try clear hw3); (try clear hb3); (try clear e2); (try clear hC); (try clear hpl3); (try clear d2); (try clear d3); (try clear d4); (try clear d5); (try clear w5); (try clear w7); (try clear F4); (try clear w4); (try clear a4); (try clear hm); (try clear hno); (try clear hw2); (try clear hlow); (try clear hsp); grind) hpl (b4 i q1 (Int32.le_refl _)) q3
    exact ih J' b _ k p u v (by omega) (by (try clear hS); (try clear hd); (try clear hP); (try clear ih); (try clear hb); (try clear b2); (try clear b3); (try clear b4); (try clear b5); (try clear c2); (try clear c3); (try clear c4); (try clear c5); (try clear hb1); (try clear hback); (try clear hgo); (try clear hend); (try clear h98); (try clear hF3); (try clear hw3); (try clear hb3); (try clear e2); (try clear hC); (try clear hpl3); (try clear d2); (try clear d3); (try clear d4); (try clear d5); (try clear w5); (try clear w7); (try clear F4); (try clear w4); (try clear a4); (try clear hm); (try clear hno); (try clear hw2); (try clear hlow); (try clear hsp); grind) q2
  rw [q243_31]
  simp only [q243_33, q243_36, q243_38, q243_39, q243_42, q243_360, q243_362, m_0 hS, m_K hS, as_nil, as_i, as_r, Nat.reduceAdd, Nat.reduceLeDiff, z_eq0, z_eq1, z_or, z_em, Classical.not_not, not_false_eq_true, not_true_eq_false, true_and, and_true, false_and, and_false, and_self, true_implies, false_implies, implies_true, Option.toList_some, Option.toList_none, List.cons_append, List.nil_append, Nat.add_eq_zero_iff, a_nl_i, a_nl_r, a_nl_n, true_or, or_true, eq_self, ok_4, ok_5, ok_6, ok_7, ok_9, ok_10, ok_20, ok_21, ok_24, ok_30, ok_48, ok_50, ok_60, ok_80, ok_120, ok_180, ok_192, ok_200, ok_900, ok_1000, ok_84000]
  refine ⟨fun h => ?_, fun h => ⟨fun h1 => ?_, fun h1 => ?_⟩⟩
  · refine hP b J ?_
    rw [show (-1 : Int32) = i by (try clear hS); (try clear hd); (try clear hP); (try clear ih); (try clear hb); (try clear b2); (try clear b3); (try clear b4); (try clear b5); (try clear c2); (try clear c3); (try clear c4); (try clear c5); (try clear hb1); (try clear hback); (try clear hgo); (try clear hend); (try clear h98); (try clear hF3); (try clear hw3); (try clear hb3); (try clear e2); (try clear hC); (try clear hpl3); (try clear d2); (try clear d3); (try clear d4); (try clear d5); (try clear w5); (try clear w7); (try clear F4); (try clear w4); (try clear a4); (try clear hm); (try clear hno); (try clear hw2); (try clear hlow); (try clear hsp); grind]
    exact hb
  · -- a place is looked for
    have q1 : 0 ≤ i ∧ i < I M 66 := by (try clear hS); (try clear hd); (try clear hP); (try clear ih); (try clear hb); (try clear b2); (try clear b3); (try clear b4); (try clear b5); (try clear c2); (try clear c3); (try clear c4); (try clear c5); (try clear hb1); (try clear hback); (try clear hgo); (try clear hend); (try clear h98); (try clear hF3); (try clear hw3); (try clear hb3); (try clear e2); (try clear hC); (try clear hpl3); (try clear d2); (try clear d3); (try clear d4); (try clear d5); (try clear w5); (try clear w7); (try clear F4); (try clear w4); (try clear a4); (try clear hm); (try clear hno); (try clear hw2); (try clear hlow); (try clear hsp); grind
    have i5 : i < 5 ∧ i < 4 := by (try clear hS); (try clear hd); (try clear hP); (try clear ih); (try clear hb); (try clear b2); (try clear b3); (try clear b4); (try clear b5); (try clear c2); (try clear c3); (try clear c4); (try clear c5); (try clear hb1); (try clear hback); (try clear hgo); (try clear hend); (try clear h98); (try clear hF3); (try clear hw3); (try clear hb3); (try clear e2); (try clear hC); (try clear hpl3); (try clear d2); (try clear d3); (try clear d4); (try clear d5); (try clear w5); (try clear w7); (try clear F4); (try clear w4); (try clear a4); (try clear hm); (try clear hno); (try clear hw2); (try clear hlow); (try clear hsp); grind
    have hg := rg_few b1 i.toNatClampNeg
    have ha30 : 0 ≤ J (M + 41) i.toNatClampNeg ∧ J (M + 41) i.toNatClampNeg < 30 := by (try clear hS); (try clear hd); (try clear hP); (try clear ih); (try clear hb); (try clear b2); (try clear b3); (try clear b4); (try clear b5); (try clear c2); (try clear c3); (try clear c4); (try clear c5); (try clear hb1); (try clear hback); (try clear hgo); (try clear hend); (try clear h98); (try clear hF3); (try clear hw3); (try clear hb3); (try clear e2); (try clear hC); (try clear hpl3); (try clear d2); (try clear d3); (try clear d4); (try clear d5); (try clear w5); (try clear w7); (try clear F4); (try clear w4); (try clear a4); (try clear hm); (try clear hno); (try clear hw2); (try clear hlow); (try clear hsp); grind
    have hfi : fw M I (J (M + 41) i.toNatClampNeg).toNatClampNeg := ⟨i, q1.1, q1.2, by rw [e2]⟩
    have hgo : ∀ J1, bI M I J1 pl i → J1 (M + 42) = J (M + 42) → ¬ 0 ≤ J1 (M + 20) (J (M + 41) i.toNatClampNeg).toNatClampNeg → a_at (d + 10) (a_xm a_m243) 152 [some (a_rf M), some (.int f), some (.int e), some (.int pl), some (.int b), some (.int i), some (.int (J (M + 41) i.toNatClampNeg)), p, u, v] [] (n, t, K, L, J1, R) P := by
      intro J1 hb1 hw1 hnp
      rw [e2] at hnp ⊢
      exact lp_findBest_152 hS hf he hb0 hd hpl hfm ih q1 hz b4 b5 hback hb1 hw1 hnp
    simp only [q243_104, q243_105, q243_108, q243_110, q243_111, q243_113, q243_114, q243_117, q243_119, q243_120, q243_123, q243_124, q243_127, q243_129, q243_130, q243_131, m_0 hS, m_K hS, mR_few hS, mK_few hS, mL_few hS, mR_way hS, mK_way hS, mL_way hS, as_nil, as_i, as_r, Nat.reduceAdd, Nat.reduceLeDiff, z_eq0, z_eq1, z_or, z_em, Classical.not_not, not_false_eq_true, not_true_eq_false, true_and, and_true, false_and, and_false, and_self, true_implies, false_implies, implies_true, Option.toList_some, Option.toList_none, List.cons_append, List.nil_append, Nat.add_eq_zero_iff, a_nl_i, a_nl_r, a_nl_n, true_or, or_true, eq_self, ok_4, ok_5, ok_6, ok_7, ok_9, ok_10, ok_20, ok_21, ok_24, ok_30, ok_48, ok_50, ok_60, ok_80, ok_120, ok_180, ok_192, ok_200, ok_900, ok_1000, ok_84000]
    have hno : ¬ (0 ≤ J (M + 42) i.toNatClampNeg ∧ J (M + 42) i.toNatClampNeg < pl) → ¬ 0 ≤ J (M + 20) (J (M + 41) i.toNatClampNeg).toNatClampNeg := fun q p => q (b3 i q1.1 q1.2 (by rw [← e2]; exact p)).2
    refine ⟨⟨q1.1, i5.2⟩, ⟨q1.1, i5.1⟩, fun h2 => hgo J hb rfl (hno (fun q => absurd q.1 (Int32.not_le.mpr h2))), fun h2 => ⟨⟨q1.1, i5.1⟩, fun h3 => hgo J hb rfl (hno (fun q => absurd q.2 (Int32.not_lt.mpr h3))), fun h3 => ?_⟩⟩
    simp only [q243_134, q243_135, q243_138, q243_140, q243_142, q243_143, q243_144, q243_147, q243_149, q243_151, m_0 hS, m_K hS, mR_atBench hS, mK_atBench hS, mL_atBench hS, mR_atShift hS, mK_atShift hS, mL_atShift hS, as_nil, as_i, as_r, Nat.reduceAdd, Nat.reduceLeDiff, z_eq0, z_eq1, z_or, z_em, Classical.not_not, not_false_eq_true, not_true_eq_false, true_and, and_true, false_and, and_false, and_self, true_implies, false_implies, implies_true, Option.toList_some, Option.toList_none, List.cons_append, List.nil_append, Nat.add_eq_zero_iff, a_nl_i, a_nl_r, a_nl_n, true_or, or_true, eq_self, ok_4, ok_5, ok_6, ok_7, ok_9, ok_10, ok_20, ok_21, ok_24, ok_30, ok_48, ok_50, ok_60, ok_80, ok_120, ok_180, ok_192, ok_200, ok_900, ok_1000, ok_84000]
    refine ⟨ha30, ha30, ?_⟩
    refine hgo _ ⟨sR_atShift (sR_atBench b1 (by decide)) (by decide), bF_ui (bF_ui b2 (Or.inr (Or.inr (Or.inr ⟨Or.inl rfl, hfi⟩)))) (Or.inr (Or.inr (Or.inr ⟨Or.inr rfl, hfi⟩))), fun k p1 p3 p4 => ?_, fun k p1 p3 => ?_, fun k p1 p3 => ?_⟩ (by funext j; simp [ui_ap]) (by simp [ui_ap])
    · rw [ui_ap, if_neg (by omega), ui_ap] at p4
      by_cases hq : (I (M + 41) k.toNatClampNeg).toNatClampNeg = (J (M + 41) i.toNatClampNeg).toNatClampNeg
      · rw [if_pos ⟨rfl, hq⟩] at p4
        exact absurd p4 (by decide)
      · rw [if_neg (fun q => hq q.2)] at p4
        simpa [ui_ap] using b3 k p1 p3 p4
    · simpa [ui_ap] using b4 k p1 p3
    · simpa [ui_ap] using b5 k p1 p3
  · -- all are placed or left out
    have q1 : 0 ≤ i := by (try clear hS); (try clear hd); (try clear hP); (try clear ih); (try clear hb); (try clear b2); (try clear b3); (try clear b4); (try clear b5); (try clear c2); (try clear c3); (try clear c4); (try clear c5); (try clear hb1); (try clear hback); (try clear hgo); (try clear hend); (try clear h98); (try clear hF3); (try clear hw3); (try clear hb3); (try clear e2); (try clear hC); (try clear hpl3); (try clear d2); (try clear d3); (try clear d4); (try clear d5); (try clear w5); (try clear w7); (try clear F4); (try clear w4); (try clear a4); (try clear hm); (try clear hno); (try clear hw2); (try clear hlow); (try clear hsp); grind
    have h98 : ∀ J' b k p u v, bI M I J' pl i → J' (M + 42) = J (M + 42) → a_at (d + 10) (a_xm a_m243) 98 [some (a_rf M), some (.int f), some (.int e), some (.int pl), some (.int b), some (.int i), k, p, u, v] [] (n, t, K, L, J', R) P := by
      intro J' b k p u v hb' hw'
      obtain ⟨c1, c2, c3, c4, c5⟩ := hb'
      simp only [q243_98, q243_101, as_nil, as_i, as_r, Nat.reduceAdd, Nat.reduceLeDiff, z_eq0, z_eq1, z_or, z_em, Classical.not_not, not_false_eq_true, not_true_eq_false, true_and, and_true, false_and, and_false, and_self, true_implies, false_implies, implies_true, Option.toList_some, Option.toList_none, List.cons_append, List.nil_append, Nat.add_eq_zero_iff, a_nl_i, a_nl_r, a_nl_n, true_or, or_true, eq_self, ok_4, ok_5, ok_6, ok_7, ok_9, ok_10, ok_20, ok_21, ok_24, ok_30, ok_48, ok_50, ok_60, ok_80, ok_120, ok_180, ok_192, ok_200, ok_900, ok_1000, ok_84000]
      refine hback J' b k p u v q1 ⟨c1, c2, fun k2 p1 p3 p4 => ?_, fun k2 p1 p3 => c4 k2 p1 (by (try clear hS); (try clear hd); (try clear hP); (try clear ih); (try clear hb); (try clear b2); (try clear b3); (try clear b4); (try clear b5); (try clear c2); (try clear c3); (try clear c4); (try clear c5); (try clear hb1); (try clear hback); (try clear hgo); (try clear hend); (try clear h98); (try clear hF3); (try clear hw3); (try clear hb3); (try clear e2); (try clear hC); (try clear hpl3); (try clear d2); (try clear d3); (try clear d4); (try clear d5); (try clear w5); (try clear w7); (try clear F4); (try clear w4); (try clear a4); (try clear hm); (try clear hno); (try clear hw2); (try clear hlow); (try clear hsp); grind), fun k2 p1 p3 => c5 k2 p1 (by (try clear hS); (try clear hd); (try clear hP); (try clear ih); (try clear hb); (try clear b2); (try clear b3); (try clear b4); (try clear b5); (try clear c2); (try clear c3); (try clear c4); (try clear c5); (try clear hb1); (try clear hback); (try clear hgo); (try clear hend); (try clear h98); (try clear hF3); (try clear hw3); (try clear hb3); (try clear e2); (try clear hC); (try clear hpl3); (try clear d2); (try clear d3); (try clear d4); (try clear d5); (try clear w5); (try clear w7); (try clear F4); (try clear w4); (try clear a4); (try clear hm); (try clear hno); (try clear hw2); (try clear hlow); (try clear hsp); grind)⟩ (fun k2 _ => by rw [hw'])
      have := c3 k2 p1 p3 p4
      exact ⟨by (try clear hS); (try clear hd); (try clear hP); (try clear ih); (try clear hb); (try clear b2); (try clear b3); (try clear b4); (try clear b5); (try clear c2); (try clear c3); (try clear c4); (try clear c5); (try clear hb1); (try clear hback); (try clear hgo); (try clear hend); (try clear h98); (try clear hF3); (try clear hw3); (try clear hb3); (try clear e2); (try clear hC); (try clear hpl3); (try clear d2); (try clear d3); (try clear d4); (try clear d5); (try clear w5); (try clear w7); (try clear F4); (try clear w4); (try clear a4); (try clear hm); (try clear hno); (try clear hw2); (try clear hlow); (try clear hsp); grind, this.2⟩
    have i5 : i < 5 := by (try clear hS); (try clear hd); (try clear hP); (try clear ih); (try clear hb); (try clear b2); (try clear b3); (try clear b4); (try clear b5); (try clear c2); (try clear c3); (try clear c4); (try clear c5); (try clear hb1); (try clear hback); (try clear hgo); (try clear hend); (try clear h98); (try clear hF3); (try clear hw3); (try clear hb3); (try clear e2); (try clear hC); (try clear hpl3); (try clear d2); (try clear d3); (try clear d4); (try clear d5); (try clear w5); (try clear w7); (try clear F4); (try clear w4); (try clear a4); (try clear hm); (try clear hno); (try clear hw2); (try clear hlow); (try clear hsp); grind
    simp only [q243_45, q243_46, q243_49, q243_51, q243_52, q243_54, q243_57, q243_58, q243_61, q243_63, q243_64, q243_66, q243_67, m_0 hS, m_K hS, mR_sumTo hS, mK_sumTo hS, mL_sumTo hS, as_nil, as_i, as_r, Nat.reduceAdd, Nat.reduceLeDiff, z_eq0, z_eq1, z_or, z_em, Classical.not_not, not_false_eq_true, not_true_eq_false, true_and, and_true, false_and, and_false, and_self, true_implies, false_implies, implies_true, Option.toList_some, Option.toList_none, List.cons_append, List.nil_append, Nat.add_eq_zero_iff, a_nl_i, a_nl_r, a_nl_n, true_or, or_true, eq_self, ok_4, ok_5, ok_6, ok_7, ok_9, ok_10, ok_20, ok_21, ok_24, ok_30, ok_48, ok_50, ok_60, ok_80, ok_120, ok_180, ok_192, ok_200, ok_900, ok_1000, ok_84000]
    refine ⟨⟨q1, i5⟩, fun h2 => h98 J _ _ _ _ _ hb rfl, fun h2 => ⟨⟨q1, i5⟩, ?_⟩⟩
    exact lp_findBest_69 hS (I := I) (J0 := J) hpl hfm (by (try clear hS); (try clear hd); (try clear hP); (try clear ih); (try clear hb); (try clear b2); (try clear b3); (try clear b4); (try clear b5); (try clear c2); (try clear c3); (try clear c4); (try clear c5); (try clear hb1); (try clear hback); (try clear hgo); (try clear hend); (try clear h98); (try clear hF3); (try clear hw3); (try clear hb3); (try clear e2); (try clear hC); (try clear hpl3); (try clear d2); (try clear d3); (try clear d4); (try clear d5); (try clear w5); (try clear w7); (try clear F4); (try clear w4); (try clear a4); (try clear hm); (try clear hno); (try clear hw2); (try clear hlow); (try clear hsp); grind) (fun J' k' hb' hw' => h98 J' _ _ _ _ _ hb' hw') 0 (by decide) J (by decide) hb rfl
end SG
end
section
def pn : Nat → Nat → Nat
  | 0, _ => 0
  | k + 1, w => w % 2 + pn k (w / 2)
theorem pn_0 : ∀ k, pn k 0 = 0 := by
  intro k
  induction k with
  | zero => rfl
  | succ k ih => simp [pn, ih]
theorem pn_step : ∀ (k w : Nat), pn (k + 1) w = pn k w + (w / 2 ^ k) % 2 := by
  intro k
  induction k with
  | zero => intro w; simp [pn]
  | succ k ih =>
    intro w
    have h1 := ih (w / 2)
    show w % 2 + pn (k + 1) (w / 2) = (w % 2 + pn k (w / 2)) + _
    rw [h1, Nat.div_div_eq_div_mul, Nat.pow_succ, Nat.mul_comm 2 (2 ^ k)]
    omega
theorem pn_le : ∀ (k l w : Nat), k ≤ l → pn k w ≤ pn l w := by
  intro k l w h
  induction h with
  | refl => exact Nat.le_refl _
  | step h ih => rw [pn_step]; omega
theorem bit_at (s : Int32) (h0 : 0 ≤ s) : ∀ k : Nat, k < 30 → ∀ i : Int32, i.toInt = k → ((s >>> (i &&& 31)) &&& 1).toInt = ((s.toInt.toNat / 2 ^ k % 2 : Nat) : Int) := by
  intro k hk i hi
  have h1 := Int32.le_iff_toInt_le.mp h0
  simp at h1
  have hn : s.toInt = (s.toInt.toNat : Int) := by omega
  have e1 : (i &&& 31) = i := by
    have : ∀ k : Fin 30, (Int32.ofInt k.val &&& 31) = Int32.ofInt k.val := by decide
    have hk2 : i = Int32.ofInt k := by rw [← hi, Int32.ofInt_toInt]
    rw [hk2]; exact this ⟨k, hk⟩
  rw [e1]
  have e2 : (s >>> i).toInt = s.toInt / (2 ^ k : Nat) := by
    rw [← Int32.toInt_toBitVec, Int32.toBitVec_shiftRight, BitVec.sshiftRight', BitVec.toInt_sshiftRight, Int.shiftRight_eq_div_pow]
    have : (i.toBitVec.smod 32).toNat = k := by
      have : ∀ k : Fin 30, ((Int32.ofInt k.val).toBitVec.smod 32).toNat = k.val := by decide
      have hk2 : i = Int32.ofInt k := by rw [← hi, Int32.ofInt_toInt]
      rw [hk2]; exact this ⟨k, hk⟩
    rw [this]
    rfl
  have e3 : 0 ≤ (s >>> i).toInt := by rw [e2]; exact Int.ediv_nonneg h1 (Int.natCast_nonneg _)
  have e4 : ((s >>> i) &&& 1).toInt = (s >>> i).toInt % 2 := by
    generalize s >>> i = y at e3
    have h3 : y.toBitVec.toInt = (y.toBitVec.toNat : Int) := by
      rw [BitVec.toInt_eq_toNat_cond]
      split
      · rfl
      · rename_i hx
        rw [← Int32.toInt_toBitVec, BitVec.toInt_eq_toNat_cond] at e3
        split at e3 <;> omega
    have h4 : (y &&& 1).toBitVec.toNat = y.toBitVec.toNat % 2 := by
      rw [Int32.toBitVec_and, BitVec.toNat_and]
      exact Nat.and_one_is_mod _
    have h5 : (y &&& 1).toInt = ((y &&& 1).toBitVec.toNat : Int) := by
      rw [← Int32.toInt_toBitVec, BitVec.toInt_eq_toNat_cond, if_pos (by omega)]
    rw [h5, h4, ← Int32.toInt_toBitVec y, h3]
    omega
  rw [e4, e2]
  generalize s.toInt = z at h1 hn
  obtain ⟨w, rfl⟩ := Int.eq_ofNat_of_zero_le h1
  simp

/-! the best, the public method -/
section SH
variable {d n t M c : Nat} {K L : Nat → Nat} {I I0 J J0 J1 J2 : Nat → Nat → Int32} {R : Nat → Nat → Nat} {P : Option Value → AH → Prop}
theorem rem_two {x : Int32} (h : 0 ≤ x) : (x - x / 2 * 2).toInt = x.toInt % 2 := by
  have h1 := ti_div h (show (0 : Int32) < 2 by decide)
  have h2 := Int32.le_iff_toInt_le.mp h
  simp at h2
  have h3 := Int32.toInt_lt x
  have m1 : (x / 2 * 2).toInt = x.toInt / 2 * 2 := by
    rw [Int32.toInt_mul, h1, show (2 : Int32).toInt = 2 from rfl]
    simp [Int.bmod_def]
    omega
  rw [Int32.toInt_sub, m1]
  simp [Int.bmod_def]
  omega
theorem lp_ones_4b {s : Int32} {h : AH} : ∀ f : Nat, ∀ b c : Int32, f ≤ 31 → 0 ≤ b → b.toInt < 2 ^ f → 0 ≤ c → c.toInt + f ≤ 31 → (∀ v : Int32, v.toInt = c.toInt + (pn f b.toInt.toNat : Nat) → P (some (.int v)) h) → a_at d (a_xm a_m226) 4 [some (.int s), some (.int c), some (.int b)] [] h P := by
  intro f
  induction f with
  | zero =>
    intro b c h1 h2 h3 h4 h5 hP
    have h6 := Int32.le_iff_toInt_le.mp h2
    simp at h6 h3
    have hb : ¬ 0 < b := by rw [Int32.lt_iff_toInt_lt]; simp; omega
    rw [q226_4]
    simp only [q226_0, q226_1, q226_2, q226_3, q226_5, q226_8, q226_9, q226_10, q226_11, q226_12, q226_13, q226_14, q226_15, q226_16, q226_17, q226_18, q226_21, q226_22, as_nil, as_i, as_r, Nat.reduceAdd, Nat.reduceLeDiff, z_eq0, z_eq1, z_or, z_em, Classical.not_not, not_false_eq_true, not_true_eq_false, true_and, and_true, false_and, and_false, and_self, true_implies, false_implies, implies_true, Option.toList_some, Option.toList_none, List.cons_append, List.nil_append, Nat.add_eq_zero_iff, a_nl_i, a_nl_r, a_nl_n, true_or, or_true, eq_self, ok_4, ok_5, ok_6, ok_7, ok_9, ok_10, ok_20, ok_21, ok_24, ok_30, ok_48, ok_50, ok_60, ok_80, ok_120, ok_180, ok_192, ok_200, ok_900, ok_1000, ok_84000]
    refine ⟨fun _ => hP c (by simp [pn]), fun h => absurd h (by grind)⟩
  | succ f ih =>
    intro b c h1 h2 h3 h4 h5 hP
    have h6 := Int32.le_iff_toInt_le.mp h2
    have h7 := Int32.le_iff_toInt_le.mp h4
    simp at h6 h7
    rw [q226_4]
    simp only [q226_0, q226_1, q226_2, q226_3, q226_5, q226_8, q226_9, q226_10, q226_11, q226_12, q226_13, q226_14, q226_15, q226_16, q226_17, q226_18, q226_21, q226_22, as_nil, as_i, as_r, Nat.reduceAdd, Nat.reduceLeDiff, z_eq0, z_eq1, z_or, z_em, Classical.not_not, not_false_eq_true, not_true_eq_false, true_and, and_true, false_and, and_false, and_self, true_implies, false_implies, implies_true, Option.toList_some, Option.toList_none, List.cons_append, List.nil_append, Nat.add_eq_zero_iff, a_nl_i, a_nl_r, a_nl_n, true_or, or_true, eq_self, ok_4, ok_5, ok_6, ok_7, ok_9, ok_10, ok_20, ok_21, ok_24, ok_30, ok_48, ok_50, ok_60, ok_80, ok_120, ok_180, ok_192, ok_200, ok_900, ok_1000, ok_84000]
    refine ⟨fun h => hP c ?_, fun h => ?_⟩
    · have hb : b = 0 := by grind
      subst hb
      rw [show (0 : Int32).toInt.toNat = 0 from rfl, pn_0]
      simp
    · have e1 := rem_two h2
      have e2 := ti_div h2 (show (0 : Int32) < 2 by decide)
      have e3 : (c + (b - b / 2 * 2)).toInt = c.toInt + b.toInt % 2 := by
        rw [Int32.toInt_add, e1]
        simp [Int.bmod_def]
        omega
      have e4 : (2 : Int32).toInt = 2 := rfl
      have e5 := div_half (b := b) (by grind)
      rw [e4] at e2
      refine ⟨by decide, by decide, ih (b / 2) (c + (b - b / 2 * 2)) (by omega) e5.1 (by rw [e2]; rw [Int.pow_succ] at h3; omega) (by rw [Int32.le_iff_toInt_le, e3]; simp; omega) (by rw [e3]; omega) (fun v hv => hP v ?_)⟩
      rw [hv, e3, e2]
      show _ = c.toInt + ((b.toInt.toNat % 2 + pn f (b.toInt.toNat / 2) : Nat) : Int)
      rw [show (b.toInt / 2).toNat = b.toInt.toNat / 2 by omega]
      omega
theorem ct_onesB {s : Int32} {h : AH} (h0 : 0 ≤ s) (hP : ∀ v : Int32, v.toInt = (pn 31 s.toInt.toNat : Nat) → P (some (.int v)) h) : a_does (d + 1) 226 [.int s] h P := by
  rw [a_enter1 (M := a_m226) rfl (a_cat_int a_cat_nil) (show 1 ≤ 3 by decide)]
  show a_at _ (a_xm a_m226) 0 [some (.int s), none, none] [] _ _
  simp only [q226_0, q226_1, q226_2, q226_3, as_nil, as_i, as_r, Nat.reduceAdd, Nat.reduceLeDiff, z_eq0, z_eq1, z_or, z_em, Classical.not_not, not_false_eq_true, not_true_eq_false, true_and, and_true, false_and, and_false, and_self, true_implies, false_implies, implies_true, Option.toList_some, Option.toList_none, List.cons_append, List.nil_append, Nat.add_eq_zero_iff, a_nl_i, a_nl_r, a_nl_n, true_or, or_true, eq_self, ok_4, ok_5, ok_6, ok_7, ok_9, ok_10, ok_20, ok_21, ok_24, ok_30, ok_48, ok_50, ok_60, ok_80, ok_120, ok_180, ok_192, ok_200, ok_900, ok_1000, ok_84000]
  refine lp_ones_4b 31 s 0 (Nat.le_refl _) h0 (Int32.toInt_lt s) (by decide) (by decide) (fun v hv => hP v ?_)
  rw [hv]
  simp
theorem ti_up {x : Int32} {p : Nat} (h : x.toInt = p) (hp : p ≤ 100) : (x + 1).toInt = ((p + 1 : Nat) : Int) := by
  rw [Int32.toInt_add, h, show (1 : Int32).toInt = 1 from rfl]
  simp [Int.bmod_def]
  omega
/-- no more of the row of events, and the few have no place -/
theorem mE_fw (h : mE M c I) (hb : bF M I J) (hu : ∀ j, fw M I j → ¬ 0 ≤ J (M + 20) j) : mE M c J := by
  obtain ⟨g, q1, q2⟩ := h
  have e1 : J M 35 = I M 35 := hb _ _ (by unfold sC; omega) (by omega) (by omega) (by omega) (by omega) (by omega)
  have e2 : ∀ j, J (M + 24) j = I (M + 24) j := fun j => hb _ _ (by unfold sC; omega) (by omega) (by omega) (by omega) (by omega) (by omega)
  have e3 : ∀ j, J (M + 25) j = I (M + 25) j := fun j => hb _ _ (by unfold sC; omega) (by omega) (by omega) (by omega) (by omega) (by omega)
  have e4 : J M 0 = I M 0 := hb _ _ (by unfold sC; omega) (by omega) (by omega) (by omega) (by omega) (by omega)
  have e5 : J M 17 = I M 17 := hb _ _ (by unfold sC; omega) (by omega) (by omega) (by omega) (by omega) (by omega)
  have e6 : ∀ j, J (M + 10) j = I (M + 10) j := fun j => hb _ _ (by unfold sC; omega) (by omega) (by omega) (by omega) (by omega) (by omega)
  refine ⟨g, ?_, by rw [e1]; exact q2⟩
  intro a ha hk hbn
  rw [e5] at hk
  have hnf : ¬ fw M I a.toNatClampNeg := fun q => hu _ q hbn
  have e7 : J (M + 20) a.toNatClampNeg = I (M + 20) a.toNatClampNeg := hb _ _ (by unfold sC; omega) (by omega) (by omega) (by omega) (by omega) (fun q => hnf q.2)
  have e8 : J (M + 21) a.toNatClampNeg = I (M + 21) a.toNatClampNeg := hb _ _ (by unfold sC; omega) (by omega) (by omega) (by omega) (by omega) (fun q => hnf q.2)
  rw [e7] at hbn
  cases q1 a ha hk hbn with
  | inl q => exact Or.inl (fun i i0 i1 => by rw [e6] at i1; rw [fc_eq e1 e2 e3 e4, e7, e8]; exact q i i0 i1)
  | inr q => exact Or.inr q
def bW (M c : Nat) (I0 I J : Nat → Nat → Int32) (s k : Int32) : Prop := mF M c I0 J ∧ k ≤ J M 17 ∧ (J M 66).toInt = (pn k.toNatClampNeg s.toInt.toNat : Nat) ∧ (∀ x : Int32, 0 ≤ x → x < J M 66 → J (M + 41) x.toNatClampNeg < k ∧ ¬ 0 ≤ J (M + 20) (J (M + 41) x.toNatClampNeg).toNatClampNeg) ∧ (∀ x y : Int32, 0 ≤ x → x < y → y < J M 66 → J (M + 41) x.toNatClampNeg < J (M + 41) y.toNatClampNeg)
theorem lp_best_195 (hS : m_S M K L R) {s f e a z : Int32} (hF : mF M c I0 J) (hfm : J M 66 ≤ 4) (hP : ∀ v, P (some (.int v)) (n, t, K, L, J, R)) : ∀ i : Int32, i ≤ 4 → ∀ y u, 0 ≤ i → a_at (d + 11) (a_xm a_m242) 195 [some (a_rf M), some (.int f), some (.int e), some (.int s), some (.int a), some (.int z), some (.int y), some (.int i), u] [] (n, t, K, L, J, R) P := by
  refine up_ind 4 (fun i hi ih => ?_)
  intro y u h0
  have g1 := rg_benches hF.1.1
  have g2 := rg_bestWay hF.1.1 i.toNatClampNeg
  have g3 : J M 6 = 0 → (e - f + 1) * J M 6 = 0 := fun h => by rw [h]; exact Int32.mul_zero
  rw [q242_195]
  repeat' first
    | with_reducible apply And.intro
    | with_reducible assumption
    | with_reducible intro _
    | with_reducible apply ih
    | with_reducible apply hP
    | simp only [q242_197, q242_198, q242_201, q242_204, q242_205, q242_208, q242_210, q242_211, q242_213, q242_216, q242_217, q242_220, q242_222, q242_223, q242_224, q242_225, q242_226, q242_227, q242_228, q242_229, q242_232, q242_233, q242_236, q242_237, q242_240, q242_241, q242_243, q242_245, q242_248, q242_250, q242_251, q242_252, q242_255, q242_257, q242_258, q242_259, q242_262, q242_263, q242_264, q242_265, q242_266, q242_269, q242_271, q242_272, q242_273, q242_276, q242_277, q242_278, q242_281, q242_283, q242_285, q242_288, q242_291, q242_293, m_0 hS, m_K hS, mR_few hS, mK_few hS, mL_few hS, mR_bestWay hS, mK_bestWay hS, mL_bestWay hS, as_nil, as_i, as_r, Nat.reduceAdd, Nat.reduceLeDiff, z_eq0, z_eq1, z_or, z_em, Classical.not_not, not_false_eq_true, not_true_eq_false, true_and, and_true, false_and, and_false, and_self, true_implies, false_implies, implies_true, Option.toList_some, Option.toList_none, List.cons_append, List.nil_append, Nat.add_eq_zero_iff, a_nl_i, a_nl_r, a_nl_n, true_or, or_true, eq_self, ok_4, ok_5, ok_6, ok_7, ok_9, ok_10, ok_20, ok_21, ok_24, ok_30, ok_48, ok_50, ok_60, ok_80, ok_120, ok_180, ok_192, ok_200, ok_900, ok_1000, ok_84000]
  all_goals grind [ui_ap]
end SH
end
section
/-! rings -/
section SI
variable {d n t M c : Nat} {K L : Nat → Nat} {I I0 J J0 J1 J2 : Nat → Nat → Int32} {R : Nat → Nat → Nat} {P : Option Value → AH → Prop}
/-- one of the ring -/
def rK (M : Nat) (m : Int32) (I : Nat → Nat → Int32) (j : Nat) : Prop := ∃ k : Int32, 0 ≤ k ∧ k < m ∧ j = (I (M + 48) k.toNatClampNeg).toNatClampNeg
def rF (M : Nat) (m : Int32) (I J : Nat → Nat → Int32) : Prop := ∀ x j, ¬ sC M x j → ¬ x = (M + 22) → ¬ x = (M + 49) → ¬ x = (M + 50) → ¬ x = (M + 51) → ¬ ((x = (M + 20) ∨ x = (M + 21)) ∧ rK M m I j) → J x j = I x j
def rQ (M : Nat) (I J : Nat → Nat → Int32) : Prop := mR M J ∧ ∀ x j, ¬ sC M x j → ¬ x = (M + 22) → ¬ x = (M + 49) → ¬ x = (M + 50) → ¬ x = (M + 51) → J x j = I x j
def rS (M : Nat) (m : Int32) (I J : Nat → Nat → Int32) (p q : Int32) : Prop := mR M J ∧ rF M m I J ∧ (∀ k : Int32, 0 ≤ k → k < p → J (M + 49) k.toNatClampNeg = I (M + 20) (I (M + 48) k.toNatClampNeg).toNatClampNeg ∧ J (M + 50) k.toNatClampNeg = I (M + 21) (I (M + 48) k.toNatClampNeg).toNatClampNeg) ∧ (∀ k : Int32, q ≤ k → k < m → J (M + 20) (I (M + 48) k.toNatClampNeg).toNatClampNeg = I (M + 20) (I (M + 48) k.toNatClampNeg).toNatClampNeg ∧ J (M + 21) (I (M + 48) k.toNatClampNeg).toNatClampNeg = I (M + 21) (I (M + 48) k.toNatClampNeg).toNatClampNeg)
/-- all is kept, the first i are where they stood -/
def rV (M : Nat) (m : Int32) (I J : Nat → Nat → Int32) (i : Int32) : Prop := mR M J ∧ rF M m I J ∧ (∀ k : Int32, 0 ≤ k → k < m → J (M + 49) k.toNatClampNeg = I (M + 20) (I (M + 48) k.toNatClampNeg).toNatClampNeg ∧ J (M + 50) k.toNatClampNeg = I (M + 21) (I (M + 48) k.toNatClampNeg).toNatClampNeg) ∧ (∀ k : Int32, 0 ≤ k → k < i → J (M + 20) (I (M + 48) k.toNatClampNeg).toNatClampNeg = I (M + 20) (I (M + 48) k.toNatClampNeg).toNatClampNeg ∧ J (M + 21) (I (M + 48) k.toNatClampNeg).toNatClampNeg = I (M + 21) (I (M + 48) k.toNatClampNeg).toNatClampNeg)
theorem rF_ra {m : Int32} (h : rF M m I J) (j : Nat) : J (M + 48) j = I (M + 48) j := h _ _ (by unfold sC; omega) (by omega) (by omega) (by omega) (by omega) (by omega)
theorem rF_ui {m : Int32} (h : rF M m I J) {x k : Nat} {v : Int32} (hx : x = (M + 22) ∨ x = (M + 49) ∨ x = (M + 50) ∨ x = (M + 51) ∨ ((x = (M + 20) ∨ x = (M + 21)) ∧ rK M m I k)) : rF M m I (a_ui J x k v) := fun y j h1 h2 h3 h4 h5 h6 => by
  rw [ui_ap, if_neg (fun q => by
    rcases hx with hx | hx | hx | hx | hx
    · exact h2 (q.1.trans hx)
    · exact h3 (q.1.trans hx)
    · exact h4 (q.1.trans hx)
    · exact h5 (q.1.trans hx)
    · exact h6 (by rw [q.1, q.2]; exact hx))]
  exact h y j h1 h2 h3 h4 h5 h6
theorem rS_os {m p q : Int32} (h : rS M m I J p q) {k : Nat} {v : Int32} : rS M m I (a_ui J (M + 51) k v) p q := ⟨sR_oldStanding h.1, rF_ui h.2.1 (by omega), by simpa [ui_ap] using h.2.2.1, by simpa [ui_ap] using h.2.2.2⟩
theorem rV_st {m i : Int32} (h : rV M m I J i) {k : Nat} {v : Int32} : rV M m I (a_ui J (M + 22) k v) i := ⟨sR_standing h.1, rF_ui h.2.1 (by omega), by simpa [ui_ap] using h.2.2.1, by simpa [ui_ap] using h.2.2.2⟩
theorem lp_ringFits_41 (hS : m_S M K L R) {m i a p q : Int32} (ha : 0 ≤ a ∧ a ≤ 29) (hi : 0 ≤ i ∧ i ≤ 4) (hN : ∀ J, rS M m I J p q → a_at d (a_xm a_m254) 75 [some (a_rf M), some (.int m), some (.int i), some (.int a), some (.int 4), none] [] (n, t, K, L, J, R) P) : ∀ o : Int32, o ≤ 4 → ∀ J, 0 ≤ o → rS M m I J p q → a_at d (a_xm a_m254) 41 [some (a_rf M), some (.int m), some (.int i), some (.int a), some (.int o), none] [] (n, t, K, L, J, R) P := by
  refine up_ind 4 (fun o ho ih => ?_)
  intro J h0 h
  rw [q254_41]
  simp only [q254_43, q254_44, q254_47, q254_48, q254_51, q254_52, q254_53, q254_54, q254_56, q254_57, q254_58, q254_61, q254_62, q254_63, q254_64, q254_66, q254_67, q254_68, q254_69, q254_72, m_0 hS, m_K hS, mR_oldStanding hS, mK_oldStanding hS, mL_oldStanding hS, mR_standing hS, mK_standing hS, mL_standing hS, as_nil, as_i, as_r, Nat.reduceAdd, Nat.reduceLeDiff, z_eq0, z_eq1, z_or, z_em, Classical.not_not, not_false_eq_true, not_true_eq_false, true_and, and_true, false_and, and_false, and_self, true_implies, false_implies, implies_true, Option.toList_some, Option.toList_none, List.cons_append, List.nil_append, Nat.add_eq_zero_iff, a_nl_i, a_nl_r, a_nl_n, true_or, or_true, eq_self, ok_4, ok_5, ok_6, ok_7, ok_9, ok_10, ok_20, ok_21, ok_24, ok_30, ok_48, ok_50, ok_60, ok_80, ok_120, ok_180, ok_192, ok_200, ok_900, ok_1000, ok_84000]
  refine ⟨fun h1 => ?_, fun h1 => ?_⟩
  · rw [show o = 4 by grind]
    exact hN J h
  · repeat refine And.intro (by grind) ?_
    exact ih (by grind) _ (by grind) (rS_os h)
theorem lp_ringFits_2 (hS : m_S M K L R) {m : Int32} (hm : 0 ≤ m ∧ m ≤ 5) (hq : ∀ k : Int32, 0 ≤ k → k < m → (0 ≤ I (M + 48) k.toNatClampNeg ∧ I (M + 48) k.toNatClampNeg ≤ 29) ∧ 0 ≤ I (M + 20) (I (M + 48) k.toNatClampNeg).toNatClampNeg) (hd : ∀ k l : Int32, 0 ≤ k → k < m → 0 ≤ l → l < m → (I (M + 48) k.toNatClampNeg).toNatClampNeg = (I (M + 48) l.toNatClampNeg).toNatClampNeg → k = l) (hN : ∀ J a o, rV M m I J 0 → a_at d (a_xm a_m254) 97 [some (a_rf M), some (.int m), some (.int m), a, o, none] [] (n, t, K, L, J, R) P) : ∀ i : Int32, i ≤ 5 → ∀ J a o, 0 ≤ i → i ≤ m → rS M m I J i i → a_at d (a_xm a_m254) 2 [some (a_rf M), some (.int m), some (.int i), a, o, none] [] (n, t, K, L, J, R) P := by
  refine up_ind 5 (fun i hi ih => ?_)
  intro J a o h0 him h
  obtain ⟨h1, h2, h3, h4⟩ := id h
  have er := rF_ra h2
  rw [q254_2]
  simp only [q254_3, q254_4, q254_7, q254_8, q254_11, q254_12, q254_13, q254_14, q254_15, q254_18, q254_19, q254_20, q254_23, q254_24, q254_25, q254_26, q254_27, q254_30, q254_31, q254_32, q254_35, q254_36, q254_37, q254_38, q254_39, m_0 hS, m_K hS, mR_ringAsk hS, mK_ringAsk hS, mL_ringAsk hS, mR_oldBench hS, mK_oldBench hS, mL_oldBench hS, mR_atBench hS, mK_atBench hS, mL_atBench hS, mR_oldShift hS, mK_oldShift hS, mL_oldShift hS, mR_atShift hS, mK_atShift hS, mL_atShift hS, as_nil, as_i, as_r, Nat.reduceAdd, Nat.reduceLeDiff, z_eq0, z_eq1, z_or, z_em, Classical.not_not, not_false_eq_true, not_true_eq_false, true_and, and_true, false_and, and_false, and_self, true_implies, false_implies, implies_true, Option.toList_some, Option.toList_none, List.cons_append, List.nil_append, Nat.add_eq_zero_iff, a_nl_i, a_nl_r, a_nl_n, true_or, or_true, eq_self, ok_4, ok_5, ok_6, ok_7, ok_9, ok_10, ok_20, ok_21, ok_24, ok_30, ok_48, ok_50, ok_60, ok_80, ok_120, ok_180, ok_192, ok_200, ok_900, ok_1000, ok_84000, ui_ap, ne_MM, ne_M0, ne_0M, Nat.reduceEqDiff, reduceIte, if_true, if_false, er]
  refine ⟨fun q => ?_, fun q => ?_⟩
  · rw [show i = m by grind]
    exact hN J a o ⟨h1, h2, fun k p1 p2 => h3 k p1 (by grind), fun k p1 p2 => by grind⟩
  · have hi2 : i < m := by grind
    have q1 := hq i h0 hi2
    have q2 := h4 i (Int32.le_refl _) hi2
    have r1 := rg_atBench h1 (I (M + 48) i.toNatClampNeg).toNatClampNeg
    have r2 := rg_atShift h1 (I (M + 48) i.toNatClampNeg).toNatClampNeg
    repeat refine And.intro (by grind) ?_
    refine lp_ringFits_41 hS (I := I) (p := i + 1) (q := i) q1.1 (by grind) (fun J2 h5 => ?_) 0 (by decide) _ (by decide) ⟨sR_oldShift (sR_oldBench h1 r1) r2, rF_ui (rF_ui h2 (by omega)) (by omega), fun k p1 p2 => ?_, fun k p1 p2 => ?_⟩
    · simp only [q254_75, q254_76, q254_79, q254_80, q254_82, q254_83, q254_84, q254_87, q254_88, q254_90, q254_91, q254_94, m_0 hS, m_K hS, mR_atBench hS, mK_atBench hS, mL_atBench hS, mR_atShift hS, mK_atShift hS, mL_atShift hS, as_nil, as_i, as_r, Nat.reduceAdd, Nat.reduceLeDiff, z_eq0, z_eq1, z_or, z_em, Classical.not_not, not_false_eq_true, not_true_eq_false, true_and, and_true, false_and, and_false, and_self, true_implies, false_implies, implies_true, Option.toList_some, Option.toList_none, List.cons_append, List.nil_append, Nat.add_eq_zero_iff, a_nl_i, a_nl_r, a_nl_n, true_or, or_true, eq_self, ok_4, ok_5, ok_6, ok_7, ok_9, ok_10, ok_20, ok_21, ok_24, ok_30, ok_48, ok_50, ok_60, ok_80, ok_120, ok_180, ok_192, ok_200, ok_900, ok_1000, ok_84000, ui_ap, ne_MM, ne_M0, ne_0M, Nat.reduceEqDiff, reduceIte, if_true, if_false]
      repeat refine And.intro (by grind) ?_
      have hk : rK M m I (I (M + 48) i.toNatClampNeg).toNatClampNeg := ⟨i, h0, hi2, rfl⟩
      obtain ⟨g1, g2, g3, g4⟩ := h5
      refine ih (by grind) _ _ _ (by grind) (by grind) ⟨sR_atShift (sR_atBench g1 (by decide)) (by decide), rF_ui (rF_ui g2 (Or.inr (Or.inr (Or.inr (Or.inr ⟨Or.inl rfl, hk⟩))))) (Or.inr (Or.inr (Or.inr (Or.inr ⟨Or.inr rfl, hk⟩)))), fun k p1 p2 => ?_, fun k p1 p2 => ?_⟩
      · have := g3 k p1 p2
        simpa [ui_ap] using this
      · have hne : ¬ (I (M + 48) k.toNatClampNeg).toNatClampNeg = (I (M + 48) i.toNatClampNeg).toNatClampNeg := fun e => by
          have := hd k i (by grind) p2 h0 hi2 e
          grind
        simp only [ui_ap, ne_MM, ne_M0, ne_0M, Nat.reduceEqDiff, reduceIte, if_true, if_false, and_self, false_and, and_false, true_and, hne]
        exact g4 k (by grind) p2
    · by_cases hk : k = i
      · subst hk
        simp only [ui_ap, ne_MM, ne_M0, ne_0M, Nat.reduceEqDiff, reduceIte, if_true, if_false, and_self, false_and, and_false, true_and]
        exact q2
      · have hne : ¬ k.toNatClampNeg = i.toNatClampNeg := fun e => hk (cl_inj p1 h0 e)
        simp only [ui_ap, ne_MM, ne_M0, ne_0M, Nat.reduceEqDiff, reduceIte, if_true, if_false, and_self, false_and, and_false, true_and, hne]
        exact h3 k p1 (by grind)
    · have := h4 k p1 p2
      simpa [ui_ap] using this
theorem rV_fit (hS : m_S M K L R) {m i j : Int32} (hm : 0 ≤ m ∧ m ≤ 5) (hq : ∀ k : Int32, 0 ≤ k → k < m → (0 ≤ I (M + 48) k.toNatClampNeg ∧ I (M + 48) k.toNatClampNeg ≤ 29) ∧ 0 ≤ I (M + 20) (I (M + 48) k.toNatClampNeg).toNatClampNeg) (h : rV M m I J 0) (hi : 0 ≤ i ∧ i < m) (hj : 0 ≤ j ∧ j < m) (hP : ∀ v J', rV M m I J' 0 → P (some (.int v)) (n, t, K, L, J', R)) : a_does (d + 10) 221 [a_rf M, .int (J (M + 48) i.toNatClampNeg), .int (J (M + 49) j.toNatClampNeg), .int (J (M + 50) j.toNatClampNeg)] (n, t, K, L, J, R) P := by
  obtain ⟨h1, h2, h3, h4⟩ := id h
  have e1 := rF_ra h2
  have q1 := hq i hi.1 hi.2
  have q2 := hq j hj.1 hj.2
  have q3 := h3 j hj.1 hj.2
  have r1 := rg_oldBench h1 j.toNatClampNeg
  have r2 := rg_oldShift h1 j.toNatClampNeg
  refine ct_fitOf hS (mC_refl h1) (by rw [e1]; grind) (by rw [q3.1]; rw [q3.1] at r1; exact ⟨q2.2, r1.2⟩) (by grind) (fun v J' hC => hP v J' ⟨hC.1, fun x y p1 p2 p3 p4 p5 p6 => (hC.2 x y p1).trans (h2 x y p1 p2 p3 p4 p5 p6), fun k p1 p2 => ?_, fun k p1 p2 => by grind⟩)
  have := h3 k p1 p2
  rw [eS_oldBench hC, eS_oldShift hC]
  exact this
theorem rV_put (hS : m_S M K L R) {m i j : Int32} (hm : 0 ≤ m ∧ m ≤ 5) (hq : ∀ k : Int32, 0 ≤ k → k < m → (0 ≤ I (M + 48) k.toNatClampNeg ∧ I (M + 48) k.toNatClampNeg ≤ 29) ∧ 0 ≤ I (M + 20) (I (M + 48) k.toNatClampNeg).toNatClampNeg) (h : rV M m I J 0) (hi : 0 ≤ i ∧ i < m) (hj : 0 ≤ j ∧ j < m) (hP : ∀ J', rV M m I J' 0 → P none (n, t, K, L, J', R)) : a_does (d + 10) 231 [a_rf M, .int (J (M + 48) i.toNatClampNeg), .int (J (M + 49) j.toNatClampNeg), .int (J (M + 50) j.toNatClampNeg)] (n, t, K, L, J, R) P := by
  obtain ⟨h1, h2, h3, h4⟩ := id h
  have e1 := rF_ra h2
  have q1 := hq i hi.1 hi.2
  have q2 := hq j hj.1 hj.2
  have q3 := h3 j hj.1 hj.2
  have r1 := rg_oldBench h1 j.toNatClampNeg
  have r2 := rg_oldShift h1 j.toNatClampNeg
  have hk : rK M m I (J (M + 48) i.toNatClampNeg).toNatClampNeg := ⟨i, hi.1, hi.2, by rw [e1]⟩
  refine ct_putAt hS h1 (by rw [e1]; grind) (by rw [q3.1]; rw [q3.1] at r1; exact ⟨q2.2, r1.2⟩) (fun J1 hm2 => hP (a_ui (a_ui J1 (M + 20) (J (M + 48) i.toNatClampNeg).toNatClampNeg (J (M + 49) j.toNatClampNeg)) (M + 21) (J (M + 48) i.toNatClampNeg).toNatClampNeg (J (M + 50) j.toNatClampNeg)) ⟨sR_atShift (sR_atBench hm2.1 r1) r2, ?_, fun k p1 p2 => ?_, fun k p1 p2 => by grind⟩)
  · refine rF_ui (rF_ui (fun x y p1 p2 p3 p4 p5 p6 => (hm2.2 x y p1 p2).trans (h2 x y p1 p2 p3 p4 p5 p6)) (Or.inr (Or.inr (Or.inr (Or.inr ⟨Or.inl rfl, hk⟩))))) (Or.inr (Or.inr (Or.inr (Or.inr ⟨Or.inr rfl, hk⟩))))
  · have := h3 k p1 p2
    simp only [ui_ap, ne_MM, ne_M0, ne_0M, Nat.reduceEqDiff, reduceIte, if_true, if_false, and_self, false_and, and_false]
    rw [hm2.2 _ _ (by unfold sC; omega) (by omega), hm2.2 _ _ (by unfold sC; omega) (by omega)]
    exact this
theorem lp_ringFits_101 (hS : m_S M K L R) {m : Int32} (hm : 0 ≤ m ∧ m ≤ 5) (hq : ∀ k : Int32, 0 ≤ k → k < m → (0 ≤ I (M + 48) k.toNatClampNeg ∧ I (M + 48) k.toNatClampNeg ≤ 29) ∧ 0 ≤ I (M + 20) (I (M + 48) k.toNatClampNeg).toNatClampNeg) (hN : ∀ J u i o, (u = 0 ∨ u = 1) → rV M m I J 0 → a_at (d + 10) (a_xm a_m254) 193 [some (a_rf M), some (.int m), some (.int u), some (.int i), o, none] [] (n, t, K, L, J, R) P) : ∀ i : Int32, i ≤ 5 → ∀ J u o, 0 ≤ i → i ≤ m → (u = 0 ∨ u = 1) → rV M m I J 0 → a_at (d + 10) (a_xm a_m254) 101 [some (a_rf M), some (.int m), some (.int u), some (.int i), o, none] [] (n, t, K, L, J, R) P := by
  refine up_ind 5 (fun i hi ih => ?_)
  intro J u o h0 him hu h
  have er := rF_ra h.2.1
  have hfit : ∀ J, rV M m I J 0 → ∀ j, i < m → 0 ≤ j ∧ j < m → ∀ Q, (∀ v J', rV M m I J' 0 → Q (some (.int v)) (n, t, K, L, J', R)) → a_does (d + 10) 221 [a_rf M, .int (J (M + 48) i.toNatClampNeg), .int (J (M + 49) j.toNatClampNeg), .int (J (M + 50) j.toNatClampNeg)] (n, t, K, L, J, R) Q := fun J h j p1 hj Q hQ => rV_fit hS hm hq h ⟨h0, p1⟩ hj hQ
  have hput : ∀ J, rV M m I J 0 → ∀ j, i < m → 0 ≤ j ∧ j < m → ∀ Q, (∀ J', rV M m I J' 0 → Q none (n, t, K, L, J', R)) → a_does (d + 10) 231 [a_rf M, .int (J (M + 48) i.toNatClampNeg), .int (J (M + 49) j.toNatClampNeg), .int (J (M + 50) j.toNatClampNeg)] (n, t, K, L, J, R) Q := fun J h j p1 hj Q hQ => rV_put hS hm hq h ⟨h0, p1⟩ hj hQ
  rw [q254_101]
  repeat' first
    | with_reducible apply And.intro
    | with_reducible assumption
    | with_reducible intro _
    | with_reducible apply hN
    | with_reducible apply ih
    | with_reducible apply hfit
    | with_reducible apply hput
    | simp only [q254_102, q254_103, q254_106, q254_107, q254_110, q254_111, q254_112, q254_113, q254_114, q254_117, q254_118, q254_119, q254_120, q254_123, q254_124, q254_126, q254_127, q254_128, q254_131, q254_132, q254_133, q254_134, q254_137, q254_139, q254_140, q254_141, q254_144, q254_146, q254_147, q254_150, q254_153, q254_154, q254_157, q254_158, q254_159, q254_160, q254_163, q254_164, q254_165, q254_168, q254_169, q254_170, q254_171, q254_174, q254_176, q254_177, q254_178, q254_181, q254_183, q254_184, q254_187, q254_190, m_0 hS, m_K hS, mR_ringAsk hS, mK_ringAsk hS, mL_ringAsk hS, mR_oldBench hS, mK_oldBench hS, mL_oldBench hS, mR_oldShift hS, mK_oldShift hS, mL_oldShift hS, as_nil, as_i, as_r, Nat.reduceAdd, Nat.reduceLeDiff, z_eq0, z_eq1, z_or, z_em, Classical.not_not, not_false_eq_true, not_true_eq_false, true_and, and_true, false_and, and_false, and_self, true_implies, false_implies, implies_true, Option.toList_some, Option.toList_none, List.cons_append, List.nil_append, Nat.add_eq_zero_iff, a_nl_i, a_nl_r, a_nl_n, true_or, or_true, eq_self, ok_4, ok_5, ok_6, ok_7, ok_9, ok_10, ok_20, ok_21, ok_24, ok_30, ok_48, ok_50, ok_60, ok_80, ok_120, ok_180, ok_192, ok_200, ok_900, ok_1000, ok_84000]
  all_goals (try clear hfit); (try clear hput); (try clear hN); (try clear ih); grind [ui_ap]
theorem lp_ringFits_237 (hS : m_S M K L R) {m u i a p : Int32} (ha : 0 ≤ a ∧ a ≤ 29) (hi : 0 ≤ i ∧ i ≤ 4) (hN : ∀ J, rV M m I J p → a_at d (a_xm a_m254) 272 [some (a_rf M), some (.int m), some (.int u), some (.int i), some (.int a), some (.int 4)] [] (n, t, K, L, J, R) P) : ∀ o : Int32, o ≤ 4 → ∀ J, 0 ≤ o → rV M m I J p → a_at d (a_xm a_m254) 237 [some (a_rf M), some (.int m), some (.int u), some (.int i), some (.int a), some (.int o)] [] (n, t, K, L, J, R) P := by
  refine up_ind 4 (fun o ho ih => ?_)
  intro J h0 h
  rw [q254_237]
  simp only [q254_239, q254_240, q254_243, q254_244, q254_247, q254_248, q254_250, q254_251, q254_253, q254_254, q254_255, q254_258, q254_259, q254_260, q254_261, q254_263, q254_264, q254_265, q254_266, q254_269, m_0 hS, m_K hS, mR_standing hS, mK_standing hS, mL_standing hS, mR_oldStanding hS, mK_oldStanding hS, mL_oldStanding hS, as_nil, as_i, as_r, Nat.reduceAdd, Nat.reduceLeDiff, z_eq0, z_eq1, z_or, z_em, Classical.not_not, not_false_eq_true, not_true_eq_false, true_and, and_true, false_and, and_false, and_self, true_implies, false_implies, implies_true, Option.toList_some, Option.toList_none, List.cons_append, List.nil_append, Nat.add_eq_zero_iff, a_nl_i, a_nl_r, a_nl_n, true_or, or_true, eq_self, ok_4, ok_5, ok_6, ok_7, ok_9, ok_10, ok_20, ok_21, ok_24, ok_30, ok_48, ok_50, ok_60, ok_80, ok_120, ok_180, ok_192, ok_200, ok_900, ok_1000, ok_84000]
  refine ⟨fun h1 => ?_, fun h1 => ?_⟩
  · rw [show o = 4 by grind]
    exact hN J h
  · repeat refine And.intro (by grind) ?_
    exact ih (by grind) _ (by grind) (rV_st h)
theorem lp_ringFits_195 (hS : m_S M K L R) {m u : Int32} (hu : u = 0 ∨ u = 1) (hm : 0 ≤ m ∧ m ≤ 5) (hq : ∀ k : Int32, 0 ≤ k → k < m → (0 ≤ I (M + 48) k.toNatClampNeg ∧ I (M + 48) k.toNatClampNeg ≤ 29) ∧ 0 ≤ I (M + 20) (I (M + 48) k.toNatClampNeg).toNatClampNeg) (hd : ∀ k l : Int32, 0 ≤ k → k < m → 0 ≤ l → l < m → (I (M + 48) k.toNatClampNeg).toNatClampNeg = (I (M + 48) l.toNatClampNeg).toNatClampNeg → k = l) (hP : ∀ J, rV M m I J m → P (some (.int u)) (n, t, K, L, J, R)) : ∀ i : Int32, i ≤ 5 → ∀ J a o, 0 ≤ i → i ≤ m → rV M m I J i → a_at d (a_xm a_m254) 195 [some (a_rf M), some (.int m), some (.int u), some (.int i), a, o] [] (n, t, K, L, J, R) P := by
  refine up_ind 5 (fun i hi ih => ?_)
  intro J a o h0 him h
  obtain ⟨h1, h2, h3, h4⟩ := id h
  have er := rF_ra h2
  rw [q254_195]
  simp only [q254_196, q254_197, q254_200, q254_201, q254_204, q254_205, q254_206, q254_208, q254_209, q254_212, q254_214, q254_215, q254_218, q254_219, q254_220, q254_221, q254_222, q254_225, q254_227, q254_228, q254_231, q254_232, q254_233, q254_234, q254_235, q254_278, q254_279, m_0 hS, m_K hS, mR_ringAsk hS, mK_ringAsk hS, mL_ringAsk hS, mR_atBench hS, mK_atBench hS, mL_atBench hS, mR_oldBench hS, mK_oldBench hS, mL_oldBench hS, mR_atShift hS, mK_atShift hS, mL_atShift hS, mR_oldShift hS, mK_oldShift hS, mL_oldShift hS, as_nil, as_i, as_r, Nat.reduceAdd, Nat.reduceLeDiff, z_eq0, z_eq1, z_or, z_em, Classical.not_not, not_false_eq_true, not_true_eq_false, true_and, and_true, false_and, and_false, and_self, true_implies, false_implies, implies_true, Option.toList_some, Option.toList_none, List.cons_append, List.nil_append, Nat.add_eq_zero_iff, a_nl_i, a_nl_r, a_nl_n, true_or, or_true, eq_self, ok_4, ok_5, ok_6, ok_7, ok_9, ok_10, ok_20, ok_21, ok_24, ok_30, ok_48, ok_50, ok_60, ok_80, ok_120, ok_180, ok_192, ok_200, ok_900, ok_1000, ok_84000, ui_ap, ne_MM, ne_M0, ne_0M, Nat.reduceEqDiff, reduceIte, if_true, if_false, er]
  refine ⟨fun q => ?_, fun q => ?_⟩
  · have e : i = m := by grind
    subst e
    exact ⟨hu, hP J h⟩
  · have hi2 : i < m := by grind
    have q1 := hq i h0 hi2
    have q2 := h3 i h0 hi2
    have r1 := rg_oldBench h1 i.toNatClampNeg
    have r2 := rg_oldShift h1 i.toNatClampNeg
    have hk : rK M m I (I (M + 48) i.toNatClampNeg).toNatClampNeg := ⟨i, h0, hi2, rfl⟩
    repeat refine And.intro (by grind) ?_
    refine lp_ringFits_237 hS (I := I) (p := i + 1) q1.1 (by grind) (fun J2 h5 => ?_) 0 (by decide) _ (by decide) ⟨sR_atShift (sR_atBench h1 r1) r2, rF_ui (rF_ui h2 (Or.inr (Or.inr (Or.inr (Or.inr ⟨Or.inl rfl, hk⟩))))) (Or.inr (Or.inr (Or.inr (Or.inr ⟨Or.inr rfl, hk⟩)))), fun k p1 p2 => ?_, fun k p1 p2 => ?_⟩
    · simp only [q254_272, q254_275, as_nil, as_i, as_r, Nat.reduceAdd, Nat.reduceLeDiff, z_eq0, z_eq1, z_or, z_em, Classical.not_not, not_false_eq_true, not_true_eq_false, true_and, and_true, false_and, and_false, and_self, true_implies, false_implies, implies_true, Option.toList_some, Option.toList_none, List.cons_append, List.nil_append, Nat.add_eq_zero_iff, a_nl_i, a_nl_r, a_nl_n, true_or, or_true, eq_self, ok_4, ok_5, ok_6, ok_7, ok_9, ok_10, ok_20, ok_21, ok_24, ok_30, ok_48, ok_50, ok_60, ok_80, ok_120, ok_180, ok_192, ok_200, ok_900, ok_1000, ok_84000]
      exact ih (by grind) J2 _ _ (by grind) (by grind) h5
    · have := h3 k p1 p2
      simpa [ui_ap] using this
    · by_cases hk : k = i
      · subst hk
        simp only [ui_ap, ne_MM, ne_M0, ne_0M, Nat.reduceEqDiff, reduceIte, if_true, if_false, and_self, false_and, and_false, true_and]
        exact q2
      · have hne : ¬ (I (M + 48) k.toNatClampNeg).toNatClampNeg = (I (M + 48) i.toNatClampNeg).toNatClampNeg := fun e => hk (hd k i p1 (by grind) h0 hi2 e)
        simp only [ui_ap, ne_MM, ne_M0, ne_0M, Nat.reduceEqDiff, reduceIte, if_true, if_false, and_self, false_and, and_false, true_and, hne]
        exact h4 k p1 (by grind)
theorem ct_ringFits (hS : m_S M K L R) (hR : mR M I) {m : Int32} (hm : 0 ≤ m ∧ m ≤ 5) (hq : ∀ k : Int32, 0 ≤ k → k < m → (0 ≤ I (M + 48) k.toNatClampNeg ∧ I (M + 48) k.toNatClampNeg ≤ 29) ∧ 0 ≤ I (M + 20) (I (M + 48) k.toNatClampNeg).toNatClampNeg) (hd : ∀ k l : Int32, 0 ≤ k → k < m → 0 ≤ l → l < m → (I (M + 48) k.toNatClampNeg).toNatClampNeg = (I (M + 48) l.toNatClampNeg).toNatClampNeg → k = l) (hP : ∀ v J, rQ M I J → P (some (.int v)) (n, t, K, L, J, R)) : a_does (d + 11) 254 [a_rf M, .int m] (n, t, K, L, I, R) P := by
  rw [a_enter1 (M := a_m254) rfl (a_cat_rf (a_cat_int a_cat_nil)) (show 2 ≤ 6 by decide)]
  show a_at _ (a_xm a_m254) 0 [some (a_rf M), some (.int m), none, none, none, none] [] _ _
  simp only [q254_0, q254_1, as_nil, as_i, as_r, Nat.reduceAdd, Nat.reduceLeDiff, z_eq0, z_eq1, z_or, z_em, Classical.not_not, not_false_eq_true, not_true_eq_false, true_and, and_true, false_and, and_false, and_self, true_implies, false_implies, implies_true, Option.toList_some, Option.toList_none, List.cons_append, List.nil_append, Nat.add_eq_zero_iff, a_nl_i, a_nl_r, a_nl_n, true_or, or_true, eq_self, ok_4, ok_5, ok_6, ok_7, ok_9, ok_10, ok_20, ok_21, ok_24, ok_30, ok_48, ok_50, ok_60, ok_80, ok_120, ok_180, ok_192, ok_200, ok_900, ok_1000, ok_84000]
  refine lp_ringFits_2 hS hm hq hd (fun J a o h => ?_) 0 (by decide) I _ _ (by decide) hm.1 ⟨hR, fun _ _ _ _ _ _ _ _ => rfl, fun k p1 p2 => by grind, fun k _ _ => ⟨rfl, rfl⟩⟩
  simp only [q254_97, q254_98, q254_99, q254_100, as_nil, as_i, as_r, Nat.reduceAdd, Nat.reduceLeDiff, z_eq0, z_eq1, z_or, z_em, Classical.not_not, not_false_eq_true, not_true_eq_false, true_and, and_true, false_and, and_false, and_self, true_implies, false_implies, implies_true, Option.toList_some, Option.toList_none, List.cons_append, List.nil_append, Nat.add_eq_zero_iff, a_nl_i, a_nl_r, a_nl_n, true_or, or_true, eq_self, ok_4, ok_5, ok_6, ok_7, ok_9, ok_10, ok_20, ok_21, ok_24, ok_30, ok_48, ok_50, ok_60, ok_80, ok_120, ok_180, ok_192, ok_200, ok_900, ok_1000, ok_84000]
  refine lp_ringFits_101 hS hm hq (fun J u i o hu h => ?_) 0 (by decide) J _ _ (by decide) hm.1 (Or.inr rfl) h
  simp only [q254_193, q254_194, as_nil, as_i, as_r, Nat.reduceAdd, Nat.reduceLeDiff, z_eq0, z_eq1, z_or, z_em, Classical.not_not, not_false_eq_true, not_true_eq_false, true_and, and_true, false_and, and_false, and_self, true_implies, false_implies, implies_true, Option.toList_some, Option.toList_none, List.cons_append, List.nil_append, Nat.add_eq_zero_iff, a_nl_i, a_nl_r, a_nl_n, true_or, or_true, eq_self, ok_4, ok_5, ok_6, ok_7, ok_9, ok_10, ok_20, ok_21, ok_24, ok_30, ok_48, ok_50, ok_60, ok_80, ok_120, ok_180, ok_192, ok_200, ok_900, ok_1000, ok_84000]
  refine lp_ringFits_195 hS hu hm hq hd (fun J h => ?_) 0 (by decide) J _ _ (by decide) hm.1 h
  obtain ⟨h1, h2, h3, h4⟩ := h
  refine hP u J ⟨h1, fun x j p1 p2 p3 p4 p5 => ?_⟩
  by_cases hx : (x = (M + 20) ∨ x = (M + 21)) ∧ rK M m I j
  · obtain ⟨hx, k, k0, k1, k2⟩ := hx
    subst k2
    have := h4 k k0 k1
    rcases hx with hx | hx <;> subst hx
    · exact this.1
    · exact this.2
  · exact h2 x j p1 p2 p3 p4 p5 hx
theorem mF_Q (hF : mF M c I0 I) (h : rQ M I J) : mF M c I0 J := by
  have e : ∀ x j, ¬ sC M x j → ¬ x = (M + 22) → ¬ x = (M + 49) → ¬ x = (M + 50) → ¬ x = (M + 51) → J x j = I x j := h.2
  refine ⟨⟨h.1, fun x j hx => ?_⟩, mE_eq hF.2 ?_ ?_ ?_ ?_ ?_ ?_ ?_ ?_⟩
  · rw [e x j (by unfold eC at hx; unfold sC; omega) (by unfold eC at hx; omega) (by unfold eC at hx; omega) (by unfold eC at hx; omega) (by unfold eC at hx; omega)]
    exact hF.1.2 x j hx
  all_goals intros; exact e _ _ (by unfold sC; omega) (by omega) (by omega) (by omega) (by omega)
theorem lp_mayBeNext_87 (hS : m_S M K L R) (hR : mR M I) {a i : Int32} (ha : 0 ≤ a ∧ a < 30) (hi : 0 ≤ i ∧ i ≤ 5) (hq : ∀ k : Int32, 0 ≤ k → k < i → 0 ≤ I (M + 48) k.toNatClampNeg ∧ I (M + 48) k.toNatClampNeg ≤ 29) (hP : ∀ v : Int32, (¬ v = 0 → ∀ k : Int32, 0 ≤ k → k < i → ¬ I (M + 48) k.toNatClampNeg = a) → P (some (.int v)) (n, t, K, L, I, R)) : ∀ k : Int32, k ≤ 5 → ∀ u, 0 ≤ k → k ≤ i → (u = 0 ∨ u = 1) → (¬ u = 0 → ∀ l : Int32, 0 ≤ l → l < k → ¬ I (M + 48) l.toNatClampNeg = a) → a_at d (a_xm a_m253) 87 [some (a_rf M), some (.int a), some (.int i), some (.int u), some (.int k)] [] (n, t, K, L, I, R) P := by
  refine up_ind 5 (fun k hk ih => ?_)
  intro u h0 hki hz hu
  rw [q253_87]
  simp only [q253_89, q253_90, q253_93, q253_94, q253_97, q253_98, q253_101, q253_103, q253_104, q253_105, q253_108, q253_109, q253_112, q253_113, q253_116, q253_118, q253_119, q253_120, q253_121, q253_124, q253_125, q253_126, q253_129, q253_130, q253_133, q253_134, q253_135, q253_138, q253_141, q253_142, m_0 hS, m_K hS, mR_ringAsk hS, mK_ringAsk hS, mL_ringAsk hS, mR_group hS, mK_group hS, mL_group hS, as_nil, as_i, as_r, Nat.reduceAdd, Nat.reduceLeDiff, z_eq0, z_eq1, z_or, z_em, Classical.not_not, not_false_eq_true, not_true_eq_false, true_and, and_true, false_and, and_false, and_self, true_implies, false_implies, implies_true, Option.toList_some, Option.toList_none, List.cons_append, List.nil_append, Nat.add_eq_zero_iff, a_nl_i, a_nl_r, a_nl_n, true_or, or_true, eq_self, ok_4, ok_5, ok_6, ok_7, ok_9, ok_10, ok_20, ok_21, ok_24, ok_30, ok_48, ok_50, ok_60, ok_80, ok_120, ok_180, ok_192, ok_200, ok_900, ok_1000, ok_84000]
  refine ⟨fun h => ⟨hz, hP u (fun hv l p1 p2 => hu hv l p1 (by grind))⟩, fun h => ?_⟩
  have q1 := hq k h0 (by grind)
  have g1 : ∀ J : Nat → Nat → Int32, ∀ v : Int32, (v = 0 ∨ v = 1) → (¬ v = 0 → ¬ u = 0 ∧ ¬ I (M + 48) k.toNatClampNeg = a) → a_at d (a_xm a_m253) 87 [some (a_rf M), some (.int a), some (.int i), some (.int v), some (.int (k + 1))] [] (n, t, K, L, I, R) P := fun _ v hz hv => ih (by grind) v (by grind) (by grind) hz (fun hv2 l p1 p2 => by
    have h2 := hv hv2
    by_cases hl : l = k
    · subst hl; exact h2.2
    · exact hu h2.1 l p1 (by grind))
  repeat' first
    | with_reducible apply And.intro
    | with_reducible assumption
    | with_reducible intro _
    | with_reducible apply g1 I
    | simp only [q253_89, q253_90, q253_93, q253_94, q253_97, q253_98, q253_101, q253_103, q253_104, q253_105, q253_108, q253_109, q253_112, q253_113, q253_116, q253_118, q253_119, q253_120, q253_121, q253_124, q253_125, q253_126, q253_129, q253_130, q253_133, q253_134, q253_135, q253_138, m_0 hS, m_K hS, mR_ringAsk hS, mK_ringAsk hS, mL_ringAsk hS, mR_group hS, mK_group hS, mL_group hS, as_nil, as_i, as_r, Nat.reduceAdd, Nat.reduceLeDiff, z_eq0, z_eq1, z_or, z_em, Classical.not_not, not_false_eq_true, not_true_eq_false, true_and, and_true, false_and, and_false, and_self, true_implies, false_implies, implies_true, Option.toList_some, Option.toList_none, List.cons_append, List.nil_append, Nat.add_eq_zero_iff, a_nl_i, a_nl_r, a_nl_n, true_or, or_true, eq_self, ok_4, ok_5, ok_6, ok_7, ok_9, ok_10, ok_20, ok_21, ok_24, ok_30, ok_48, ok_50, ok_60, ok_80, ok_120, ok_180, ok_192, ok_200, ok_900, ok_1000, ok_84000]
  all_goals (try clear ih); (try clear g1); (try clear hP); grind [ui_ap]
theorem ct_mayBeNext (hS : m_S M K L R) (hR : mR M I) {a i : Int32} (ha : 0 ≤ a ∧ a < 30) (hi : 0 ≤ i ∧ i ≤ 5) (hq : ∀ k : Int32, 0 ≤ k → k < i → 0 ≤ I (M + 48) k.toNatClampNeg ∧ I (M + 48) k.toNatClampNeg ≤ 29) (hP : ∀ v : Int32, (¬ v = 0 → 0 ≤ I (M + 20) a.toNatClampNeg ∧ ∀ k : Int32, 0 ≤ k → k < i → ¬ I (M + 48) k.toNatClampNeg = a) → P (some (.int v)) (n, t, K, L, I, R)) : a_does (d + 2) 253 [a_rf M, .int a, .int i] (n, t, K, L, I, R) P := by
  have q0 : ¬ i = 0 → _ := fun h => hq 0 (by decide) (by grind)
  have q1 : ¬ i = 0 → _ := fun h => hq (i - 1) (by grind) (by grind)
  rw [a_enter1 (M := a_m253) rfl (a_cat_rf (a_cat_int (a_cat_int a_cat_nil))) (show 3 ≤ 5 by decide)]
  show a_at _ (a_xm a_m253) 0 [some (a_rf M), some (.int a), some (.int i), none, none] [] _ _
  have h23 : 0 ≤ I (M + 20) a.toNatClampNeg → a_at (d + 1) (a_xm a_m253) 23 [some (a_rf M), some (.int a), some (.int i), none, none] [] (n, t, K, L, I, R) P := by
    intro hb
    have h83 : ∀ u, (u = 0 ∨ u = 1) → a_at (d + 1) (a_xm a_m253) 83 [some (a_rf M), some (.int a), some (.int i), none, none] [.int u] (n, t, K, L, I, R) P := fun u hz => by
      simp only [q253_83, q253_84, q253_85, as_nil, as_i, as_r, Nat.reduceAdd, Nat.reduceLeDiff, z_eq0, z_eq1, z_or, z_em, Classical.not_not, not_false_eq_true, not_true_eq_false, true_and, and_true, false_and, and_false, and_self, true_implies, false_implies, implies_true, Option.toList_some, Option.toList_none, List.cons_append, List.nil_append, Nat.add_eq_zero_iff, a_nl_i, a_nl_r, a_nl_n, true_or, or_true, eq_self, ok_4, ok_5, ok_6, ok_7, ok_9, ok_10, ok_20, ok_21, ok_24, ok_30, ok_48, ok_50, ok_60, ok_80, ok_120, ok_180, ok_192, ok_200, ok_900, ok_1000, ok_84000]
      exact lp_mayBeNext_87 hS hR ha hi hq (fun v hv => hP v (fun h => ⟨hb, hv h⟩)) 0 (by decide) u (by decide) hi.1 hz (fun _ l p1 p2 => by grind)
    clear hq
    repeat' first
      | with_reducible apply And.intro
      | with_reducible assumption
      | with_reducible intro _
      | with_reducible apply h83
      | simp only [q253_23, q253_24, q253_27, q253_28, q253_29, q253_32, q253_33, q253_34, q253_37, q253_38, q253_41, q253_43, q253_44, q253_47, q253_48, q253_49, q253_50, q253_51, q253_52, q253_53, q253_54, q253_55, q253_58, q253_59, q253_62, q253_63, q253_64, q253_65, q253_68, q253_69, q253_72, q253_73, q253_74, q253_75, q253_78, q253_79, q253_82, m_0 hS, m_K hS, mR_ringAsk hS, mK_ringAsk hS, mL_ringAsk hS, mR_isWish hS, mK_isWish hS, mL_isWish hS, mR_length hS, mK_length hS, mL_length hS, as_nil, as_i, as_r, Nat.reduceAdd, Nat.reduceLeDiff, z_eq0, z_eq1, z_or, z_em, Classical.not_not, not_false_eq_true, not_true_eq_false, true_and, and_true, false_and, and_false, and_self, true_implies, false_implies, implies_true, Option.toList_some, Option.toList_none, List.cons_append, List.nil_append, Nat.add_eq_zero_iff, a_nl_i, a_nl_r, a_nl_n, true_or, or_true, eq_self, ok_4, ok_5, ok_6, ok_7, ok_9, ok_10, ok_20, ok_21, ok_24, ok_30, ok_48, ok_50, ok_60, ok_80, ok_120, ok_180, ok_192, ok_200, ok_900, ok_1000, ok_84000]
    all_goals (try clear h83); (try clear hP); grind [ui_ap]
  clear hq q0 q1
  repeat' first
    | with_reducible apply And.intro
    | with_reducible assumption
    | with_reducible intro _
    | with_reducible apply hP
    | with_reducible apply h23
    | simp only [q253_0, q253_1, q253_2, q253_5, q253_8, q253_9, q253_10, q253_13, q253_14, q253_15, q253_18, q253_21, q253_22, m_0 hS, m_K hS, mR_atShift hS, mK_atShift hS, mL_atShift hS, sp_hasPlace hS, sp_isBegun hS, as_nil, as_i, as_r, Nat.reduceAdd, Nat.reduceLeDiff, z_eq0, z_eq1, z_or, z_em, Classical.not_not, not_false_eq_true, not_true_eq_false, true_and, and_true, false_and, and_false, and_self, true_implies, false_implies, implies_true, Option.toList_some, Option.toList_none, List.cons_append, List.nil_append, Nat.add_eq_zero_iff, a_nl_i, a_nl_r, a_nl_n, true_or, or_true, eq_self, ok_4, ok_5, ok_6, ok_7, ok_9, ok_10, ok_20, ok_21, ok_24, ok_30, ok_48, ok_50, ok_60, ok_80, ok_120, ok_180, ok_192, ok_200, ok_900, ok_1000, ok_84000]
  all_goals (try clear h23); (try clear hP); grind [ui_ap]
theorem mu_stay {p i : Int32} {w w' : Nat → Int32} (h0 : 0 ≤ i) (h4 : i ≤ 4) (hp : 0 ≤ p ∧ p ≤ 48) (hw : -1 ≤ w i.toNatClampNeg ∧ w i.toNatClampNeg < w' i.toNatClampNeg ∧ w' i.toNatClampNeg ≤ p) (hs : ∀ k : Nat, k < i.toNatClampNeg → w' k = w k) : mu p w' i < mu p w i := by
  have hq : (p + 1 - w' i.toNatClampNeg).toNatClampNeg < (p + 1 - w i.toNatClampNeg).toNatClampNeg := cl_lt (by grind) (by grind)
  rcases i_cases h0 h4 with h | h | h | h | h <;> subst h
  · have a1 : (p + 1 - w' 0).toNatClampNeg < (p + 1 - w 0).toNatClampNeg := hq
    simp [mu]
    omega
  · have e0 := hs 0 (by decide)
    have a1 : (p + 1 - w' 1).toNatClampNeg < (p + 1 - w 1).toNatClampNeg := hq
    simp [mu, e0]
    omega
  · have e0 := hs 0 (by decide)
    have e1 := hs 1 (by decide)
    have a1 : (p + 1 - w' 2).toNatClampNeg < (p + 1 - w 2).toNatClampNeg := hq
    simp [mu, e0, e1]
    omega
  · have e0 := hs 0 (by decide)
    have e1 := hs 1 (by decide)
    have e2 := hs 2 (by decide)
    have a1 : (p + 1 - w' 3).toNatClampNeg < (p + 1 - w 3).toNatClampNeg := hq
    simp [mu, e0, e1, e2]
    omega
  · have e0 := hs 0 (by decide)
    have e1 := hs 1 (by decide)
    have e2 := hs 2 (by decide)
    have e3 := hs 3 (by decide)
    have a1 : (p + 1 - w' 4).toNatClampNeg < (p + 1 - w 4).toNatClampNeg := hq
    simp [mu, e0, e1, e2, e3]
    omega
/-- the ring so far -/
def fI (M c : Nat) (I0 : Nat → Nat → Int32) (A : Int32) (J : Nat → Nat → Int32) (i : Int32) : Prop := mF M c I0 J ∧ J M 17 = A ∧ (∀ k : Int32, 0 ≤ k → k < i → (0 ≤ J (M + 48) k.toNatClampNeg ∧ J (M + 48) k.toNatClampNeg < A) ∧ 0 ≤ J (M + 20) (J (M + 48) k.toNatClampNeg).toNatClampNeg) ∧ (∀ k l : Int32, 0 ≤ k → k < l → l < i → ¬ J (M + 48) k.toNatClampNeg = J (M + 48) l.toNatClampNeg)
/-- what the swapping keeps -/
def sW (M c : Nat) (I0 : Nat → Nat → Int32) (m : Int32) (J : Nat → Nat → Int32) (p : Int32) : Prop := mF M c I0 J ∧ J M 74 = m ∧ (∀ k : Int32, 0 ≤ k → k < m → 0 ≤ J (M + 48) k.toNatClampNeg ∧ J (M + 48) k.toNatClampNeg ≤ 29) ∧ (∀ k : Int32, 0 ≤ k → k < p → 0 ≤ J (M + 49) k.toNatClampNeg)
end SI
end

/-! the search for the best 2 -/
section SG
variable {d n t M c : Nat} {K L : Nat → Nat} {I I0 J J0 J1 J2 J3 J4 : Nat → Nat → Int32} {R : Nat → Nat → Nat} {P : Option Value → AH → Prop}
theorem lp_findBest_166 (hS : m_S M K L R) {f e pl b i a p0 : Int32} (hf : 0 ≤ f ∧ f ≤ 199) (he : e ≤ 199) (ha : 0 ≤ a ∧ a < 30) (hpl : 0 ≤ pl ∧ pl ≤ 48) (hb0 : J0 M 6 = 0 → pl = 0) (hp0 : 0 ≤ p0) (hN : ∀ J p fd s, mC M J0 J → p0 ≤ p → p ≤ 49 → (p < pl → f + p / J0 M 6 ≤ 200) → a_at (d + 10) (a_xm a_m243) 264 [some (a_rf M), some (.int f), some (.int e), some (.int pl), some (.int b), some (.int i), some (.int a), some (.int p), some (.int fd), s] [] (n, t, K, L, J, R) P) : ∀ p : Int32, p ≤ 49 → ∀ J s, p0 ≤ p → mC M J0 J → a_at (d + 10) (a_xm a_m243) 166 [some (a_rf M), some (.int f), some (.int e), some (.int pl), some (.int b), some (.int i), some (.int a), some (.int p), some (.int 0), s] [] (n, t, K, L, J, R) P := by
  refine up_ind 49 (fun p hp ih => ?_)
  intro J s h0 hC
  have g0 := rg_benches hC.1
  have e1 := eS_benches hC
  have hN' : ∀ J2 p2 fd s, mC M J0 J2 → p0 ≤ p2 → p2 ≤ 49 → (p2 < pl → f + p2 / J M 6 ≤ 200) → a_at (d + 10) (a_xm a_m243) 264 [some (a_rf M), some (.int f), some (.int e), some (.int pl), some (.int b), some (.int i), some (.int a), some (.int p2), some (.int fd), s] [] (n, t, K, L, J2, R) P := fun J2 p2 fd s q1 q2 q3 q4 => hN J2 p2 fd s q1 q2 q3 (by rw [← e1]; exact q4)
  have hX : ∀ J2 s, mC M J0 J2 → p ≤ pl → (p < pl → f + p / J M 6 ≤ 200) → a_at (d + 10) (a_xm a_m243) 166 [some (a_rf M), some (.int f), some (.int e), some (.int pl), some (.int b), some (.int i), some (.int a), some (.int p), some (.int 1), s] [] (n, t, K, L, J2, R) P := by
    intro J2 s hC2 hp hsp
    rw [q243_166]
    simp only [q243_168, q243_169, q243_172, q243_174, as_nil, as_i, as_r, Nat.reduceAdd, Nat.reduceLeDiff, z_eq0, z_eq1, z_or, z_em, Classical.not_not, not_false_eq_true, not_true_eq_false, true_and, and_true, false_and, and_false, and_self, true_implies, false_implies, implies_true, Option.toList_some, Option.toList_none, List.cons_append, List.nil_append, Nat.add_eq_zero_iff, a_nl_i, a_nl_r, a_nl_n, true_or, or_true, eq_self, ok_4, ok_5, ok_6, ok_7, ok_9, ok_10, ok_20, ok_21, ok_24, ok_30, ok_48, ok_50, ok_60, ok_80, ok_120, ok_180, ok_192, ok_200, ok_900, ok_1000, ok_84000]
    refine ⟨fun h => hN' J2 p 1 s hC2 h0 (by grind) hsp, fun h => ⟨fun h1 => hN' J2 p 1 s hC2 h0 (by grind) hsp, fun h1 => absurd h1 (by decide)⟩⟩
  have g3 := rg_length hC.1 a.toNatClampNeg
  have g4 : ∀ J', mC M J0 J' → J' (M + 10) a.toNatClampNeg = J (M + 10) a.toNatClampNeg := fun J' h => (eS_length h _).trans (eS_length hC _).symm
  have g1 : ¬ J M 6 = 0 → _ := fun h => div_rng (x := p) (k := J M 6) (by grind) (by grind)
  have hfit : p ≤ 48 → ¬ J M 6 = 0 → ∀ Q, (∀ v J', mC M J0 J' → Q (some (.int v)) (n, t, K, L, J', R)) → a_does (d + 10) 221 [a_rf M, .int a, .int (p - p / J M 6 * J M 6), .int (f + p / J M 6)] (n, t, K, L, J, R) Q := fun q1 q2 Q hQ => by
    have g5 := g1 q2
    have g2 := rem_rng (x := p) (k := J M 6) (by grind) (by grind) (by grind) (by grind)
    generalize p - p / J M 6 * J M 6 = y at g2
    exact ct_fitOf hS hC ha (by grind) (by grind) hQ
  rw [q243_166]
  repeat' first
    | with_reducible apply And.intro
    | with_reducible assumption
    | with_reducible intro _
    | with_reducible apply ih
    | with_reducible apply hX
    | with_reducible apply hfit
    | with_reducible apply hN'
    | simp only [q243_168, q243_169, q243_172, q243_174, q243_177, q243_178, q243_181, q243_184, q243_185, q243_188, q243_189, q243_191, q243_192, q243_195, q243_196, q243_197, q243_199, q243_201, q243_202, q243_205, q243_207, q243_208, q243_211, q243_213, q243_214, q243_215, q243_216, q243_217, q243_218, q243_221, q243_222, q243_224, q243_226, q243_227, q243_230, q243_231, q243_233, q243_236, q243_239, q243_240, q243_243, q243_244, q243_246, q243_248, q243_250, q243_253, q243_254, q243_257, q243_258, q243_259, q243_261, m_0 hS, m_K hS, mR_length hS, mK_length hS, mL_length hS, as_nil, as_i, as_r, Nat.reduceAdd, Nat.reduceLeDiff, z_eq0, z_eq1, z_or, z_em, Classical.not_not, not_false_eq_true, not_true_eq_false, true_and, and_true, false_and, and_false, and_self, true_implies, false_implies, implies_true, Option.toList_some, Option.toList_none, List.cons_append, List.nil_append, Nat.add_eq_zero_iff, a_nl_i, a_nl_r, a_nl_n, true_or, or_true, eq_self, ok_4, ok_5, ok_6, ok_7, ok_9, ok_10, ok_20, ok_21, ok_24, ok_30, ok_48, ok_50, ok_60, ok_80, ok_120, ok_180, ok_192, ok_200, ok_900, ok_1000, ok_84000, Int32.add_zero]
  all_goals (try clear ih); (try clear hN); (try clear hX); (try clear hfit); (try clear hN'); (try simp only [g4 _ (by assumption)] at *); (try generalize p / J M 6 = q at *); grind [ui_ap]
theorem nat_i {k : Nat} {i : Int32} (h0 : 0 ≤ i) (h4 : i < 4) (hk : k < i.toNatClampNeg) : (Int32.ofNat k).toNatClampNeg = k ∧ 0 ≤ Int32.ofNat k ∧ Int32.ofNat k < i := by
  have h30 : i.toNatClampNeg < 4 := (show i.toNatClampNeg < (4 : Int32).toNatClampNeg from cl_lt h0 h4)
  have hc : k = 0 ∨ k = 1 ∨ k = 2 := by omega
  have hk2 : (Int32.ofNat k).toNatClampNeg = k := by rcases hc with h | h | h <;> subst h <;> decide
  have hz : (0 : Int32) ≤ Int32.ofNat k := by rcases hc with h | h | h <;> subst h <;> decide
  refine ⟨hk2, hz, ?_⟩
  apply Int32.not_le.mp
  intro hle
  have : i.toNatClampNeg ≤ (Int32.ofNat k).toNatClampNeg := by
    by_cases hq : i = Int32.ofNat k
    · rw [hq]; exact Nat.le_refl _
    · exact Nat.le_of_lt (cl_lt h0 (by grind))
  omega
end SG

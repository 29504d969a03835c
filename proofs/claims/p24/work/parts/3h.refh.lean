def pn : Nat → Nat → Nat
  | 0, _ => 0
  | k + 1, w => w % 2 + pn k (w / 2)
theorem pn_0 : ∀ k, pn k 0 = 0 := by
  intro k
  induction k with
  | zero => rfl
  | succ k ih => simp [pn, ih]
theorem pn_step : ∀ (k w : Nat), pn (k + 1) w = pn k w + (w / 2 ^ k) % 2 := by
  intro k
  induction k with
  | zero => intro w; simp [pn]
  | succ k ih =>
    intro w
    have h1 := ih (w / 2)
    show w % 2 + pn (k + 1) (w / 2) = (w % 2 + pn k (w / 2)) + _
    rw [h1, Nat.div_div_eq_div_mul, Nat.pow_succ, Nat.mul_comm 2 (2 ^ k)]
    omega
theorem pn_le : ∀ (k l w : Nat), k ≤ l → pn k w ≤ pn l w := by
  intro k l w h
  induction h with
  | refl => exact Nat.le_refl _
  | step h ih => rw [pn_step]; omega
theorem bit_at (s : Int32) (h0 : 0 ≤ s) : ∀ k : Nat, k < 30 → ∀ i : Int32, i.toInt = k → ((s >>> (i &&& 31)) &&& 1).toInt = ((s.toInt.toNat / 2 ^ k % 2 : Nat) : Int) := by
  intro k hk i hi
  have h1 := Int32.le_iff_toInt_le.mp h0
  simp at h1
  have hn : s.toInt = (s.toInt.toNat : Int) := by omega
  have e1 : (i &&& 31) = i := by
    have : ∀ k : Fin 30, (Int32.ofInt k.val &&& 31) = Int32.ofInt k.val := by decide
    have hk2 : i = Int32.ofInt k := by rw [← hi, Int32.ofInt_toInt]
    rw [hk2]; exact this ⟨k, hk⟩
  rw [e1]
  have e2 : (s >>> i).toInt = s.toInt / (2 ^ k : Nat) := by
    rw [← Int32.toInt_toBitVec, Int32.toBitVec_shiftRight, BitVec.sshiftRight', BitVec.toInt_sshiftRight, Int.shiftRight_eq_div_pow]
    have : (i.toBitVec.smod 32).toNat = k := by
      have : ∀ k : Fin 30, ((Int32.ofInt k.val).toBitVec.smod 32).toNat = k.val := by decide
      have hk2 : i = Int32.ofInt k := by rw [← hi, Int32.ofInt_toInt]
      rw [hk2]; exact this ⟨k, hk⟩
    rw [this]
    rfl
  have e3 : 0 ≤ (s >>> i).toInt := by rw [e2]; exact Int.ediv_nonneg h1 (Int.natCast_nonneg _)
  have e4 : ((s >>> i) &&& 1).toInt = (s >>> i).toInt % 2 := by
    generalize s >>> i = y at e3
    have h3 : y.toBitVec.toInt = (y.toBitVec.toNat : Int) := by
      rw [BitVec.toInt_eq_toNat_cond]
      split
      · rfl
      · rename_i hx
        rw [← Int32.toInt_toBitVec, BitVec.toInt_eq_toNat_cond] at e3
        split at e3 <;> omega
    have h4 : (y &&& 1).toBitVec.toNat = y.toBitVec.toNat % 2 := by
      rw [Int32.toBitVec_and, BitVec.toNat_and]
      exact Nat.and_one_is_mod _
    have h5 : (y &&& 1).toInt = ((y &&& 1).toBitVec.toNat : Int) := by
      rw [← Int32.toInt_toBitVec, BitVec.toInt_eq_toNat_cond, if_pos (by omega)]
    rw [h5, h4, ← Int32.toInt_toBitVec y, h3]
    omega
  rw [e4, e2]
  generalize s.toInt = z at h1 hn
  obtain ⟨w, rfl⟩ := Int.eq_ofNat_of_zero_le h1
  simp

/-! the best, the public method -/
section SH
variable {d n t M c : Nat} {K L : Nat → Nat} {I I0 J J0 J1 J2 : Nat → Nat → Int32} {R : Nat → Nat → Nat} {P : Option Value → AH → Prop}
theorem rem_two {x : Int32} (h : 0 ≤ x) : (x - x / 2 * 2).toInt = x.toInt % 2 := by
  have h1 := ti_div h (show (0 : Int32) < 2 by decide)
  have h2 := Int32.le_iff_toInt_le.mp h
  simp at h2
  have h3 := Int32.toInt_lt x
  have m1 : (x / 2 * 2).toInt = x.toInt / 2 * 2 := by
    rw [Int32.toInt_mul, h1, show (2 : Int32).toInt = 2 from rfl]
    simp [Int.bmod_def]
    omega
  rw [Int32.toInt_sub, m1]
  simp [Int.bmod_def]
  omega
theorem lp_ones_4b {s : Int32} {h : AH} : ∀ f : Nat, ∀ b c : Int32, f ≤ 31 → 0 ≤ b → b.toInt < 2 ^ f → 0 ≤ c → c.toInt + f ≤ 31 → (∀ v : Int32, v.toInt = c.toInt + (pn f b.toInt.toNat : Nat) → P (some (.int v)) h) → a_at d (a_xm a_m226) 4 [some (.int s), some (.int c), some (.int b)] [] h P := by
  intro f
  induction f with
  | zero =>
    intro b c h1 h2 h3 h4 h5 hP
    have h6 := Int32.le_iff_toInt_le.mp h2
    simp at h6 h3
    have hb : ¬ 0 < b := by rw [Int32.lt_iff_toInt_lt]; simp; omega
    rw [q226_4]
    simp only [q226_0, q226_1, q226_2, q226_3, q226_5, q226_8, q226_9, q226_10, q226_11, q226_12, q226_13, q226_14, q226_15, q226_16, q226_17, q226_18, q226_21, q226_22, as_nil, as_i, as_r, Nat.reduceAdd, Nat.reduceLeDiff, z_eq0, z_eq1, z_or, z_em, Classical.not_not, not_false_eq_true, not_true_eq_false, true_and, and_true, false_and, and_false, and_self, true_implies, false_implies, implies_true, Option.toList_some, Option.toList_none, List.cons_append, List.nil_append, Nat.add_eq_zero_iff, a_nl_i, a_nl_r, a_nl_n, true_or, or_true, eq_self, ok_4, ok_5, ok_6, ok_7, ok_9, ok_10, ok_20, ok_21, ok_24, ok_30, ok_48, ok_50, ok_60, ok_80, ok_120, ok_180, ok_192, ok_200, ok_900, ok_1000, ok_84000]
    refine ⟨fun _ => hP c (by simp [pn]), fun h => absurd h (by grind)⟩
  | succ f ih =>
    intro b c h1 h2 h3 h4 h5 hP
    have h6 := Int32.le_iff_toInt_le.mp h2
    have h7 := Int32.le_iff_toInt_le.mp h4
    simp at h6 h7
    rw [q226_4]
    simp only [q226_0, q226_1, q226_2, q226_3, q226_5, q226_8, q226_9, q226_10, q226_11, q226_12, q226_13, q226_14, q226_15, q226_16, q226_17, q226_18, q226_21, q226_22, as_nil, as_i, as_r, Nat.reduceAdd, Nat.reduceLeDiff, z_eq0, z_eq1, z_or, z_em, Classical.not_not, not_false_eq_true, not_true_eq_false, true_and, and_true, false_and, and_false, and_self, true_implies, false_implies, implies_true, Option.toList_some, Option.toList_none, List.cons_append, List.nil_append, Nat.add_eq_zero_iff, a_nl_i, a_nl_r, a_nl_n, true_or, or_true, eq_self, ok_4, ok_5, ok_6, ok_7, ok_9, ok_10, ok_20, ok_21, ok_24, ok_30, ok_48, ok_50, ok_60, ok_80, ok_120, ok_180, ok_192, ok_200, ok_900, ok_1000, ok_84000]
    refine ⟨fun h => hP c ?_, fun h => ?_⟩
    · have hb : b = 0 := by grind
      subst hb
      rw [show (0 : Int32).toInt.toNat = 0 from rfl, pn_0]
      simp
    · have e1 := rem_two h2
      have e2 := ti_div h2 (show (0 : Int32) < 2 by decide)
      have e3 : (c + (b - b / 2 * 2)).toInt = c.toInt + b.toInt % 2 := by
        rw [Int32.toInt_add, e1]
        simp [Int.bmod_def]
        omega
      have e4 : (2 : Int32).toInt = 2 := rfl
      have e5 := div_half (b := b) (by grind)
      rw [e4] at e2
      refine ⟨by decide, by decide, ih (b / 2) (c + (b - b / 2 * 2)) (by omega) e5.1 (by rw [e2]; rw [Int.pow_succ] at h3; omega) (by rw [Int32.le_iff_toInt_le, e3]; simp; omega) (by rw [e3]; omega) (fun v hv => hP v ?_)⟩
      rw [hv, e3, e2]
      show _ = c.toInt + ((b.toInt.toNat % 2 + pn f (b.toInt.toNat / 2) : Nat) : Int)
      rw [show (b.toInt / 2).toNat = b.toInt.toNat / 2 by omega]
      omega
theorem ct_onesB {s : Int32} {h : AH} (h0 : 0 ≤ s) (hP : ∀ v : Int32, v.toInt = (pn 31 s.toInt.toNat : Nat) → P (some (.int v)) h) : a_does (d + 1) 226 [.int s] h P := by
  rw [a_enter1 (M := a_m226) rfl (a_cat_int a_cat_nil) (show 1 ≤ 3 by decide)]
  show a_at _ (a_xm a_m226) 0 [some (.int s), none, none] [] _ _
  simp only [q226_0, q226_1, q226_2, q226_3, as_nil, as_i, as_r, Nat.reduceAdd, Nat.reduceLeDiff, z_eq0, z_eq1, z_or, z_em, Classical.not_not, not_false_eq_true, not_true_eq_false, true_and, and_true, false_and, and_false, and_self, true_implies, false_implies, implies_true, Option.toList_some, Option.toList_none, List.cons_append, List.nil_append, Nat.add_eq_zero_iff, a_nl_i, a_nl_r, a_nl_n, true_or, or_true, eq_self, ok_4, ok_5, ok_6, ok_7, ok_9, ok_10, ok_20, ok_21, ok_24, ok_30, ok_48, ok_50, ok_60, ok_80, ok_120, ok_180, ok_192, ok_200, ok_900, ok_1000, ok_84000]
  refine lp_ones_4b 31 s 0 (Nat.le_refl _) h0 (Int32.toInt_lt s) (by decide) (by decide) (fun v hv => hP v ?_)
  rw [hv]
  simp
theorem ti_up {x : Int32} {p : Nat} (h : x.toInt = p) (hp : p ≤ 100) : (x + 1).toInt = ((p + 1 : Nat) : Int) := by
  rw [Int32.toInt_add, h, show (1 : Int32).toInt = 1 from rfl]
  simp [Int.bmod_def]
  omega
/-- no more of the row of events, and the few have no place -/
theorem mE_fw (h : mE M c I) (hb : bF M I J) (hu : ∀ j, fw M I j → ¬ 0 ≤ J (M + 20) j) : mE M c J := by
  obtain ⟨g, q1, q2⟩ := h
  have e1 : J M 35 = I M 35 := hb _ _ (by unfold sC; omega) (by omega) (by omega) (by omega) (by omega) (by omega)
  have e2 : ∀ j, J (M + 24) j = I (M + 24) j := fun j => hb _ _ (by unfold sC; omega) (by omega) (by omega) (by omega) (by omega) (by omega)
  have e3 : ∀ j, J (M + 25) j = I (M + 25) j := fun j => hb _ _ (by unfold sC; omega) (by omega) (by omega) (by omega) (by omega) (by omega)
  have e4 : J M 0 = I M 0 := hb _ _ (by unfold sC; omega) (by omega) (by omega) (by omega) (by omega) (by omega)
  have e5 : J M 17 = I M 17 := hb _ _ (by unfold sC; omega) (by omega) (by omega) (by omega) (by omega) (by omega)
  have e6 : ∀ j, J (M + 10) j = I (M + 10) j := fun j => hb _ _ (by unfold sC; omega) (by omega) (by omega) (by omega) (by omega) (by omega)
  refine ⟨g, ?_, by rw [e1]; exact q2⟩
  intro a ha hk hbn
  rw [e5] at hk
  have hnf : ¬ fw M I a.toNatClampNeg := fun q => hu _ q hbn
  have e7 : J (M + 20) a.toNatClampNeg = I (M + 20) a.toNatClampNeg := hb _ _ (by unfold sC; omega) (by omega) (by omega) (by omega) (by omega) (fun q => hnf q.2)
  have e8 : J (M + 21) a.toNatClampNeg = I (M + 21) a.toNatClampNeg := hb _ _ (by unfold sC; omega) (by omega) (by omega) (by omega) (by omega) (fun q => hnf q.2)
  rw [e7] at hbn
  cases q1 a ha hk hbn with
  | inl q => exact Or.inl (fun i i0 i1 => by rw [e6] at i1; rw [fc_eq e1 e2 e3 e4, e7, e8]; exact q i i0 i1)
  | inr q => exact Or.inr q
def bW (M c : Nat) (I0 I J : Nat → Nat → Int32) (s k : Int32) : Prop := mF M c I0 J ∧ k ≤ J M 17 ∧ (J M 66).toInt = (pn k.toNatClampNeg s.toInt.toNat : Nat) ∧ (∀ x : Int32, 0 ≤ x → x < J M 66 → J (M + 41) x.toNatClampNeg < k ∧ ¬ 0 ≤ J (M + 20) (J (M + 41) x.toNatClampNeg).toNatClampNeg) ∧ (∀ x y : Int32, 0 ≤ x → x < y → y < J M 66 → J (M + 41) x.toNatClampNeg < J (M + 41) y.toNatClampNeg)
theorem lp_best_195 (hS : m_S M K L R) {s f e a z : Int32} (hF : mF M c I0 J) (hfm : J M 66 ≤ 4) (hP : ∀ v, P (some (.int v)) (n, t, K, L, J, R)) : ∀ i : Int32, i ≤ 4 → ∀ y u, 0 ≤ i → a_at (d + 11) (a_xm a_m242) 195 [some (a_rf M), some (.int f), some (.int e), some (.int s), some (.int a), some (.int z), some (.int y), some (.int i), u] [] (n, t, K, L, J, R) P := by
  refine up_ind 4 (fun i hi ih => ?_)
  intro y u h0
  have g1 := rg_benches hF.1.1
  have g2 := rg_bestWay hF.1.1 i.toNatClampNeg
  have g3 : J M 6 = 0 → (e - f + 1) * J M 6 = 0 := fun h => by rw [h]; exact Int32.mul_zero
  rw [q242_195]
  repeat' first
    | with_reducible apply And.intro
    | with_reducible assumption
    | with_reducible intro _
    | with_reducible apply ih
    | with_reducible apply hP
    | simp only [q242_197, q242_198, q242_201, q242_204, q242_205, q242_208, q242_210, q242_211, q242_213, q242_216, q242_217, q242_220, q242_222, q242_223, q242_224, q242_225, q242_226, q242_227, q242_228, q242_229, q242_232, q242_233, q242_236, q242_237, q242_240, q242_241, q242_243, q242_245, q242_248, q242_250, q242_251, q242_252, q242_255, q242_257, q242_258, q242_259, q242_262, q242_263, q242_264, q242_265, q242_266, q242_269, q242_271, q242_272, q242_273, q242_276, q242_277, q242_278, q242_281, q242_283, q242_285, q242_288, q242_291, q242_293, m_0 hS, m_K hS, mR_few hS, mK_few hS, mL_few hS, mR_bestWay hS, mK_bestWay hS, mL_bestWay hS, as_nil, as_i, as_r, Nat.reduceAdd, Nat.reduceLeDiff, z_eq0, z_eq1, z_or, z_em, Classical.not_not, not_false_eq_true, not_true_eq_false, true_and, and_true, false_and, and_false, and_self, true_implies, false_implies, implies_true, Option.toList_some, Option.toList_none, List.cons_append, List.nil_append, Nat.add_eq_zero_iff, a_nl_i, a_nl_r, a_nl_n, true_or, or_true, eq_self, ok_4, ok_5, ok_6, ok_7, ok_9, ok_10, ok_20, ok_21, ok_24, ok_30, ok_48, ok_50, ok_60, ok_80, ok_120, ok_180, ok_192, ok_200, ok_900, ok_1000, ok_84000]
  all_goals grind [ui_ap]
end SH

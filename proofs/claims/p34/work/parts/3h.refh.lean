def pn : Nat → Nat → Nat
  | 0, _ => 0
  | k + 1, w => w % 2 + pn k (w / 2)
theorem pn_0 : ∀ k, pn k 0 = 0 := by
  intro k
  induction k with
  | zero => rfl
  | succ k ih => simp [pn, ih]
theorem pn_step : ∀ (k w : Nat), pn (k + 1) w = pn k w + (w / 2 ^ k) % 2 := by
  intro k
  induction k with
  | zero => intro w; simp [pn]
  | succ k ih =>
    intro w
    have h1 := ih (w / 2)
    show w % 2 + pn (k + 1) (w / 2) = (w % 2 + pn k (w / 2)) + _
    rw [h1, Nat.div_div_eq_div_mul, Nat.pow_succ, Nat.mul_comm 2 (2 ^ k)]
    omega
theorem pn_le : ∀ (k l w : Nat), k ≤ l → pn k w ≤ pn l w := by
  intro k l w h
  induction h with
  | refl => exact Nat.le_refl _
  | step h ih => rw [pn_step]; omega
theorem bit_at (s : Int32) (h0 : 0 ≤ s) : ∀ k : Nat, k < 30 → ∀ i : Int32, i.toInt = k → ((s >>> (i &&& 31)) &&& 1).toInt = ((s.toInt.toNat / 2 ^ k % 2 : Nat) : Int) := by
  intro k hk i hi
  have h1 := Int32.le_iff_toInt_le.mp h0
  simp at h1
  have hn : s.toInt = (s.toInt.toNat : Int) := by omega
  have e1 : (i &&& 31) = i := by
    have : ∀ k : Fin 30, (Int32.ofInt k.val &&& 31) = Int32.ofInt k.val := by decide
    have hk2 : i = Int32.ofInt k := by rw [← hi, Int32.ofInt_toInt]
    rw [hk2]; exact this ⟨k, hk⟩
  rw [e1]
  have e2 : (s >>> i).toInt = s.toInt / (2 ^ k : Nat) := by
    rw [← Int32.toInt_toBitVec, Int32.toBitVec_shiftRight, BitVec.sshiftRight', BitVec.toInt_sshiftRight, Int.shiftRight_eq_div_pow]
    have : (i.toBitVec.smod 32).toNat = k := by
      have : ∀ k : Fin 30, ((Int32.ofInt k.val).toBitVec.smod 32).toNat = k.val := by decide
      have hk2 : i = Int32.ofInt k := by rw [← hi, Int32.ofInt_toInt]
      rw [hk2]; exact this ⟨k, hk⟩
    rw [this]
    rfl
  have e3 : 0 ≤ (s >>> i).toInt := by rw [e2]; exact Int.ediv_nonneg h1 (Int.natCast_nonneg _)
  have e4 : ((s >>> i) &&& 1).toInt = (s >>> i).toInt % 2 := by
    generalize s >>> i = y at e3
    have h3 : y.toBitVec.toInt = (y.toBitVec.toNat : Int) := by
      rw [BitVec.toInt_eq_toNat_cond]
      split
      · rfl
      · rename_i hx
        rw [← Int32.toInt_toBitVec, BitVec.toInt_eq_toNat_cond] at e3
        split at e3 <;> omega
    have h4 : (y &&& 1).toBitVec.toNat = y.toBitVec.toNat % 2 := by
      rw [Int32.toBitVec_and, BitVec.toNat_and]
      exact Nat.and_one_is_mod _
    have h5 : (y &&& 1).toInt = ((y &&& 1).toBitVec.toNat : Int) := by
      rw [← Int32.toInt_toBitVec, BitVec.toInt_eq_toNat_cond, if_pos (by omega)]
    rw [h5, h4, ← Int32.toInt_toBitVec y, h3]
    omega
  rw [e4, e2]
  generalize s.toInt = z at h1 hn
  obtain ⟨w, rfl⟩ := Int.eq_ofNat_of_zero_le h1
  simp

/-! the best, the public method -/
section SH
variable {d n t M c : Nat} {K L : Nat → Nat} {I I0 J J0 J1 J2 : Nat → Nat → Int32} {R : Nat → Nat → Nat} {P : Option Value → AH → Prop}
theorem rem_two {x : Int32} (h : 0 ≤ x) : (x - x / 2 * 2).toInt = x.toInt % 2 := by
  have h1 := ti_div h (show (0 : Int32) < 2 by decide)
  have h2 := Int32.le_iff_toInt_le.mp h
  simp at h2
  have h3 := Int32.toInt_lt x
  have m1 : (x / 2 * 2).toInt = x.toInt / 2 * 2 := by
    rw [Int32.toInt_mul, h1, show (2 : Int32).toInt = 2 from rfl]
    simp [Int.bmod_def]
    omega
  rw [Int32.toInt_sub, m1]
  simp [Int.bmod_def]
  omega
theorem lp_ones_4b {s : Int32} {h : AH} : ∀ f : Nat, ∀ b c : Int32, f ≤ 31 → 0 ≤ b → b.toInt < 2 ^ f → 0 ≤ c → c.toInt + f ≤ 31 → (∀ v : Int32, v.toInt = c.toInt + (pn f b.toInt.toNat : Nat) → P (some (.int v)) h) → a_at d (a_xm a_m226) 4 [some (.int s), some (.int c), some (.int b)] [] h P := by
  intro f
  induction f with
  | zero =>
    intro b c h1 h2 h3 h4 h5 hP
    have h6 := Int32.le_iff_toInt_le.mp h2
    simp at h6 h3
    have hb : ¬ 0 < b := by rw [Int32.lt_iff_toInt_lt]; simp; omega
    rw [q226_4]
    simp only [q226_0, q226_1, q226_2, q226_3, q226_5, q226_8, q226_9, q226_10, q226_11, q226_12, q226_13, q226_14, q226_15, q226_16, q226_17, q226_18, q226_21, q226_22, as_nil, as_i, as_r, Nat.reduceAdd, Nat.reduceLeDiff, z_eq0, z_eq1, z_or, z_em, Classical.not_not, not_false_eq_true, not_true_eq_false, true_and, and_true, false_and, and_false, and_self, true_implies, false_implies, implies_true, Option.toList_some, Option.toList_none, List.cons_append, List.nil_append, Nat.add_eq_zero_iff, a_nl_i, a_nl_r, a_nl_n, true_or, or_true, eq_self, ok_4, ok_5, ok_6, ok_7, ok_9, ok_10, ok_20, ok_21, ok_24, ok_30, ok_48, ok_50, ok_60, ok_80, ok_120, ok_180, ok_192, ok_200, ok_900, ok_1000, ok_84000]
    refine ⟨fun _ => hP c (by simp [pn]), fun h => absurd h (by grind)⟩
  | succ f ih =>
    intro b c h1 h2 h3 h4 h5 hP
    have h6 := Int32.le_iff_toInt_le.mp h2
    have h7 := Int32.le_iff_toInt_le.mp h4
    simp at h6 h7
    rw [q226_4]
    simp only [q226_0, q226_1, q226_2, q226_3, q226_5, q226_8, q226_9, q226_10, q226_11, q226_12, q226_13, q226_14, q226_15, q226_16, q226_17, q226_18, q226_21, q226_22, as_nil, as_i, as_r, Nat.reduceAdd, Nat.reduceLeDiff, z_eq0, z_eq1, z_or, z_em, Classical.not_not, not_false_eq_true, not_true_eq_false, true_and, and_true, false_and, and_false, and_self, true_implies, false_implies, implies_true, Option.toList_some, Option.toList_none, List.cons_append, List.nil_append, Nat.add_eq_zero_iff, a_nl_i, a_nl_r, a_nl_n, true_or, or_true, eq_self, ok_4, ok_5, ok_6, ok_7, ok_9, ok_10, ok_20, ok_21, ok_24, ok_30, ok_48, ok_50, ok_60, ok_80, ok_120, ok_180, ok_192, ok_200, ok_900, ok_1000, ok_84000]
    refine ⟨fun h => hP c ?_, fun h => ?_⟩
    · have hb : b = 0 := by grind
      subst hb
      rw [show (0 : Int32).toInt.toNat = 0 from rfl, pn_0]
      simp
    · have e1 := rem_two h2
      have e2 := ti_div h2 (show (0 : Int32) < 2 by decide)
      have e3 : (c + (b - b / 2 * 2)).toInt = c.toInt + b.toInt % 2 := by
        rw [Int32.toInt_add, e1]
        simp [Int.bmod_def]
        omega
      have e4 : (2 : Int32).toInt = 2 := rfl
      have e5 := div_half (b := b) (by grind)
      rw [e4] at e2
      refine ⟨by decide, by decide, ih (b / 2) (c + (b - b / 2 * 2)) (by omega) e5.1 (by rw [e2]; rw [Int.pow_succ] at h3; omega) (by rw [Int32.le_iff_toInt_le, e3]; simp; omega) (by rw [e3]; omega) (fun v hv => hP v ?_)⟩
      rw [hv, e3, e2]
      show _ = c.toInt + ((b.toInt.toNat % 2 + pn f (b.toInt.toNat / 2) : Nat) : Int)
      rw [show (b.toInt / 2).toNat = b.toInt.toNat / 2 by omega]
      omega
theorem ct_onesB {s : Int32} {h : AH} (h0 : 0 ≤ s) (hP : ∀ v : Int32, v.toInt = (pn 31 s.toInt.toNat : Nat) → P (some (.int v)) h) : a_does (d + 1) 226 [.int s] h P := by
  rw [a_enter1 (M := a_m226) rfl (a_cat_int a_cat_nil) (show 1 ≤ 3 by decide)]
  show a_at _ (a_xm a_m226) 0 [some (.int s), none, none] [] _ _
  simp only [q226_0, q226_1, q226_2, q226_3, as_nil, as_i, as_r, Nat.reduceAdd, Nat.reduceLeDiff, z_eq0, z_eq1, z_or, z_em, Classical.not_not, not_false_eq_true, not_true_eq_false, true_and, and_true, false_and, and_false, and_self, true_implies, false_implies, implies_true, Option.toList_some, Option.toList_none, List.cons_append, List.nil_append, Nat.add_eq_zero_iff, a_nl_i, a_nl_r, a_nl_n, true_or, or_true, eq_self, ok_4, ok_5, ok_6, ok_7, ok_9, ok_10, ok_20, ok_21, ok_24, ok_30, ok_48, ok_50, ok_60, ok_80, ok_120, ok_180, ok_192, ok_200, ok_900, ok_1000, ok_84000]
  refine lp_ones_4b 31 s 0 (Nat.le_refl _) h0 (Int32.toInt_lt s) (by decide) (by decide) (fun v hv => hP v ?_)
  rw [hv]
  simp
theorem ti_up {x : Int32} {p : Nat} (h : x.toInt = p) (hp : p ≤ 100) : (x + 1).toInt = ((p + 1 : Nat) : Int) := by
  rw [Int32.toInt_add, h, show (1 : Int32).toInt = 1 from rfl]
  simp [Int.bmod_def]
  omega
/-- no more of the row of events, and the few have no place -/
theorem mE_fw (h : mE M c I) (hb : bF M I J) (hu : ∀ j, fw M I j → ¬ 0 ≤ J (M + 20) j) : mE M c J := by
  obtain ⟨g, q1, q2⟩ := h
  have e1 : J M 35 = I M 35 := hb _ _ (by unfold sC; omega) (by omega) (by omega) (by omega) (by omega) (by omega)
  have e2 : ∀ j, J (M + 24) j = I (M + 24) j := fun j => hb _ _ (by unfold sC; omega) (by omega) (by omega) (by omega) (by omega) (by omega)
  have e3 : ∀ j, J (M + 25) j = I (M + 25) j := fun j => hb _ _ (by unfold sC; omega) (by omega) (by omega) (by omega) (by omega) (by omega)
  have e4 : J M 0 = I M 0 := hb _ _ (by unfold sC; omega) (by omega) (by omega) (by omega) (by omega) (by omega)
  have e5 : J M 17 = I M 17 := hb _ _ (by unfold sC; omega) (by omega) (by omega) (by omega) (by omega) (by omega)
  have e6 : ∀ j, J (M + 10) j = I (M + 10) j := fun j => hb _ _ (by unfold sC; omega) (by omega) (by omega) (by omega) (by omega) (by omega)
  refine ⟨g, ?_, by rw [e1]; exact q2⟩
  intro a ha hk hbn
  rw [e5] at hk
  have hnf : ¬ fw M I a.toNatClampNeg := fun q => hu _ q hbn
  have e7 : J (M + 20) a.toNatClampNeg = I (M + 20) a.toNatClampNeg := hb _ _ (by unfold sC; omega) (by omega) (by omega) (by omega) (by omega) (fun q => hnf q.2)
  have e8 : J (M + 21) a.toNatClampNeg = I (M + 21) a.toNatClampNeg := hb _ _ (by unfold sC; omega) (by omega) (by omega) (by omega) (by omega) (fun q => hnf q.2)
  rw [e7] at hbn
  cases q1 a ha hk hbn with
  | inl q => exact Or.inl (fun i i0 i1 => by rw [e6] at i1; rw [fc_eq e1 e2 e3 e4, e7, e8]; exact q i i0 i1)
  | inr q => exact Or.inr q
theorem ct_findBest (hS : m_S M K L R) (hF : mF M c I0 I) {f e : Int32} (hf : 0 ≤ f ∧ f ≤ 199) (he : e ≤ 199) (hfe : f ≤ e) (he7 : e - f ≤ 7) (hfm : 0 ≤ I M 66 ∧ I M 66 ≤ 4) (hd : ∀ k l : Int32, 0 ≤ k → k < I M 66 → 0 ≤ l → l < I M 66 → (I (M + 41) k.toNatClampNeg).toNatClampNeg = (I (M + 41) l.toNatClampNeg).toNatClampNeg → k = l) (hu : ∀ k : Int32, 0 ≤ k → k < I M 66 → ¬ 0 ≤ I (M + 20) (I (M + 41) k.toNatClampNeg).toNatClampNeg) (hP : ∀ v J, mF M c I0 J → J M 66 = I M 66 → P (some (.int v)) (n, t, K, L, J, R)) : a_does (d + 11) 243 [a_rf M, .int f, .int e] (n, t, K, L, I, R) P := by
  have hR := hF.1.1
  have g1 := rg_benches hR
  have hpl : 0 ≤ (e - f + 1) * I M 6 ∧ (e - f + 1) * I M 6 ≤ 48 ∧ (I M 6 = 0 → (e - f + 1) * I M 6 = 0) := by
    generalize I M 6 = b at g1
    have : b = 0 ∨ b = 1 ∨ b = 2 ∨ b = 3 ∨ b = 4 ∨ b = 5 ∨ b = 6 := by grind
    rcases this with h | h | h | h | h | h | h <;> subst h <;> grind
  rw [a_enter1 (M := a_m243) rfl (a_cat_rf (a_cat_int (a_cat_int a_cat_nil))) (show 3 ≤ 10 by decide)]
  show a_at _ (a_xm a_m243) 0 [some (a_rf M), some (.int f), some (.int e), none, none, none, none, none, none, none] [] _ _
  simp only [q243_0, q243_1, q243_2, q243_3, q243_4, q243_5, q243_6, q243_9, q243_10, q243_11, q243_12, q243_14, q243_15, q243_17, q243_18, q243_21, q243_22, q243_23, q243_24, q243_25, q243_28, q243_29, q243_30, m_0 hS, m_K hS, mR_sumTo hS, mK_sumTo hS, mL_sumTo hS, mR_way hS, mK_way hS, mL_way hS, as_nil, as_i, as_r, Nat.reduceAdd, Nat.reduceLeDiff, z_eq0, z_eq1, z_or, z_em, Classical.not_not, not_false_eq_true, not_true_eq_false, true_and, and_true, false_and, and_false, and_self, true_implies, false_implies, implies_true, Option.toList_some, Option.toList_none, List.cons_append, List.nil_append, Nat.add_eq_zero_iff, a_nl_i, a_nl_r, a_nl_n, true_or, or_true, eq_self, ok_4, ok_5, ok_6, ok_7, ok_9, ok_10, ok_20, ok_21, ok_24, ok_30, ok_48, ok_50, ok_60, ok_80, ok_120, ok_180, ok_192, ok_200, ok_900, ok_1000, ok_84000]
  repeat refine And.intro (by grind) ?_
  generalize (e - f + 1) * I M 6 = pl at hpl
  have hb0 : bF M I (a_ui (a_ui I (M + 43) (Int32.toNatClampNeg 0) 0) (M + 42) (Int32.toNatClampNeg 0) (-1)) := bF_ui (bF_ui bF_refl (by omega)) (by omega)
  have hr0 : mR M (a_ui (a_ui I (M + 43) (Int32.toNatClampNeg 0) 0) (M + 42) (Int32.toNatClampNeg 0) (-1)) := sR_way (sR_sumTo hR)
  have hw0 : (a_ui (a_ui I (M + 43) (Int32.toNatClampNeg 0) 0) (M + 42) (Int32.toNatClampNeg 0) (-1)) (M + 42) (Int32.toNatClampNeg 0) = -1 := by simp [ui_ap]
  have hab : ∀ j, (a_ui (a_ui I (M + 43) (Int32.toNatClampNeg 0) 0) (M + 42) (Int32.toNatClampNeg 0) (-1)) (M + 20) j = I (M + 20) j := fun j => by simp [ui_ap]
  refine lp_findBest_31 hS (I := I) hf he ⟨hpl.1, hpl.2.1⟩ hpl.2.2 hfm hd (fun v J hb => ?_) _ _ _ _ _ _ _ _ (Nat.lt_succ_self _) ⟨by decide, hfm.1⟩ ⟨hr0, hb0, fun k p1 p2 p3 => ?_, fun k p1 p2 => ?_, fun k p1 p2 => ?_⟩
  · obtain ⟨b1, b2, b3, b4, b5⟩ := hb
    refine hP v J ⟨⟨b1, fun x j hx => ?_⟩, mE_fw hF.2 b2 (fun j ⟨k, p1, p2, p3⟩ p4 => ?_)⟩ (bF_fewMany b2)
    · rw [b2 x j (by unfold eC at hx; unfold sC; omega) (by unfold eC at hx; omega) (by unfold eC at hx; omega) (by unfold eC at hx; omega) (by unfold eC at hx; omega) (by unfold eC at hx; omega)]
      exact hF.1.2 x j hx
    · subst p3
      have := (b3 k p1 p2 p4).1
      grind
  · rw [hab] at p3; exact absurd p3 (hu k p1 p2)
  · have : k = 0 := by grind
    subst this
    rw [hw0]
    exact ⟨by decide, by grind⟩
  · grind
def bW (M c : Nat) (I0 I J : Nat → Nat → Int32) (s k : Int32) : Prop := mF M c I0 J ∧ k ≤ J M 17 ∧ (J M 66).toInt = (pn k.toNatClampNeg s.toInt.toNat : Nat) ∧ (∀ x : Int32, 0 ≤ x → x < J M 66 → J (M + 41) x.toNatClampNeg < k ∧ ¬ 0 ≤ J (M + 20) (J (M + 41) x.toNatClampNeg).toNatClampNeg) ∧ (∀ x y : Int32, 0 ≤ x → x < y → y < J M 66 → J (M + 41) x.toNatClampNeg < J (M + 41) y.toNatClampNeg)
theorem lp_best_99 (hS : m_S M K L R) {s f e a : Int32} (hs : 0 ≤ s) (h4 : pn 31 s.toInt.toNat ≤ 4) (hX : ∀ v J, mF M c I0 J → P (some (.int v)) (n, t, K, L, J, R)) (hN : ∀ J k, bW M c I0 I J s k → J M 66 ≤ 4 → a_at (d + 11) (a_xm a_m242) 171 [some (a_rf M), some (.int f), some (.int e), some (.int s), some (.int a), some (.int k), none, none, none] [] (n, t, K, L, J, R) P) : ∀ k : Int32, k ≤ 30 → ∀ J, 0 ≤ k → bW M c I0 I J s k → a_at (d + 11) (a_xm a_m242) 99 [some (a_rf M), some (.int f), some (.int e), some (.int s), some (.int a), some (.int k), none, none, none] [] (n, t, K, L, J, R) P := by
  refine up_ind 30 (fun k hk ih => ?_)
  intro J h0 hw
  obtain ⟨w1, w2, w3, w4, w5⟩ := id hw
  have hR := w1.1.1
  have g1 := rg_asks hR
  have k30 : k.toInt.toNat ≤ 30 := by
    have h1 := Int32.le_iff_toInt_le.mp h0
    have h2 := Int32.le_iff_toInt_le.mp hk
    simp at h1 h2
    omega
  have hp1 := pn_le k.toNatClampNeg 31 s.toInt.toNat (by show k.toInt.toNat ≤ 31; omega)
  have hf4 : 0 ≤ J M 66 ∧ J M 66 ≤ 4 := by
    rw [Int32.le_iff_toInt_le, Int32.le_iff_toInt_le, w3]
    have : (4 : Int32).toInt = 4 := rfl
    have : (0 : Int32).toInt = 0 := rfl
    omega
  rw [q242_99]
  simp only [q242_101, q242_102, q242_105, q242_108, q242_109, q242_111, q242_112, q242_113, q242_114, q242_115, m_0 hS, m_K hS, as_nil, as_i, as_r, Nat.reduceAdd, Nat.reduceLeDiff, z_eq0, z_eq1, z_or, z_em, Classical.not_not, not_false_eq_true, not_true_eq_false, true_and, and_true, false_and, and_false, and_self, true_implies, false_implies, implies_true, Option.toList_some, Option.toList_none, List.cons_append, List.nil_append, Nat.add_eq_zero_iff, a_nl_i, a_nl_r, a_nl_n, true_or, or_true, eq_self, ok_4, ok_5, ok_6, ok_7, ok_9, ok_10, ok_20, ok_21, ok_24, ok_30, ok_48, ok_50, ok_60, ok_80, ok_120, ok_180, ok_192, ok_200, ok_900, ok_1000, ok_84000]
  refine ⟨fun h => hN J k hw hf4.2, fun h => ?_⟩
  have hk30 : k < 30 := by grind
  have kn : k.toInt = (k.toNatClampNeg : Nat) := by
    have h1 := Int32.le_iff_toInt_le.mp h0
    simp at h1
    show k.toInt = (k.toInt.toNat : Nat)
    omega
  have kl : k.toNatClampNeg < 30 := (show k.toNatClampNeg < (30 : Int32).toNatClampNeg from cl_lt h0 hk30)
  have hbit := bit_at s hs k.toNatClampNeg kl k kn
  have hst := pn_step k.toNatClampNeg s.toInt.toNat
  have hcu := cl_up h0 (by grind)
  have hp2 := pn_le (k + 1).toNatClampNeg 31 s.toInt.toNat (by rw [hcu]; omega)
  rw [hcu] at hp2
  refine ⟨fun hb => ?_, fun hb => ?_⟩
  · have hbit2 : s.toInt.toNat / 2 ^ k.toNatClampNeg % 2 = 0 := by
      have : s.toInt.toNat / 2 ^ k.toNatClampNeg % 2 = 0 ∨ s.toInt.toNat / 2 ^ k.toNatClampNeg % 2 = 1 := by omega
      rcases this with h | h
      · exact h
      · refine absurd (Int32.toInt_inj.mp ?_) hb
        rw [hbit, h]
        rfl
    simp only [q242_165, q242_168, as_nil, as_i, as_r, Nat.reduceAdd, Nat.reduceLeDiff, z_eq0, z_eq1, z_or, z_em, Classical.not_not, not_false_eq_true, not_true_eq_false, true_and, and_true, false_and, and_false, and_self, true_implies, false_implies, implies_true, Option.toList_some, Option.toList_none, List.cons_append, List.nil_append, Nat.add_eq_zero_iff, a_nl_i, a_nl_r, a_nl_n, true_or, or_true, eq_self, ok_4, ok_5, ok_6, ok_7, ok_9, ok_10, ok_20, ok_21, ok_24, ok_30, ok_48, ok_50, ok_60, ok_80, ok_120, ok_180, ok_192, ok_200, ok_900, ok_1000, ok_84000]
    refine ih (by grind) J (by grind) ⟨w1, by grind, ?_, fun x p1 p2 => ?_, w5⟩
    · rw [hcu, hst, hbit2, w3]
      simp
    · have := w4 x p1 p2
      exact ⟨by grind, this.2⟩
  · simp only [q242_118, q242_119, q242_121, q242_124, q242_127, q242_128, q242_131, q242_133, q242_134, q242_137, q242_138, q242_140, q242_143, q242_144, q242_145, q242_148, q242_149, q242_152, q242_154, q242_155, q242_156, q242_157, q242_160, q242_161, q242_162, q242_165, q242_168, m_0 hS, m_K hS, mR_isGone hS, mK_isGone hS, mL_isGone hS, mR_few hS, mK_few hS, mL_few hS, sp_hasPlace hS, sp_refuse_1 hS, sp_refuse_2 hS, sp_refuse_3 hS, sp_refuse_4 hS, sp_refuse_5 hS, sp_refuse_6 hS, as_nil, as_i, as_r, Nat.reduceAdd, Nat.reduceLeDiff, z_eq0, z_eq1, z_or, z_em, Classical.not_not, not_false_eq_true, not_true_eq_false, true_and, and_true, false_and, and_false, and_self, true_implies, false_implies, implies_true, Option.toList_some, Option.toList_none, List.cons_append, List.nil_append, Nat.add_eq_zero_iff, a_nl_i, a_nl_r, a_nl_n, true_or, or_true, eq_self, ok_4, ok_5, ok_6, ok_7, ok_9, ok_10, ok_20, ok_21, ok_24, ok_30, ok_48, ok_50, ok_60, ok_80, ok_120, ok_180, ok_192, ok_200, ok_900, ok_1000, ok_84000, ui_ap, ne_MM, ne_M0, ne_0M, Nat.reduceEqDiff, reduceIte, if_true, if_false]
    rw [hb] at hbit
    have hbit2 : s.toInt.toNat / 2 ^ k.toNatClampNeg % 2 = 1 := by
      have : (1 : Int32).toInt = 1 := rfl
      omega
    have hf3 : J M 66 < 4 := by
      rw [Int32.lt_iff_toInt_lt, w3]
      have : (4 : Int32).toInt = 4 := rfl
      omega
    have hnx : ¬ 0 ≤ J (M + 20) k.toNatClampNeg → bW M c I0 I (a_ui (a_ui J (M + 41) (J M 66).toNatClampNeg k) M 66 (J M 66 + 1)) s (k + 1) := by
      intro hno
      have e1 : ∀ x : Int32, 0 ≤ x → x < J M 66 → ¬ x.toNatClampNeg = (J M 66).toNatClampNeg := fun x p1 p2 p3 => by
        have := cl_inj p1 hf4.1 p3
        grind
      refine ⟨sF_fewMany (sF_few w1 (by grind)), ?_, ?_, fun x p1 p2 => ?_, fun x y p1 p2 p3 => ?_⟩
      · simp only [ui_ap, ne_MM, ne_M0, ne_0M, Nat.reduceEqDiff, reduceIte, if_true, if_false, and_self, false_and, and_false]
        grind
      · simp only [ui_ap, ne_MM, ne_M0, ne_0M, Nat.reduceEqDiff, reduceIte, if_true, if_false, and_self, false_and, and_false]
        rw [hcu, hst, hbit2]
        exact ti_up w3 (by omega)
      · simp only [ui_ap, ne_MM, ne_M0, ne_0M, Nat.reduceEqDiff, reduceIte, if_true, if_false, and_self, false_and, and_false, true_and] at p2 ⊢
        by_cases hx : x = J M 66
        · subst hx
          rw [if_pos rfl]
          exact ⟨by grind, hno⟩
        · rw [if_neg (e1 x p1 (by grind))]
          have := w4 x p1 (by grind)
          exact ⟨by grind, this.2⟩
      · simp only [ui_ap, ne_MM, ne_M0, ne_0M, Nat.reduceEqDiff, reduceIte, if_true, if_false, and_self, false_and, and_false, true_and] at p3 ⊢
        rw [if_neg (e1 x p1 (by grind))]
        by_cases hy : y = J M 66
        · subst hy
          rw [if_pos rfl]
          exact (w4 x p1 p2).1
        · rw [if_neg (e1 y (by grind) (by grind))]
          exact w5 x y p1 p2 (by grind)
    repeat' first
      | with_reducible apply And.intro
      | with_reducible assumption
      | with_reducible intro _
      | with_reducible apply hX
      | with_reducible apply sF_refused
      | with_reducible apply ih
      | with_reducible apply hnx
    all_goals grind [ui_ap]
theorem lp_best_195 (hS : m_S M K L R) {s f e a z : Int32} (hF : mF M c I0 J) (hfm : J M 66 ≤ 4) (hP : ∀ v, P (some (.int v)) (n, t, K, L, J, R)) : ∀ i : Int32, i ≤ 4 → ∀ y u, 0 ≤ i → a_at (d + 11) (a_xm a_m242) 195 [some (a_rf M), some (.int f), some (.int e), some (.int s), some (.int a), some (.int z), some (.int y), some (.int i), u] [] (n, t, K, L, J, R) P := by
  refine up_ind 4 (fun i hi ih => ?_)
  intro y u h0
  have g1 := rg_benches hF.1.1
  have g2 := rg_bestWay hF.1.1 i.toNatClampNeg
  have g3 : J M 6 = 0 → (e - f + 1) * J M 6 = 0 := fun h => by rw [h]; exact Int32.mul_zero
  rw [q242_195]
  repeat' first
    | with_reducible apply And.intro
    | with_reducible assumption
    | with_reducible intro _
    | with_reducible apply ih
    | with_reducible apply hP
    | simp only [q242_197, q242_198, q242_201, q242_204, q242_205, q242_208, q242_210, q242_211, q242_213, q242_216, q242_217, q242_220, q242_222, q242_223, q242_224, q242_225, q242_226, q242_227, q242_228, q242_229, q242_232, q242_233, q242_236, q242_237, q242_240, q242_241, q242_243, q242_245, q242_248, q242_250, q242_251, q242_252, q242_255, q242_257, q242_258, q242_259, q242_262, q242_263, q242_264, q242_265, q242_266, q242_269, q242_271, q242_272, q242_273, q242_276, q242_277, q242_278, q242_281, q242_283, q242_285, q242_288, q242_291, q242_293, m_0 hS, m_K hS, mR_few hS, mK_few hS, mL_few hS, mR_bestWay hS, mK_bestWay hS, mL_bestWay hS, as_nil, as_i, as_r, Nat.reduceAdd, Nat.reduceLeDiff, z_eq0, z_eq1, z_or, z_em, Classical.not_not, not_false_eq_true, not_true_eq_false, true_and, and_true, false_and, and_false, and_self, true_implies, false_implies, implies_true, Option.toList_some, Option.toList_none, List.cons_append, List.nil_append, Nat.add_eq_zero_iff, a_nl_i, a_nl_r, a_nl_n, true_or, or_true, eq_self, ok_4, ok_5, ok_6, ok_7, ok_9, ok_10, ok_20, ok_21, ok_24, ok_30, ok_48, ok_50, ok_60, ok_80, ok_120, ok_180, ok_192, ok_200, ok_900, ok_1000, ok_84000]
  all_goals grind [ui_ap]
theorem pu_best (hS : m_S M K L R) (hF : mF M c I0 I) (hc : c + 130 ≤ 84000) {a b s w : Int32} (hP : ∀ v J, mF M (c + 120) I0 J → P (some (.int v)) (n, t, K, L, J, R)) : a_does (d + 16) 242 [a_rf M, .int a, .int b, .int s, .int w] (n, t, K, L, I, R) P := by
  have hR := hF.1.1
  have g3 := mC_refl hR
  have hL4 : ∀ J, mF M (c + 4) I0 J → mF M (c + 120) I0 J := fun J h => mF_le h (by omega)
  have hL : ∀ J, mF M c I0 J → mF M (c + 120) I0 J := fun J h => mF_le h (by omega)
  have g1 := rg_asks hR
  rw [a_enter1 (M := a_m242) rfl (a_cat_rf (a_cat_int (a_cat_int (a_cat_int (a_cat_int a_cat_nil))))) (show 5 ≤ 9 by decide)]
  show a_at _ (a_xm a_m242) 0 [some (a_rf M), some (.int a), some (.int b), some (.int s), some (.int w), none, none, none, none] [] _ _
  have h91 : (0 ≤ a ∧ a ≤ 199) → (0 ≤ b ∧ b ≤ 199) → a ≤ b → b - a ≤ 7 → 0 ≤ s → pn 31 s.toInt.toNat ≤ 4 → a_at (d + 15) (a_xm a_m242) 91 [some (a_rf M), some (.int a), some (.int b), some (.int s), some (.int w), none, none, none, none] [] (n, t, K, L, I, R) P := by
    intro q1 q2 q3 q4 q5 q6
    simp only [q242_91, q242_92, q242_93, q242_96, q242_97, m_0 hS, m_K hS, as_nil, as_i, as_r, Nat.reduceAdd, Nat.reduceLeDiff, z_eq0, z_eq1, z_or, z_em, Classical.not_not, not_false_eq_true, not_true_eq_false, true_and, and_true, false_and, and_false, and_self, true_implies, false_implies, implies_true, Option.toList_some, Option.toList_none, List.cons_append, List.nil_append, Nat.add_eq_zero_iff, a_nl_i, a_nl_r, a_nl_n, true_or, or_true, eq_self, ok_4, ok_5, ok_6, ok_7, ok_9, ok_10, ok_20, ok_21, ok_24, ok_30, ok_48, ok_50, ok_60, ok_80, ok_120, ok_180, ok_192, ok_200, ok_900, ok_1000, ok_84000]
    refine lp_best_99 (d := d + 4) hS (I := I) (c := c) (I0 := I0) q5 q6 (fun v J h => hP v J (hL J h)) (fun J k hw h4 => ?_) 0 (by decide) _ (by decide) ⟨sF_fewMany hF, ?_, ?_, fun x p1 p2 => ?_, fun x y p1 p2 p3 => ?_⟩
    · obtain ⟨w1, w2, w3, w4, w5⟩ := hw
      have hf0 : 0 ≤ J M 66 := by
        rw [Int32.le_iff_toInt_le, w3]
        have : (0 : Int32).toInt = 0 := rfl
        omega
      simp only [q242_171, q242_172, q242_173, q242_174, m_0 hS, m_K hS, as_nil, as_i, as_r, Nat.reduceAdd, Nat.reduceLeDiff, z_eq0, z_eq1, z_or, z_em, Classical.not_not, not_false_eq_true, not_true_eq_false, true_and, and_true, false_and, and_false, and_self, true_implies, false_implies, implies_true, Option.toList_some, Option.toList_none, List.cons_append, List.nil_append, Nat.add_eq_zero_iff, a_nl_i, a_nl_r, a_nl_n, true_or, or_true, eq_self, ok_4, ok_5, ok_6, ok_7, ok_9, ok_10, ok_20, ok_21, ok_24, ok_30, ok_48, ok_50, ok_60, ok_80, ok_120, ok_180, ok_192, ok_200, ok_900, ok_1000, ok_84000]
      refine ct_findBest (d := d + 4) hS (I0 := I0) (c := c) w1 q1 q2.2 q3 q4 ⟨hf0, h4⟩ (fun k l p1 p2 p3 p4 p5 => ?_) (fun k p1 p2 => (w4 k p1 p2).2) (fun v J2 f2 e2 => ?_)
      · have r1 := rg_few w1.1.1 k.toNatClampNeg
        have r2 := rg_few w1.1.1 l.toNatClampNeg
        have r3 := cl_inj r1.1 r2.1 p5
        by_cases hkl : k < l
        · have := w5 k l p1 hkl p4; grind
        · by_cases hlk : l < k
          · have := w5 l k p3 hlk p2; grind
          · grind
      · simp only [q242_177, q242_179, q242_181, q242_182, q242_185, q242_187, q242_188, q242_190, q242_192, q242_193, as_nil, as_i, as_r, Nat.reduceAdd, Nat.reduceLeDiff, z_eq0, z_eq1, z_or, z_em, Classical.not_not, not_false_eq_true, not_true_eq_false, true_and, and_true, false_and, and_false, and_self, true_implies, false_implies, implies_true, Option.toList_some, Option.toList_none, List.cons_append, List.nil_append, Nat.add_eq_zero_iff, a_nl_i, a_nl_r, a_nl_n, true_or, or_true, eq_self, ok_4, ok_5, ok_6, ok_7, ok_9, ok_10, ok_20, ok_21, ok_24, ok_30, ok_48, ok_50, ok_60, ok_80, ok_120, ok_180, ok_192, ok_200, ok_900, ok_1000, ok_84000]
        refine ⟨fun _ => ?_, fun _ => hP v J2 (hL J2 f2)⟩
        exact lp_best_195 (d := d + 4) hS f2 (by rw [e2]; exact h4) (fun v => hP v J2 (hL J2 f2)) 0 (by decide) _ _ (by decide)
    · simp only [ui_ap, ne_MM, ne_M0, ne_0M, Nat.reduceEqDiff, reduceIte, if_true, if_false, and_self, false_and, and_false]
      exact g1.1
    · simp only [ui_ap, ne_MM, ne_M0, ne_0M, Nat.reduceEqDiff, reduceIte, if_true, if_false, and_self, false_and, and_false]
      rfl
    · simp only [ui_ap, ne_MM, ne_M0, ne_0M, Nat.reduceEqDiff, reduceIte, if_true, if_false, and_self, false_and, and_false] at p2
      grind
    · simp only [ui_ap, ne_MM, ne_M0, ne_0M, Nat.reduceEqDiff, reduceIte, if_true, if_false, and_self, false_and, and_false] at p3
      grind
  have h76 : (0 ≤ a ∧ a ≤ 199) → (0 ≤ b ∧ b ≤ 199) → a ≤ b → b - a ≤ 7 → 0 ≤ s → a_at (d + 15) (a_xm a_m242) 76 [some (a_rf M), some (.int a), some (.int b), some (.int s), some (.int w), none, none, none, none] [] (n, t, K, L, I, R) P := by
    intro q1 q2 q3 q4 q5
    simp only [q242_76, q242_77, as_nil, as_i, as_r, Nat.reduceAdd, Nat.reduceLeDiff, z_eq0, z_eq1, z_or, z_em, Classical.not_not, not_false_eq_true, not_true_eq_false, true_and, and_true, false_and, and_false, and_self, true_implies, false_implies, implies_true, Option.toList_some, Option.toList_none, List.cons_append, List.nil_append, Nat.add_eq_zero_iff, a_nl_i, a_nl_r, a_nl_n, true_or, or_true, eq_self, ok_4, ok_5, ok_6, ok_7, ok_9, ok_10, ok_20, ok_21, ok_24, ok_30, ok_48, ok_50, ok_60, ok_80, ok_120, ok_180, ok_192, ok_200, ok_900, ok_1000, ok_84000]
    refine ct_onesB q5 (fun v hv => ?_)
    simp only [q242_80, q242_81, q242_84, q242_85, q242_87, q242_90, m_0 hS, m_K hS, sp_refuse_1 hS, sp_refuse_2 hS, sp_refuse_3 hS, sp_refuse_4 hS, sp_refuse_5 hS, sp_refuse_6 hS, as_nil, as_i, as_r, Nat.reduceAdd, Nat.reduceLeDiff, z_eq0, z_eq1, z_or, z_em, Classical.not_not, not_false_eq_true, not_true_eq_false, true_and, and_true, false_and, and_false, and_self, true_implies, false_implies, implies_true, Option.toList_some, Option.toList_none, List.cons_append, List.nil_append, Nat.add_eq_zero_iff, a_nl_i, a_nl_r, a_nl_n, true_or, or_true, eq_self, ok_4, ok_5, ok_6, ok_7, ok_9, ok_10, ok_20, ok_21, ok_24, ok_30, ok_48, ok_50, ok_60, ok_80, ok_120, ok_180, ok_192, ok_200, ok_900, ok_1000, ok_84000]
    refine ⟨fun h => h91 q1 q2 q3 q4 q5 ?_, fun h => hP _ _ (hL _ (sF_refused hF))⟩
    have := Int32.le_iff_toInt_le.mp h
    have h4 : (4 : Int32).toInt = 4 := rfl
    omega
  repeat' first
    | with_reducible apply And.intro
    | with_reducible assumption
    | with_reducible intro _
    | with_reducible apply hP
    | with_reducible apply hL
    | with_reducible apply sF_refused
    | with_reducible apply h76
    | simp only [q242_0, q242_1, q242_2, q242_5, q242_8, q242_9, q242_12, q242_13, q242_14, q242_15, q242_18, q242_19, q242_22, q242_23, q242_24, q242_27, q242_28, q242_30, q242_31, q242_34, q242_35, q242_37, q242_40, q242_41, q242_43, q242_46, q242_48, q242_50, q242_53, q242_54, q242_56, q242_57, q242_58, q242_59, q242_62, q242_63, q242_64, q242_67, q242_68, q242_69, q242_70, q242_71, q242_73, q242_84, q242_85, q242_87, q242_90, m_0 hS, m_K hS, sp_isSpan, sp_refuse_1 hS, sp_refuse_2 hS, sp_refuse_3 hS, sp_refuse_4 hS, sp_refuse_5 hS, sp_refuse_6 hS, as_nil, as_i, as_r, Nat.reduceAdd, Nat.reduceLeDiff, z_eq0, z_eq1, z_or, z_em, Classical.not_not, not_false_eq_true, not_true_eq_false, true_and, and_true, false_and, and_false, and_self, true_implies, false_implies, implies_true, Option.toList_some, Option.toList_none, List.cons_append, List.nil_append, Nat.add_eq_zero_iff, a_nl_i, a_nl_r, a_nl_n, true_or, or_true, eq_self, ok_4, ok_5, ok_6, ok_7, ok_9, ok_10, ok_20, ok_21, ok_24, ok_30, ok_48, ok_50, ok_60, ok_80, ok_120, ok_180, ok_192, ok_200, ok_900, ok_1000, ok_84000]
  all_goals grind [ui_ap]
end SH

/-! the search for the best -/
section SF
variable {d n t M c : Nat} {K L : Nat → Nat} {I I0 J J0 J1 J2 : Nat → Nat → Int32} {R : Nat → Nat → Nat} {P : Option Value → AH → Prop}
theorem rem_rng {x k : Int32} (h : 0 ≤ x) (hk : 0 < k) (hx : x ≤ 1000) (hk2 : k ≤ 1000) : 0 ≤ x - x / k * k ∧ x - x / k * k < k := by
  have h1 := ti_div h hk
  have h2 := Int32.le_iff_toInt_le.mp h
  have h3 := Int32.lt_iff_toInt_lt.mp hk
  have h4 := Int32.le_iff_toInt_le.mp hx
  have h5 := Int32.le_iff_toInt_le.mp hk2
  simp at h2 h3 h4 h5
  have e1 : 0 ≤ x.toInt / k.toInt := Int.ediv_nonneg h2 (by omega)
  have e2 : x.toInt / k.toInt * k.toInt ≤ x.toInt := Int.ediv_mul_le _ (by omega)
  have e3 : 0 ≤ x.toInt / k.toInt * k.toInt := Int.mul_nonneg e1 (by omega)
  have m1 : (x / k * k).toInt = x.toInt / k.toInt * k.toInt := by
    rw [Int32.toInt_mul, h1]
    generalize x.toInt / k.toInt * k.toInt = z at e2 e3
    simp [Int.bmod_def]
    omega
  have e4 : x.toInt - x.toInt / k.toInt * k.toInt = x.toInt % k.toInt := by rw [Int.emod_def, Int.mul_comm]
  have e5 := Int.emod_nonneg x.toInt (show k.toInt ≠ 0 by omega)
  have e6 := Int.emod_lt_of_pos x.toInt (show 0 < k.toInt by omega)
  have m2 : (x - x / k * k).toInt = x.toInt % k.toInt := by
    rw [Int32.toInt_sub, m1, e4]
    generalize x.toInt % k.toInt = z at e5 e6
    simp [Int.bmod_def]
    omega
  rw [Int32.le_iff_toInt_le, Int32.lt_iff_toInt_lt, m2]
  exact ⟨by simpa using e5, e6⟩
/-- one of the few -/
def fw (M : Nat) (I : Nat → Nat → Int32) (j : Nat) : Prop := ∃ k : Int32, 0 ≤ k ∧ k < I M 66 ∧ j = (I (M + 41) k.toNatClampNeg).toNatClampNeg
def bF (M : Nat) (I J : Nat → Nat → Int32) : Prop := ∀ x j, ¬ sC M x j → ¬ x = (M + 22) → ¬ x = (M + 42) → ¬ x = (M + 43) → ¬ x = (M + 44) → ¬ ((x = (M + 20) ∨ x = (M + 21)) ∧ fw M I j) → J x j = I x j
theorem bF_refl : bF M I I := fun _ _ _ _ _ _ _ _ => rfl
theorem bF_C (h : bF M I J) (hC : mC M J J2) : bF M I J2 := fun x j h1 h2 h3 h4 h5 h6 => (hC.2 x j h1).trans (h x j h1 h2 h3 h4 h5 h6)
theorem bF_S (h : bF M I J) (hC : mS M J J2) : bF M I J2 := fun x j h1 h2 h3 h4 h5 h6 => (hC.2 x j h1 h2).trans (h x j h1 h2 h3 h4 h5 h6)
theorem bF_ui (h : bF M I J) {x k : Nat} {v : Int32} (hx : x = (M + 42) ∨ x = (M + 43) ∨ x = (M + 44) ∨ ((x = (M + 20) ∨ x = (M + 21)) ∧ fw M I k)) : bF M I (a_ui J x k v) := fun y j h1 h2 h3 h4 h5 h6 => by
  rw [ui_ap, if_neg (fun q => by
    rcases hx with hx | hx | hx | hx
    · exact h3 (q.1.trans hx)
    · exact h4 (q.1.trans hx)
    · exact h5 (q.1.trans hx)
    · exact h6 (by rw [q.1, q.2]; exact hx))]
  exact h y j h1 h2 h3 h4 h5 h6
theorem bF_few (h : bF M I J) (j : Nat) : J (M + 41) j = I (M + 41) j := h _ _ (by unfold sC; omega) (by omega) (by omega) (by omega) (by omega) (by omega)
theorem bF_fewMany (h : bF M I J) : J M 66 = I M 66 := h _ _ (by unfold sC; omega) (by omega) (by omega) (by omega) (by omega) (by omega)
theorem bF_benches (h : bF M I J) : J M 6 = I M 6 := h _ _ (by unfold sC; omega) (by omega) (by omega) (by omega) (by omega) (by omega)
/-- how far the search is from its end -/
def mu (p : Int32) (w : Nat → Int32) (i : Int32) : Nat := (if 0 ≤ i then (p + 1 - w 0).toNatClampNeg * 16777216 else 0) + (if 1 ≤ i then (p + 1 - w 1).toNatClampNeg * 262144 else 0) + (if 2 ≤ i then (p + 1 - w 2).toNatClampNeg * 4096 else 0) + (if 3 ≤ i then (p + 1 - w 3).toNatClampNeg * 64 else 0) + (if 4 ≤ i then (p + 1 - w 4).toNatClampNeg else 0)
theorem i_cases {i : Int32} (h0 : 0 ≤ i) (h4 : i ≤ 4) : i = 0 ∨ i = 1 ∨ i = 2 ∨ i = 3 ∨ i = 4 := by grind
theorem mu_back {p i : Int32} {w w' : Nat → Int32} (h0 : 0 ≤ i) (h4 : i ≤ 4) (hp : 0 ≤ p ∧ p ≤ 48) (hw : -1 ≤ w i.toNatClampNeg ∧ w i.toNatClampNeg ≤ p) (hs : ∀ k : Nat, k < i.toNatClampNeg → w' k = w k) : mu p w' (i + (-1)) < mu p w i := by
  have hq : 0 < (p + 1 - w i.toNatClampNeg).toNatClampNeg := (show (0 : Int32).toNatClampNeg < _ from cl_lt (by decide) (by grind))
  rcases i_cases h0 h4 with h | h | h | h | h <;> subst h
  · have hv : 0 < (p + 1 - w 0).toNatClampNeg := hq
    rw [show (0 : Int32) + (-1) = (-1 : Int32) by decide]
    simp only [mu, eq_true (show  ((0 : Int32) ≤ (0 : Int32)) by decide), eq_false (show ¬ ((1 : Int32) ≤ (0 : Int32)) by decide), eq_false (show ¬ ((2 : Int32) ≤ (0 : Int32)) by decide), eq_false (show ¬ ((3 : Int32) ≤ (0 : Int32)) by decide), eq_false (show ¬ ((4 : Int32) ≤ (0 : Int32)) by decide), eq_false (show ¬ ((0 : Int32) ≤ (-1 : Int32)) by decide), eq_false (show ¬ ((1 : Int32) ≤ (-1 : Int32)) by decide), eq_false (show ¬ ((2 : Int32) ≤ (-1 : Int32)) by decide), eq_false (show ¬ ((3 : Int32) ≤ (-1 : Int32)) by decide), eq_false (show ¬ ((4 : Int32) ≤ (-1 : Int32)) by decide), if_true, if_false]
    omega
  · have e0 := hs 0 (by decide)
    have hv : 0 < (p + 1 - w 1).toNatClampNeg := hq
    rw [show (1 : Int32) + (-1) = (0 : Int32) by decide]
    simp only [mu, e0, eq_true (show  ((0 : Int32) ≤ (1 : Int32)) by decide), eq_true (show  ((1 : Int32) ≤ (1 : Int32)) by decide), eq_false (show ¬ ((2 : Int32) ≤ (1 : Int32)) by decide), eq_false (show ¬ ((3 : Int32) ≤ (1 : Int32)) by decide), eq_false (show ¬ ((4 : Int32) ≤ (1 : Int32)) by decide), eq_true (show  ((0 : Int32) ≤ (0 : Int32)) by decide), eq_false (show ¬ ((1 : Int32) ≤ (0 : Int32)) by decide), eq_false (show ¬ ((2 : Int32) ≤ (0 : Int32)) by decide), eq_false (show ¬ ((3 : Int32) ≤ (0 : Int32)) by decide), eq_false (show ¬ ((4 : Int32) ≤ (0 : Int32)) by decide), if_true, if_false]
    omega
  · have e0 := hs 0 (by decide)
    have e1 := hs 1 (by decide)
    have hv : 0 < (p + 1 - w 2).toNatClampNeg := hq
    rw [show (2 : Int32) + (-1) = (1 : Int32) by decide]
    simp only [mu, e0, e1, eq_true (show  ((0 : Int32) ≤ (2 : Int32)) by decide), eq_true (show  ((1 : Int32) ≤ (2 : Int32)) by decide), eq_true (show  ((2 : Int32) ≤ (2 : Int32)) by decide), eq_false (show ¬ ((3 : Int32) ≤ (2 : Int32)) by decide), eq_false (show ¬ ((4 : Int32) ≤ (2 : Int32)) by decide), eq_true (show  ((0 : Int32) ≤ (1 : Int32)) by decide), eq_true (show  ((1 : Int32) ≤ (1 : Int32)) by decide), eq_false (show ¬ ((2 : Int32) ≤ (1 : Int32)) by decide), eq_false (show ¬ ((3 : Int32) ≤ (1 : Int32)) by decide), eq_false (show ¬ ((4 : Int32) ≤ (1 : Int32)) by decide), if_true, if_false]
    omega
  · have e0 := hs 0 (by decide)
    have e1 := hs 1 (by decide)
    have e2 := hs 2 (by decide)
    have hv : 0 < (p + 1 - w 3).toNatClampNeg := hq
    rw [show (3 : Int32) + (-1) = (2 : Int32) by decide]
    simp only [mu, e0, e1, e2, eq_true (show  ((0 : Int32) ≤ (3 : Int32)) by decide), eq_true (show  ((1 : Int32) ≤ (3 : Int32)) by decide), eq_true (show  ((2 : Int32) ≤ (3 : Int32)) by decide), eq_true (show  ((3 : Int32) ≤ (3 : Int32)) by decide), eq_false (show ¬ ((4 : Int32) ≤ (3 : Int32)) by decide), eq_true (show  ((0 : Int32) ≤ (2 : Int32)) by decide), eq_true (show  ((1 : Int32) ≤ (2 : Int32)) by decide), eq_true (show  ((2 : Int32) ≤ (2 : Int32)) by decide), eq_false (show ¬ ((3 : Int32) ≤ (2 : Int32)) by decide), eq_false (show ¬ ((4 : Int32) ≤ (2 : Int32)) by decide), if_true, if_false]
    omega
  · have e0 := hs 0 (by decide)
    have e1 := hs 1 (by decide)
    have e2 := hs 2 (by decide)
    have e3 := hs 3 (by decide)
    have hv : 0 < (p + 1 - w 4).toNatClampNeg := hq
    rw [show (4 : Int32) + (-1) = (3 : Int32) by decide]
    simp only [mu, e0, e1, e2, e3, eq_true (show  ((0 : Int32) ≤ (4 : Int32)) by decide), eq_true (show  ((1 : Int32) ≤ (4 : Int32)) by decide), eq_true (show  ((2 : Int32) ≤ (4 : Int32)) by decide), eq_true (show  ((3 : Int32) ≤ (4 : Int32)) by decide), eq_true (show  ((4 : Int32) ≤ (4 : Int32)) by decide), eq_true (show  ((0 : Int32) ≤ (3 : Int32)) by decide), eq_true (show  ((1 : Int32) ≤ (3 : Int32)) by decide), eq_true (show  ((2 : Int32) ≤ (3 : Int32)) by decide), eq_true (show  ((3 : Int32) ≤ (3 : Int32)) by decide), eq_false (show ¬ ((4 : Int32) ≤ (3 : Int32)) by decide), if_true, if_false]
    omega
theorem mu_on {p i : Int32} {w w' : Nat → Int32} (h0 : 0 ≤ i) (h4 : i < 4) (hp : 0 ≤ p ∧ p ≤ 48) (hw : -1 ≤ w i.toNatClampNeg ∧ w i.toNatClampNeg < w' i.toNatClampNeg ∧ w' i.toNatClampNeg ≤ p) (hs : ∀ k : Nat, k < i.toNatClampNeg → w' k = w k) (hl : w' (i + 1).toNatClampNeg = -1) : mu p w' (i + 1) < mu p w i := by
  have hq : (p + 1 - w' i.toNatClampNeg).toNatClampNeg < (p + 1 - w i.toNatClampNeg).toNatClampNeg := cl_lt (by grind) (by grind)
  have hm : (p + 1 - w' (i + 1).toNatClampNeg).toNatClampNeg ≤ 50 := by
    rw [hl]
    have := cl_lt (i := p + 1 - -1) (j := 51) (by grind) (by grind)
    have h51 : (51 : Int32).toNatClampNeg = 51 := by decide
    omega
  rcases i_cases h0 (by grind) with h | h | h | h | h <;> subst h
  · have a1 : (p + 1 - w' 0).toNatClampNeg < (p + 1 - w 0).toNatClampNeg := hq
    have a2 : (p + 1 - w' 1).toNatClampNeg ≤ 50 := hm
    simp [mu, show (0 : Int32) + 1 = 1 by decide]
    omega
  · have e0 := hs 0 (by decide)
    have a1 : (p + 1 - w' 1).toNatClampNeg < (p + 1 - w 1).toNatClampNeg := hq
    have a2 : (p + 1 - w' 2).toNatClampNeg ≤ 50 := hm
    simp [mu, e0, show (1 : Int32) + 1 = 2 by decide]
    omega
  · have e0 := hs 0 (by decide)
    have e1 := hs 1 (by decide)
    have a1 : (p + 1 - w' 2).toNatClampNeg < (p + 1 - w 2).toNatClampNeg := hq
    have a2 : (p + 1 - w' 3).toNatClampNeg ≤ 50 := hm
    simp [mu, e0, e1, show (2 : Int32) + 1 = 3 by decide]
    omega
  · have e0 := hs 0 (by decide)
    have e1 := hs 1 (by decide)
    have e2 := hs 2 (by decide)
    have a1 : (p + 1 - w' 3).toNatClampNeg < (p + 1 - w 3).toNatClampNeg := hq
    have a2 : (p + 1 - w' 4).toNatClampNeg ≤ 50 := hm
    simp [mu, e0, e1, e2, show (3 : Int32) + 1 = 4 by decide]
    omega
  · exact absurd h4 (by decide)
/-- the search at level i -/
def bI (M : Nat) (I J : Nat → Nat → Int32) (pl i : Int32) : Prop := mR M J ∧ bF M I J ∧ (∀ k : Int32, 0 ≤ k → k < I M 66 → 0 ≤ J (M + 20) (I (M + 41) k.toNatClampNeg).toNatClampNeg → k ≤ i ∧ 0 ≤ J (M + 42) k.toNatClampNeg ∧ J (M + 42) k.toNatClampNeg < pl) ∧ (∀ k : Int32, 0 ≤ k → k ≤ i → -1 ≤ J (M + 42) k.toNatClampNeg ∧ J (M + 42) k.toNatClampNeg ≤ pl) ∧ (∀ k : Int32, 0 ≤ k → k < i → 0 ≤ J (M + 42) k.toNatClampNeg)
theorem lp_findBest_69 (hS : m_S M K L R) {f e pl b i : Int32} {p u v : Option Value} (hpl : 0 ≤ pl ∧ pl ≤ 48) (hfm : 0 ≤ I M 66 ∧ I M 66 ≤ 4) (hi : i = I M 66) (hN : ∀ J k, bI M I J pl i → J (M + 42) = J0 (M + 42) → a_at d (a_xm a_m243) 98 [some (a_rf M), some (.int f), some (.int e), some (.int pl), some (.int b), some (.int i), some (.int k), p, u, v] [] (n, t, K, L, J, R) P) : ∀ k : Int32, k ≤ 4 → ∀ J, 0 ≤ k → bI M I J pl i → J (M + 42) = J0 (M + 42) → a_at d (a_xm a_m243) 69 [some (a_rf M), some (.int f), some (.int e), some (.int pl), some (.int b), some (.int i), some (.int k), p, u, v] [] (n, t, K, L, J, R) P := by
  refine up_ind 4 (fun k hk ih => ?_)
  intro J h0 hb hw
  obtain ⟨b1, b2, b3, b4, b5⟩ := id hb
  have e1 := bF_fewMany b2
  rw [q243_69]
  simp only [q243_71, q243_72, q243_75, q243_78, q243_79, q243_82, q243_84, q243_85, q243_88, q243_90, q243_91, q243_92, q243_95, m_0 hS, m_K hS, mR_bestWay hS, mK_bestWay hS, mL_bestWay hS, mR_way hS, mK_way hS, mL_way hS, as_nil, as_i, as_r, Nat.reduceAdd, Nat.reduceLeDiff, z_eq0, z_eq1, z_or, z_em, Classical.not_not, not_false_eq_true, not_true_eq_false, true_and, and_true, false_and, and_false, and_self, true_implies, false_implies, implies_true, Option.toList_some, Option.toList_none, List.cons_append, List.nil_append, Nat.add_eq_zero_iff, a_nl_i, a_nl_r, a_nl_n, true_or, or_true, eq_self, ok_4, ok_5, ok_6, ok_7, ok_9, ok_10, ok_20, ok_21, ok_24, ok_30, ok_48, ok_50, ok_60, ok_80, ok_120, ok_180, ok_192, ok_200, ok_900, ok_1000, ok_84000]
  refine ⟨fun h => hN J k hb hw, fun h => ?_⟩
  have q1 : k < i := by grind
  refine ⟨by grind, by grind, ?_⟩
  have w1 := b4 k h0 (by grind)
  have w2 := b5 k h0 q1
  refine ih (by grind) _ (by grind) ⟨sR_bestWay b1 (by grind), bF_ui b2 (by omega), ?_, ?_, ?_⟩ ?_
  · intro k2 p1 p2 p3
    simp [ui_ap] at p3 ⊢
    exact b3 k2 p1 p2 p3
  · intro k2 p1 p2
    simp [ui_ap]
    exact b4 k2 p1 p2
  · intro k2 p1 p2
    simp [ui_ap]
    exact b5 k2 p1 p2
  · rw [← hw]; funext j; simp [ui_ap]
end SF

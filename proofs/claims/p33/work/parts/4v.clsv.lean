/-! the reference: a RULE, just so -/
section XB
variable {d n t M : Nat} {K L : Nat → Nat} {I I0 J J0 J1 J2 : Nat → Nat → Int32} {R : Nat → Nat → Nat} {P : Option Value → AH → Prop} {f : Nat → Int32} {e : Int32}
variable {fc V Z : Nat → Int32} {a b dp : Int32} {m s : Nat}
theorem on_t {k : Nat} (h : k < 1000) : (Int32.ofNat k).toNatClampNeg = k := by
  show (Int32.ofNat k).toInt.toNat = k
  rw [Int32.toInt_ofNat', show Int32.size = 4294967296 from rfl]
  simp only [Int.bmod_def]
  omega
theorem on_i {k : Nat} (h : k < 1000) : (Int32.ofNat k).toInt = k := by
  rw [Int32.toInt_ofNat', show Int32.size = 4294967296 from rfl]
  simp only [Int.bmod_def]
  omega
theorem on_a {k : Nat} : Int32.ofNat k + 1 = Int32.ofNat (k + 1) := by
  rw [Int32.ofNat_add]; rfl
theorem on_s {k : Nat} : Int32.ofNat (k + 1) - 1 = Int32.ofNat k := by
  rw [← on_a]
  grind
theorem on_z {k : Nat} (h : k < 1000) : (Int32.ofNat k = 0) = (k = 0) := by
  refine propext ⟨fun q => ?_, fun q => by subst q; rfl⟩
  have := congrArg Int32.toInt q
  rw [on_i h] at this
  have z0 : (0 : Int32).toInt = 0 := rfl
  omega
theorem on_r {k : Nat} (h : k < 60) : 0 ≤ Int32.ofNat k ∧ Int32.ofNat k < 60 := by
  rw [Int32.le_iff_toInt_le, Int32.lt_iff_toInt_lt, on_i (by omega)]
  have z0 : (0 : Int32).toInt = 0 := rfl
  have z60 : (60 : Int32).toInt = 60 := rfl
  omega
/-- between two steps: what is before it, where, how deep, values V up to m, signs Z up to s -/
def ps (M : Nat) (I0 J : Nat → Nat → Int32) (f fc : Nat → Int32) (e a b dp : Int32) (m s : Nat) (V Z : Nat → Int32) : Prop := mC M I0 J ∧ vw M J f e ∧ (∀ j, J (M + 32) j = fc j) ∧ J M 49 = a ∧ (0 ≤ a ∧ a ≤ e) ∧ J M 50 = b ∧ J M 51 = dp ∧ J M 54 = Int32.ofNat m ∧ J M 56 = Int32.ofNat s ∧ (m ≤ 51 ∧ s ≤ 50) ∧ (∀ i, i < m → J (M + 33) i = V i ∧ (V i = 0 ∨ V i = 1)) ∧ ∀ i, i < s → J (M + 34) i = Z i
/-- at the end -/
def xz (M : Nat) (I0 J : Nat → Nat → Int32) (f fc : Nat → Int32) (e a b : Int32) : Prop := mC M I0 J ∧ vw M J f e ∧ (∀ j, J (M + 32) j = fc j) ∧ J M 49 = a ∧ J M 50 = b
theorem ps_mC (h : ps M I0 J f fc e a b dp m s V Z) : mC M I0 J := h.1
theorem ps_vw (h : ps M I0 J f fc e a b dp m s V Z) : vw M J f e := h.2.1
theorem ps_fc (h : ps M I0 J f fc e a b dp m s V Z) : ∀ j, J (M + 32) j = fc j := h.2.2.1
theorem ps_at (h : ps M I0 J f fc e a b dp m s V Z) : J M 49 = a := h.2.2.2.1
theorem ps_a (h : ps M I0 J f fc e a b dp m s V Z) : 0 ≤ a ∧ a ≤ e := h.2.2.2.2.1
theorem ps_bad (h : ps M I0 J f fc e a b dp m s V Z) : J M 50 = b := h.2.2.2.2.2.1
theorem ps_dp (h : ps M I0 J f fc e a b dp m s V Z) : J M 51 = dp := h.2.2.2.2.2.2.1
theorem ps_vm (h : ps M I0 J f fc e a b dp m s V Z) : J M 54 = Int32.ofNat m := h.2.2.2.2.2.2.2.1
theorem ps_sm (h : ps M I0 J f fc e a b dp m s V Z) : J M 56 = Int32.ofNat s := h.2.2.2.2.2.2.2.2.1
theorem ps_50 (h : ps M I0 J f fc e a b dp m s V Z) : m ≤ 51 ∧ s ≤ 50 := h.2.2.2.2.2.2.2.2.2.1
theorem ps_V (h : ps M I0 J f fc e a b dp m s V Z) : ∀ i, i < m → J (M + 33) i = V i ∧ (V i = 0 ∨ V i = 1) := h.2.2.2.2.2.2.2.2.2.2.1
theorem ps_Z (h : ps M I0 J f fc e a b dp m s V Z) : ∀ i, i < s → J (M + 34) i = Z i := h.2.2.2.2.2.2.2.2.2.2.2
/-- cells that a step may change -/
theorem vw_fr (h : vw M J f e) (h2 : ∀ x j, ¬ x = (M + 33) → ¬ x = (M + 34) → ¬ (x = M ∧ (j = 49 ∨ j = 50 ∨ j = 51 ∨ j = 54 ∨ j = 56)) → J1 x j = J x j) : vw M J1 f e := by
  unfold vw at h ⊢
  have e1 : J1 (M + 27) = J (M + 27) := funext (fun j => h2 _ _ (by omega) (by omega) (by omega))
  have e2 : J1 (M + 28) = J (M + 28) := funext (fun j => h2 _ _ (by omega) (by omega) (by omega))
  rw [h2 M 48 (by omega) (by omega) (by omega), h2 M 47 (by omega) (by omega) (by omega), h2 M 46 (by omega) (by omega) (by omega), e1, e2]
  exact h
theorem ps_top (h : ps M I0 J f fc e a b dp m (s + 1) V Z) : J (M + 34) (J M 56 - 1).toNatClampNeg = Z s ∧ (0 ≤ J M 56 - 1 ∧ J M 56 - 1 < 60) ∧ ¬ J M 56 = 0 := by
  have h5 := ps_50 h
  rw [ps_sm h, on_s, on_t (by omega), on_z (by omega)]
  exact ⟨ps_Z h s (by omega), on_r (by omega), by omega⟩
theorem pe_no (hS : m_S M K L R) {Q : Option Value → AH → Prop} (h : ps M I0 J f fc e a b dp m s V Z) (ht : s = 0 ∨ ¬ Z (s - 1) = 33) (hQ : Q none (n, t, K, L, J, R)) : a_does (d + 2) 204 [a_rf M] (n, t, K, L, J, R) Q := by
  have k : J M 56 = 0 ∨ (¬ J (M + 34) (J M 56 - 1).toNatClampNeg = 33 ∧ (0 ≤ J M 56 - 1 ∧ J M 56 - 1 < 60)) := by
    cases s with
    | zero => exact Or.inl (by rw [ps_sm h]; rfl)
    | succ s =>
      have tp := ps_top h
      refine Or.inr ⟨?_, tp.2.1⟩
      rw [tp.1]
      exact ht.resolve_left (by omega)
  clear h ht
  rw [a_enter1 (M := a_m204) rfl (a_cat_rf a_cat_nil) (show 1 ≤ 1 by decide)]
  show a_at _ (a_xm a_m204) 0 [some (a_rf M)] [] _ _
  simp only [q204_0, q204_1, q204_4, q204_6, q204_62, m_0 hS, m_K hS, sp_topSign hS, as_nil, as_i, as_r, Nat.reduceAdd, Nat.reduceLeDiff, z_eq0, z_eq1, z_or, z_em, Classical.not_not, not_false_eq_true, not_true_eq_false, true_and, and_true, false_and, and_false, and_self, true_implies, false_implies, implies_true, Option.toList_some, Option.toList_none, List.cons_append, List.nil_append, Nat.add_eq_zero_iff, a_nl_i, a_nl_r, a_nl_n, true_or, or_true, eq_self, ok_4, ok_5, ok_6, ok_7, ok_9, ok_10, ok_20, ok_21, ok_24, ok_30, ok_48, ok_50, ok_60, ok_80, ok_120, ok_180, ok_192, ok_200, ok_900, ok_1000, ok_84000]
  clear hS
  grind
theorem pe_pop (hS : m_S M K L R) {Q : Option Value → AH → Prop} (h : ps M I0 J f fc e a b dp (m + 1) (s + 1) V Z) (ht : Z s = 33) (hQ : ∀ J', ps M I0 J' f fc e a b (dp - 1) (m + 1) s (up1 V m (1 - V m)) Z → a_does (d + 2) 204 [a_rf M] (n, t, K, L, J', R) Q) : a_does (d + 2) 204 [a_rf M] (n, t, K, L, J, R) Q := by
  have tp := ps_top h
  have h5 := ps_50 h
  have hv := ps_V h m (by omega)
  have ev : (J M 54 - 1).toNatClampNeg = m := by rw [ps_vm h, on_s, on_t (by omega)]
  have er : 0 ≤ J M 54 - 1 ∧ J M 54 - 1 < 60 := by rw [ps_vm h, on_s]; exact on_r (by omega)
  have hgo : ∀ w : Int32, w = 1 - V m → a_at (d + 1) (a_xm a_m204) 0 [some (a_rf M)] [] (n, t, K, L, (a_ui (a_ui (a_ui J (M + 33) m w) M 56 (J M 56 - 1)) M 51 (J M 51 - 1)), R) Q := fun w hw => by
    have hd := hQ (a_ui (a_ui (a_ui J (M + 33) m w) M 56 (J M 56 - 1)) M 51 (J M 51 - 1)) ⟨sC_deep (sC_signMany (sC_values (ps_mC h))), vw_fr (ps_vw h) (fun x j p q r => by rw [ui_ap, if_neg (by omega), ui_ap, if_neg (by omega), ui_ap, if_neg (by omega)]), fun j => by rw [ui_ap, if_neg (by omega), ui_ap, if_neg (by omega), ui_ap, if_neg (by omega)]; exact ps_fc h j, by rw [ui_ap, if_neg (by omega), ui_ap, if_neg (by omega), ui_ap, if_neg (by omega)]; exact ps_at h, ps_a h, by rw [ui_ap, if_neg (by omega), ui_ap, if_neg (by omega), ui_ap, if_neg (by omega)]; exact ps_bad h, by rw [ui_ap, if_pos ⟨rfl, rfl⟩, ps_dp h], by rw [ui_ap, if_neg (by omega), ui_ap, if_neg (by omega), ui_ap, if_neg (by omega)]; exact ps_vm h, by rw [ui_ap, if_neg (by omega), ui_ap, if_pos ⟨rfl, rfl⟩, ps_sm h, on_s], by omega, fun i hi => ?_, fun i hi => ?_⟩
    · rw [a_enter1 (M := a_m204) rfl (a_cat_rf a_cat_nil) (show 1 ≤ 1 by decide)] at hd
      exact hd
    · rw [ui_ap, if_neg (by omega), ui_ap, if_neg (by omega), ui_ap]
      by_cases c : i = m
      · subst c
        rw [if_pos ⟨rfl, rfl⟩, up1_eq]
        refine ⟨hw, ?_⟩
        rcases hv.2 with q | q <;> rw [q] <;> decide
      · rw [if_neg (fun q => c q.2), up1_ne c]
        exact ps_V h i (by omega)
    · rw [ui_ap, if_neg (by omega), ui_ap, if_neg (by omega), ui_ap, if_neg (by omega)]
      exact ps_Z h i (by omega)
  rw [ht] at tp
  obtain ⟨t1, t2, t3⟩ := tp
  obtain ⟨v1, v2⟩ := hv
  have g0 := hgo (0 &&& 1)
  have g1 := hgo (1 &&& 1)
  have z1 : V m = 0 → (1 &&& 1 : Int32) = 1 - V m := fun q => by rw [q]; rfl
  have z0 : V m = 1 → (0 &&& 1 : Int32) = 1 - V m := fun q => by rw [q]; rfl
  clear h hQ hgo
  rw [a_enter1 (M := a_m204) rfl (a_cat_rf a_cat_nil) (show 1 ≤ 1 by decide)]
  show a_at _ (a_xm a_m204) 0 [some (a_rf M)] [] _ _
  rw [q204_0]
  simp only [q204_1, q204_4, q204_6, q204_9, q204_10, q204_13, q204_14, q204_17, q204_18, q204_19, q204_20, q204_23, q204_24, q204_27, q204_28, q204_29, q204_30, q204_33, q204_34, q204_37, q204_38, q204_39, q204_40, q204_41, q204_44, q204_45, q204_46, q204_49, q204_50, q204_51, q204_54, q204_55, q204_56, q204_59, m_0 hS, m_K hS, mR_values hS, mK_values hS, mL_values hS, sp_topSign hS, as_nil, as_i, as_r, Nat.reduceAdd, Nat.reduceLeDiff, z_eq0, z_eq1, z_or, z_em, Classical.not_not, not_false_eq_true, not_true_eq_false, true_and, and_true, false_and, and_false, and_self, true_implies, false_implies, implies_true, Option.toList_some, Option.toList_none, List.cons_append, List.nil_append, Nat.add_eq_zero_iff, a_nl_i, a_nl_r, a_nl_n, true_or, or_true, eq_self, ok_4, ok_5, ok_6, ok_7, ok_9, ok_10, ok_20, ok_21, ok_24, ok_30, ok_48, ok_50, ok_60, ok_80, ok_120, ok_180, ok_192, ok_200, ok_900, ok_1000, ok_84000, ui_ap, ne_MM, ne_M0, ne_0M, Nat.reduceEqDiff, reduceIte, if_true, if_false, ev, t1, v1, er, t2, t3]
  clear hS
  rcases v2 with q | q
  · have g1 := g1 (z1 q)
    have n1 : ¬ V m = 1 := by rw [q]; decide
    clear g0
    simp only [q] at *
    first
      | exact g1
      | grind
  · have g0 := g0 (z0 q)
    have n0 : ¬ V m = 0 := by rw [q]; decide
    clear g1
    simp only [q] at *
    first
      | exact g0
      | grind
/-- what a sign joins -/
def opC (g x y : Int32) : Int32 := if g = 38 then x &&& y else if g = 124 then x ||| y else x &&& (1 - y)
theorem opC_01 {g x y : Int32} (hx : x = 0 ∨ x = 1) (hy : y = 0 ∨ y = 1) : opC g x y = 0 ∨ opC g x y = 1 := by
  unfold opC
  rcases hx with rfl | rfl <;> rcases hy with rfl | rfl <;> (split; decide; split <;> decide)
theorem jo_no (hS : m_S M K L R) {Q : Option Value → AH → Prop} {g : Int32} {u w : Option Value} (h : ps M I0 J f fc e a b dp m s V Z) (g0 : ¬ g = 0) (ht : s = 0 ∨ ¬ Z (s - 1) = g) (hQ : Q none (n, t, K, L, J, R)) : a_at (d + 1) (a_xm a_m206) 0 [some (a_rf M), some (.int g), u, w] [] (n, t, K, L, J, R) Q := by
  have k : J M 56 = 0 ∨ (¬ J (M + 34) (J M 56 - 1).toNatClampNeg = g ∧ (0 ≤ J M 56 - 1 ∧ J M 56 - 1 < 60)) := by
    cases s with
    | zero => exact Or.inl (by rw [ps_sm h]; rfl)
    | succ s =>
      have tp := ps_top h
      refine Or.inr ⟨?_, tp.2.1⟩
      rw [tp.1]
      exact ht.resolve_left (by omega)
  clear h ht
  simp only [q206_0, q206_1, q206_4, q206_5, q206_121, m_0 hS, m_K hS, sp_topSign hS, as_nil, as_i, as_r, Nat.reduceAdd, Nat.reduceLeDiff, z_eq0, z_eq1, z_or, z_em, Classical.not_not, not_false_eq_true, not_true_eq_false, true_and, and_true, false_and, and_false, and_self, true_implies, false_implies, implies_true, Option.toList_some, Option.toList_none, List.cons_append, List.nil_append, Nat.add_eq_zero_iff, a_nl_i, a_nl_r, a_nl_n, true_or, or_true, eq_self, ok_4, ok_5, ok_6, ok_7, ok_9, ok_10, ok_20, ok_21, ok_24, ok_30, ok_48, ok_50, ok_60, ok_80, ok_120, ok_180, ok_192, ok_200, ok_900, ok_1000, ok_84000]
  clear hS
  grind
theorem jo_pop (hS : m_S M K L R) {Q : Option Value → AH → Prop} {g : Int32} {u w : Option Value} (h : ps M I0 J f fc e a b dp (m + 1 + 1) (s + 1) V Z) (hg : g = 38 ∨ g = 124 ∨ g = 47) (ht : Z s = g) (hQ : ∀ J' u w, ps M I0 J' f fc e a b dp (m + 1) s (up1 V m (opC g (V m) (V (m + 1)))) Z → a_at (d + 1) (a_xm a_m206) 0 [some (a_rf M), some (.int g), u, w] [] (n, t, K, L, J', R) Q) : a_at (d + 1) (a_xm a_m206) 0 [some (a_rf M), some (.int g), u, w] [] (n, t, K, L, J, R) Q := by
  have tp := ps_top h
  have h5 := ps_50 h
  have hv := ps_V h m (by omega)
  have hw := ps_V h (m + 1) (by omega)
  have e1 : J M 54 - 1 = Int32.ofNat (m + 1) := by rw [ps_vm h, on_s]
  have e2 : J M 54 - 1 - 1 = Int32.ofNat m := by rw [e1, on_s]
  have t1' : (Int32.ofNat m).toNatClampNeg = m := on_t (by omega)
  have t2' : (Int32.ofNat (m + 1)).toNatClampNeg = m + 1 := on_t (by omega)
  have r1 := on_r (k := m) (by omega)
  have r2 := on_r (k := m + 1) (by omega)
  have hgo : ∀ (z : Int32) (u w : Option Value), z = opC g (V m) (V (m + 1)) → a_at (d + 1) (a_xm a_m206) 0 [some (a_rf M), some (.int g), u, w] [] (n, t, K, L, (a_ui (a_ui (a_ui J M 54 (Int32.ofNat (m + 1))) (M + 33) m z) M 56 (J M 56 - 1)), R) Q := fun z u w hz => by
    refine hQ _ u w ⟨sC_signMany (sC_values (sC_valueMany (ps_mC h))), vw_fr (ps_vw h) (fun x j p q r => by rw [ui_ap, if_neg (by omega), ui_ap, if_neg (by omega), ui_ap, if_neg (by omega)]), fun j => by rw [ui_ap, if_neg (by omega), ui_ap, if_neg (by omega), ui_ap, if_neg (by omega)]; exact ps_fc h j, by rw [ui_ap, if_neg (by omega), ui_ap, if_neg (by omega), ui_ap, if_neg (by omega)]; exact ps_at h, ps_a h, by rw [ui_ap, if_neg (by omega), ui_ap, if_neg (by omega), ui_ap, if_neg (by omega)]; exact ps_bad h, by rw [ui_ap, if_neg (by omega), ui_ap, if_neg (by omega), ui_ap, if_neg (by omega)]; exact ps_dp h, by rw [ui_ap, if_neg (by omega), ui_ap, if_neg (by omega), ui_ap, if_pos ⟨rfl, rfl⟩], by rw [ui_ap, if_pos ⟨rfl, rfl⟩, ps_sm h, on_s], by omega, fun i hi => ?_, fun i hi => ?_⟩
    · rw [ui_ap, if_neg (by omega), ui_ap]
      by_cases c : i = m
      · subst c
        rw [if_pos ⟨rfl, rfl⟩, up1_eq]
        exact ⟨hz, opC_01 hv.2 hw.2⟩
      · rw [if_neg (fun q => c q.2), up1_ne c, ui_ap, if_neg (by omega)]
        exact ps_V h i (by omega)
    · rw [ui_ap, if_neg (by omega), ui_ap, if_neg (by omega), ui_ap, if_neg (by omega)]
      exact ps_Z h i (by omega)
  rw [ht] at tp
  obtain ⟨q1, q2, q3⟩ := tp
  obtain ⟨v1, v2⟩ := hv
  obtain ⟨w1, w2⟩ := hw
  clear h hQ
  have hfin : ∀ z : Int32, (z &&& 1) = opC g (V m) (V (m + 1)) → ∀ u w, a_at (d + 1) (a_xm a_m206) 107 [some (a_rf M), some (.int g), u, w] [.int z, .int (Int32.ofNat m), a_rf (M + 33)] (n, t, K, L, (a_ui J M 54 (Int32.ofNat (m + 1))), R) Q := fun z hz u w => by
    have hg2 := hgo (z &&& 1) u w hz
    simp only [q206_107, q206_108, q206_109, q206_110, q206_113, q206_114, q206_115, q206_118, m_0 hS, m_K hS, as_nil, as_i, as_r, Nat.reduceAdd, Nat.reduceLeDiff, z_eq0, z_eq1, z_or, z_em, Classical.not_not, not_false_eq_true, not_true_eq_false, true_and, and_true, false_and, and_false, and_self, true_implies, false_implies, implies_true, Option.toList_some, Option.toList_none, List.cons_append, List.nil_append, Nat.add_eq_zero_iff, a_nl_i, a_nl_r, a_nl_n, true_or, or_true, eq_self, ok_4, ok_5, ok_6, ok_7, ok_9, ok_10, ok_20, ok_21, ok_24, ok_30, ok_48, ok_50, ok_60, ok_80, ok_120, ok_180, ok_192, ok_200, ok_900, ok_1000, ok_84000, ui_ap, ne_MM, ne_M0, ne_0M, Nat.reduceEqDiff, reduceIte, if_true, if_false, t1', mK_values hS, mL_values hS, r1]
    first
      | exact hg2
      | exact ⟨trivial, hg2⟩
      | (simp only [true_and]; exact hg2)
  clear hgo
  rw [q206_0]
  have m0 : ∀ x : Int32, a_ui J M 54 x M 54 = x := fun x => by rw [ui_ap, if_pos ⟨rfl, rfl⟩]
  have mv : ∀ x j, a_ui J M 54 x (M + 33) j = J (M + 33) j := fun x j => by rw [ui_ap, if_neg (by omega)]
  simp only [q206_1, q206_4, q206_5, q206_8, q206_9, q206_10, q206_13, q206_14, q206_15, q206_18, q206_19, q206_22, q206_23, q206_26, q206_27, q206_28, q206_29, q206_30, q206_31, q206_34, q206_35, q206_38, q206_39, q206_40, q206_41, q206_44, q206_45, q206_48, q206_49, m_0 hS, m_K hS, mR_values hS, mK_values hS, mL_values hS, sp_topSign hS, as_nil, as_i, as_r, Nat.reduceAdd, Nat.reduceLeDiff, z_eq0, z_eq1, z_or, z_em, Classical.not_not, not_false_eq_true, not_true_eq_false, true_and, and_true, false_and, and_false, and_self, true_implies, false_implies, implies_true, Option.toList_some, Option.toList_none, List.cons_append, List.nil_append, Nat.add_eq_zero_iff, a_nl_i, a_nl_r, a_nl_n, true_or, or_true, eq_self, ok_4, ok_5, ok_6, ok_7, ok_9, ok_10, ok_20, ok_21, ok_24, ok_30, ok_48, ok_50, ok_60, ok_80, ok_120, ok_180, ok_192, ok_200, ok_900, ok_1000, ok_84000, m0, mv, e1, e2, t1', t2', on_s, q1, q2, q3, r1, r2, v1, w1]
  clear hS m0 mv
  have n10 : ¬ (1 : Int32) = 0 := by decide
  have n2 : ¬ (124 : Int32) = 38 := by decide
  have n3 : ¬ (47 : Int32) = 38 := by decide
  have n4 : ¬ (47 : Int32) = 124 := by decide
  rcases hg with rfl | rfl | rfl
  · rcases v2 with qa | qa <;> rcases w2 with qb | qb <;> (simp only [q206_50, q206_51, q206_53, q206_56, q206_57, q206_60, q206_61, q206_64, q206_65, q206_68, q206_69, q206_72, q206_73, q206_75, q206_78, q206_79, q206_82, q206_83, q206_86, q206_87, q206_90, q206_91, q206_94, q206_95, q206_98, q206_99, q206_102, q206_103, q206_106, as_nil, as_i, as_r, Nat.reduceAdd, Nat.reduceLeDiff, z_eq0, z_eq1, z_or, z_em, Classical.not_not, not_false_eq_true, not_true_eq_false, true_and, and_true, false_and, and_false, and_self, true_implies, false_implies, implies_true, Option.toList_some, Option.toList_none, List.cons_append, List.nil_append, Nat.add_eq_zero_iff, a_nl_i, a_nl_r, a_nl_n, true_or, or_true, eq_self, ok_4, ok_5, ok_6, ok_7, ok_9, ok_10, ok_20, ok_21, ok_24, ok_30, ok_48, ok_50, ok_60, ok_80, ok_120, ok_180, ok_192, ok_200, ok_900, ok_1000, ok_84000, qa, qb, n10, if_true, if_false]; exact hfin _ (by rw [qa, qb]; rfl) _ _)
  · rcases v2 with qa | qa <;> rcases w2 with qb | qb <;> (simp only [q206_50, q206_51, q206_53, q206_56, q206_57, q206_60, q206_61, q206_64, q206_65, q206_68, q206_69, q206_72, q206_73, q206_75, q206_78, q206_79, q206_82, q206_83, q206_86, q206_87, q206_90, q206_91, q206_94, q206_95, q206_98, q206_99, q206_102, q206_103, q206_106, as_nil, as_i, as_r, Nat.reduceAdd, Nat.reduceLeDiff, z_eq0, z_eq1, z_or, z_em, Classical.not_not, not_false_eq_true, not_true_eq_false, true_and, and_true, false_and, and_false, and_self, true_implies, false_implies, implies_true, Option.toList_some, Option.toList_none, List.cons_append, List.nil_append, Nat.add_eq_zero_iff, a_nl_i, a_nl_r, a_nl_n, true_or, or_true, eq_self, ok_4, ok_5, ok_6, ok_7, ok_9, ok_10, ok_20, ok_21, ok_24, ok_30, ok_48, ok_50, ok_60, ok_80, ok_120, ok_180, ok_192, ok_200, ok_900, ok_1000, ok_84000, qa, qb, n10, n2, if_true, if_false]; exact hfin _ (by rw [qa, qb]; rfl) _ _)
  · rcases v2 with qa | qa <;> rcases w2 with qb | qb <;> (simp only [q206_50, q206_51, q206_53, q206_56, q206_57, q206_60, q206_61, q206_64, q206_65, q206_68, q206_69, q206_72, q206_73, q206_75, q206_78, q206_79, q206_82, q206_83, q206_86, q206_87, q206_90, q206_91, q206_94, q206_95, q206_98, q206_99, q206_102, q206_103, q206_106, as_nil, as_i, as_r, Nat.reduceAdd, Nat.reduceLeDiff, z_eq0, z_eq1, z_or, z_em, Classical.not_not, not_false_eq_true, not_true_eq_false, true_and, and_true, false_and, and_false, and_self, true_implies, false_implies, implies_true, Option.toList_some, Option.toList_none, List.cons_append, List.nil_append, Nat.add_eq_zero_iff, a_nl_i, a_nl_r, a_nl_n, true_or, or_true, eq_self, ok_4, ok_5, ok_6, ok_7, ok_9, ok_10, ok_20, ok_21, ok_24, ok_30, ok_48, ok_50, ok_60, ok_80, ok_120, ok_180, ok_192, ok_200, ok_900, ok_1000, ok_84000, qa, qb, n10, n3, n4, if_true, if_false]; exact hfin _ (by rw [qa, qb]; rfl) _ _)
theorem jo_none (hS : m_S M K L R) {Q : Option Value → AH → Prop} {g : Int32} (h : ps M I0 J f fc e a b dp m s V Z) (g0 : ¬ g = 0) (ht : s = 0 ∨ ¬ Z (s - 1) = g) (hQ : Q none (n, t, K, L, J, R)) : a_does (d + 2) 206 [a_rf M, .int g] (n, t, K, L, J, R) Q := by
  rw [a_enter1 (M := a_m206) rfl (a_cat_rf (a_cat_int a_cat_nil)) (show 2 ≤ 4 by decide)]
  show a_at _ (a_xm a_m206) 0 [some (a_rf M), some (.int g), none, none] [] _ _
  exact jo_no hS h g0 ht hQ
theorem jo_one (hS : m_S M K L R) {Q : Option Value → AH → Prop} {g : Int32} (h : ps M I0 J f fc e a b dp (m + 1 + 1) (s + 1) V Z) (hg : g = 38 ∨ g = 124 ∨ g = 47) (ht : Z s = g) (hb : s = 0 ∨ ¬ Z (s - 1) = g) (hQ : ∀ J', ps M I0 J' f fc e a b dp (m + 1) s (up1 V m (opC g (V m) (V (m + 1)))) Z → Q none (n, t, K, L, J', R)) : a_does (d + 2) 206 [a_rf M, .int g] (n, t, K, L, J, R) Q := by
  rw [a_enter1 (M := a_m206) rfl (a_cat_rf (a_cat_int a_cat_nil)) (show 2 ≤ 4 by decide)]
  show a_at _ (a_xm a_m206) 0 [some (a_rf M), some (.int g), none, none] [] _ _
  exact jo_pop hS h hg ht (fun J' u w h' => jo_no hS h' (by rcases hg with rfl | rfl | rfl <;> decide) hb (hQ J' h'))
/-! what waits to be joined -/
def oc (o : Option ((Nat → Int32) → Int32)) : Nat := match o with | none => 0 | some _ => 1
def cmb (y : Nat) (o : Option ((Nat → Int32) → Int32)) (r : rdT) : rdT := match o with | none => r | some x => (r.1, r.2.1, fun fc => opY y (x fc) (r.2.2 fc))
theorem cmb_1 {y : Nat} {o : Option ((Nat → Int32) → Int32)} {r : rdT} : (cmb y o r).1 = r.1 := by cases o <;> rfl
theorem cmb_2 {y : Nat} {o : Option ((Nat → Int32) → Int32)} {r : rdT} : (cmb y o r).2.1 = r.2.1 := by cases o <;> rfl
def cbv (g : Int32) (o : Option ((Nat → Int32) → Int32)) (fc : Nat → Int32) (x : Int32) : Int32 := match o with | none => x | some w => opC g (w fc) x
def fl (M : Nat) (I0 J : Nat → Nat → Int32) (f fc : Nat → Int32) (e a dp : Int32) (m s : Nat) (V0 Z0 : Nat → Int32) (o0 o1 o2 : Option ((Nat → Int32) → Int32)) (cur : Int32) : Prop := ∃ V Z, ps M I0 J f fc e a 0 dp (m + oc o0 + oc o1 + oc o2 + 1) (s + oc o0 + oc o1 + oc o2) V Z ∧ (∀ i, i < m → V i = V0 i) ∧ (∀ i, i < s → Z i = Z0 i) ∧ (∀ x, o0 = some x → V m = x fc ∧ Z s = 47) ∧ (∀ x, o1 = some x → V (m + oc o0) = x fc ∧ Z (s + oc o0) = 124) ∧ (∀ x, o2 = some x → V (m + oc o0 + oc o1) = x fc ∧ Z (s + oc o0 + oc o1) = 38) ∧ V (m + oc o0 + oc o1 + oc o2) = cur


variable {o0 o1 o2 : Option ((Nat → Int32) → Int32)} {cur : Int32}
theorem f38 (hS : m_S M K L R) {Q : Option Value → AH → Prop} (hb : s = 0 ∨ Z (s - 1) = 40) (h : fl M I0 J f fc e a dp m s V Z o0 o1 o2 cur) (hQ : ∀ J', fl M I0 J' f fc e a dp m s V Z o0 o1 none (cbv 38 o2 fc cur) → Q none (n, t, K, L, J', R)) : a_does (d + 2) 206 [a_rf M, .int 38] (n, t, K, L, J, R) Q := by
  obtain ⟨V1, Z1, h1, h2, h3, h4, h5, h6, h7⟩ := id h
  cases o2 with
  | none =>
    refine jo_none hS h1 (by decide) ?_ (hQ J h)
    cases o1 with
    | some x => exact Or.inr (by show ¬ Z1 (s + oc o0 + 1 + 0 - 1) = 38; rw [show s + oc o0 + 1 + 0 - 1 = s + oc o0 by omega, (h5 x rfl).2]; decide)
    | none =>
      cases o0 with
      | some x => exact Or.inr (by show ¬ Z1 (s + 1 + 0 + 0 - 1) = 38; rw [show s + 1 + 0 + 0 - 1 = s by omega, (h4 x rfl).2]; decide)
      | none =>
        rcases hb with hb | hb
        · exact Or.inl (by show s + 0 + 0 + 0 = 0; omega)
        · by_cases s0 : s = 0
          · exact Or.inl (by show s + 0 + 0 + 0 = 0; omega)
          · exact Or.inr (by show ¬ Z1 (s + 0 + 0 + 0 - 1) = 38; rw [show s + 0 + 0 + 0 - 1 = s - 1 by omega, h3 _ (by omega), hb]; decide)
  | some x =>
    have h6 := h6 x rfl
    refine jo_one hS (m := m + oc o0 + oc o1) (s := s + oc o0 + oc o1) h1 (Or.inl rfl) h6.2 ?_ (fun J' hp => hQ J' ⟨_, Z1, hp, fun i hi => ?_, h3, fun y e => ?_, fun y e => ?_, (fun y e => by cases e), ?_⟩)
    · cases o1 with
      | some x => exact Or.inr (by show ¬ Z1 (s + oc o0 + 1 - 1) = 38; rw [show s + oc o0 + 1 - 1 = s + oc o0 by omega, (h5 x rfl).2]; decide)
      | none =>
        cases o0 with
        | some x => exact Or.inr (by show ¬ Z1 (s + 1 + 0 - 1) = 38; rw [show s + 1 + 0 - 1 = s by omega, (h4 x rfl).2]; decide)
        | none =>
          by_cases s0 : s = 0
          · exact Or.inl (by show s + 0 + 0 = 0; omega)
          · exact Or.inr (by show ¬ Z1 (s + 0 + 0 - 1) = 38; rw [show s + 0 + 0 - 1 = s - 1 by omega, h3 _ (by omega), hb.resolve_left s0]; decide)
    · rw [up1_ne (by omega)]; exact h2 i hi
    · have q := h4 y e
      refine ⟨?_, q.2⟩
      have : oc o0 = 1 := by rw [e]; rfl
      rw [up1_ne (by omega)]; exact q.1
    · have q := h5 y e
      refine ⟨?_, q.2⟩
      have : oc o1 = 1 := by rw [e]; rfl
      rw [up1_ne (by omega)]; exact q.1
    · show up1 V1 (m + oc o0 + oc o1) _ (m + oc o0 + oc o1) = _
      rw [up1_eq, h6.1]
      have h7 : V1 (m + oc o0 + oc o1 + 1) = cur := h7
      rw [h7]
      rfl
theorem f124 (hS : m_S M K L R) {Q : Option Value → AH → Prop} (hb : s = 0 ∨ Z (s - 1) = 40) (h : fl M I0 J f fc e a dp m s V Z o0 o1 none cur) (hQ : ∀ J', fl M I0 J' f fc e a dp m s V Z o0 none none (cbv 124 o1 fc cur) → Q none (n, t, K, L, J', R)) : a_does (d + 2) 206 [a_rf M, .int 124] (n, t, K, L, J, R) Q := by
  obtain ⟨V1, Z1, h1, h2, h3, h4, h5, h6, h7⟩ := id h
  cases o1 with
  | none =>
    refine jo_none hS h1 (by decide) ?_ (hQ J h)
    cases o0 with
    | some x => exact Or.inr (by show ¬ Z1 (s + 1 + 0 + 0 - 1) = 124; rw [show s + 1 + 0 + 0 - 1 = s by omega, (h4 x rfl).2]; decide)
    | none =>
      by_cases s0 : s = 0
      · exact Or.inl (by show s + 0 + 0 + 0 = 0; omega)
      · exact Or.inr (by show ¬ Z1 (s + 0 + 0 + 0 - 1) = 124; rw [show s + 0 + 0 + 0 - 1 = s - 1 by omega, h3 _ (by omega), hb.resolve_left s0]; decide)
  | some x =>
    have h5 := h5 x rfl
    refine jo_one hS (m := m + oc o0) (s := s + oc o0) h1 (Or.inr (Or.inl rfl)) h5.2 ?_ (fun J' hp => hQ J' ⟨_, Z1, hp, fun i hi => ?_, h3, fun y e => ?_, (fun y e => by cases e), (fun y e => by cases e), ?_⟩)
    · cases o0 with
      | some x => exact Or.inr (by show ¬ Z1 (s + 1 - 1) = 124; rw [show s + 1 - 1 = s by omega, (h4 x rfl).2]; decide)
      | none =>
        by_cases s0 : s = 0
        · exact Or.inl (by show s + 0 = 0; omega)
        · exact Or.inr (by show ¬ Z1 (s + 0 - 1) = 124; rw [show s + 0 - 1 = s - 1 by omega, h3 _ (by omega), hb.resolve_left s0]; decide)
    · rw [up1_ne (by omega)]; exact h2 i hi
    · have q := h4 y e
      refine ⟨?_, q.2⟩
      have : oc o0 = 1 := by rw [e]; rfl
      rw [up1_ne (by omega)]; exact q.1
    · show up1 V1 (m + oc o0) _ (m + oc o0) = _
      rw [up1_eq, h5.1]
      have h7 : V1 (m + oc o0 + 1 + 0) = cur := h7
      rw [Nat.add_zero] at h7
      rw [h7]
      rfl
theorem f47 (hS : m_S M K L R) {Q : Option Value → AH → Prop} (hb : s = 0 ∨ Z (s - 1) = 40) (h : fl M I0 J f fc e a dp m s V Z o0 none none cur) (hQ : ∀ J', fl M I0 J' f fc e a dp m s V Z none none none (cbv 47 o0 fc cur) → Q none (n, t, K, L, J', R)) : a_does (d + 2) 206 [a_rf M, .int 47] (n, t, K, L, J, R) Q := by
  obtain ⟨V1, Z1, h1, h2, h3, h4, h5, h6, h7⟩ := id h
  cases o0 with
  | none =>
    refine jo_none hS h1 (by decide) ?_ (hQ J h)
    by_cases s0 : s = 0
    · exact Or.inl (by show s + 0 + 0 + 0 = 0; omega)
    · exact Or.inr (by show ¬ Z1 (s + 0 + 0 + 0 - 1) = 47; rw [show s + 0 + 0 + 0 - 1 = s - 1 by omega, h3 _ (by omega), hb.resolve_left s0]; decide)
  | some x =>
    have h4 := h4 x rfl
    refine jo_one hS (m := m) (s := s) h1 (Or.inr (Or.inr rfl)) h4.2 ?_ (fun J' hp => hQ J' ⟨_, Z1, hp, fun i hi => ?_, h3, (fun y e => by cases e), (fun y e => by cases e), (fun y e => by cases e), ?_⟩)
    · by_cases s0 : s = 0
      · exact Or.inl s0
      · exact Or.inr (by rw [h3 _ (by omega), hb.resolve_left s0]; decide)
    · rw [up1_ne (by omega)]; exact h2 i hi
    · show up1 V1 m _ m = _
      rw [up1_eq, h4.1]
      have h7 : V1 (m + 1 + 0 + 0) = cur := h7
      rw [Nat.add_zero, Nat.add_zero] at h7
      rw [h7]
      rfl
end XB
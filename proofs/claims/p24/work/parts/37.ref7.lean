/-! what happened; places given and taken back -/
section RX
variable {d n t M : Nat} {K L : Nat → Nat} {I I0 J J0 : Nat → Nat → Int32} {R : Nat → Nat → Nat} {P : Option Value → AH → Prop}
theorem cl_inj {i j : Int32} (h0 : 0 ≤ i) (h1 : 0 ≤ j) (h : i.toNatClampNeg = j.toNatClampNeg) : i = j := by
  have h2 := Int32.le_iff_toInt_le.mp h0
  have h3 := Int32.le_iff_toInt_le.mp h1
  have h4 : i.toInt.toNat = j.toInt.toNat := h
  simp at h2 h3
  exact Int32.toInt_inj.mp (by omega)
theorem cl_lt {i j : Int32} (h0 : 0 ≤ i) (h : i < j) : i.toNatClampNeg < j.toNatClampNeg := by
  have h2 := Int32.le_iff_toInt_le.mp h0
  have h3 := Int32.lt_iff_toInt_lt.mp h
  show i.toInt.toNat < j.toInt.toNat
  simp at h2
  omega
theorem cl_add {x y k : Int32} (h0 : 0 ≤ y) (h1 : y ≤ 84000) (hk : 0 ≤ k) (hk4 : k ≤ 4) (h : x ≤ y + k) : x.toNatClampNeg ≤ y.toNatClampNeg + 4 := by
  have h2 := Int32.le_iff_toInt_le.mp h0
  have h3 := Int32.le_iff_toInt_le.mp h1
  have h4 := Int32.le_iff_toInt_le.mp h
  have h5 := Int32.le_iff_toInt_le.mp hk
  have h6 := Int32.le_iff_toInt_le.mp hk4
  rw [Int32.toInt_add] at h4
  simp [Int.bmod_def] at h2 h3 h4 h5 h6
  show x.toInt.toNat ≤ y.toInt.toNat + 4
  omega
/-- the cells of what happened -/
def evC (M x j : Nat) : Prop := x = (M + 24) ∨ x = (M + 25) ∨ x = (M + 26) ∨ (x = M ∧ j = 35)
/-- a change of a place is kept of this hour -/
def fc (M : Nat) (J : Nat → Nat → Int32) (w : Int32) : Prop := ∃ e : Int32, 0 ≤ e ∧ e < J M 35 ∧ J (M + 24) e.toNatClampNeg = w ∧ ∀ i : Int32, e ≤ i → i < J M 35 → J (M + 25) i.toNatClampNeg = J M 0
def hp (M : Nat) (w : Int32) (J J2 : Nat → Nat → Int32) : Prop := mR M J2 ∧ (∀ x j, ¬ evC M x j → J2 x j = J x j) ∧ fc M J2 w ∧ (∀ w', fc M J w' → fc M J2 w') ∧ (fc M J w → J2 M 35 = J M 35) ∧ (J2 M 35 = J M 35 ∨ J2 M 35 = J M 35 + 1)
theorem hp_over (hR : mR M J) {w v e : Int32} (h0 : 0 ≤ e) (he : e < J M 35) (hw : J (M + 24) e.toNatClampNeg = w) (hh : ∀ i : Int32, e ≤ i → i < J M 35 → J (M + 25) i.toNatClampNeg = J M 0) : hp M w J (a_ui J (M + 26) e.toNatClampNeg v) := by
  have hf : ∀ w', fc M J w' → fc M (a_ui J (M + 26) e.toNatClampNeg v) w' := by
    rintro w' ⟨e1, q1, q2, q3, q4⟩
    refine ⟨e1, q1, ?_, ?_, ?_⟩
    · simpa [ui_ap] using q2
    · simpa [ui_ap] using q3
    · simpa [ui_ap] using q4
  refine ⟨sR_eAsk hR, fun x j hx => ?_, hf w ⟨e, h0, he, hw, hh⟩, hf, fun _ => ?_, Or.inl ?_⟩
  · rw [ui_ap, if_neg (by unfold evC at hx; omega)]
  · simp [ui_ap]
  · simp [ui_ap]
theorem hp_new (hR : mR M J) {w v : Int32} (he : J M 35 < 84000) (hn : ¬ fc M J w) : hp M w J (a_ui (a_ui (a_ui (a_ui J (M + 24) (J M 35).toNatClampNeg w) (M + 25) (J M 35).toNatClampNeg (J M 0)) (M + 26) (J M 35).toNatClampNeg v) M 35 (J M 35 + 1)) := by
  have hv := rg_events hR
  have g0 : ∀ i : Int32, 0 ≤ i → i < J M 35 → ¬ i.toNatClampNeg = (J M 35).toNatClampNeg := fun i h1 h2 h3 => by have := cl_lt h1 h2; omega
  refine ⟨sR_events (sR_eAsk (sR_eHour (sR_eWhere hR))) (by grind), fun x j hx => ?_, ?_, ?_, fun h => absurd h hn, Or.inr ?_⟩
  · unfold evC at hx
    rw [ui_ap, if_neg (by omega), ui_ap, if_neg (by omega), ui_ap, if_neg (by omega), ui_ap, if_neg (by omega)]
  · refine ⟨J M 35, hv.1, ?_, ?_, ?_⟩
    · simp only [ui_ap, ne_MM, ne_M0, ne_0M, Nat.reduceEqDiff, false_and, and_false, if_false, and_self, if_true]
      grind
    · simp [ui_ap]
    · intro i h1 h2
      simp only [ui_ap, ne_MM, ne_M0, ne_0M, Nat.reduceEqDiff, false_and, and_false, if_false, and_self, if_true] at h2 ⊢
      have : i = J M 35 := by grind
      simp [this]
  · rintro w' ⟨e1, q1, q2, q3, q4⟩
    refine ⟨e1, q1, ?_, ?_, ?_⟩
    · simp only [ui_ap, ne_MM, ne_M0, ne_0M, Nat.reduceEqDiff, false_and, and_false, if_false, and_self, if_true]
      grind
    · simp only [ui_ap, ne_MM, ne_M0, ne_0M, Nat.reduceEqDiff, false_and, and_false, if_false, and_self, if_true, true_and]
      rw [if_neg (g0 e1 q1 q2)]
      exact q3
    · intro i h1 h2
      simp only [ui_ap, ne_MM, ne_M0, ne_0M, Nat.reduceEqDiff, false_and, and_false, if_false, and_self, if_true, true_and] at h2 ⊢
      by_cases hi : i = J M 35
      · simp [hi]
      · rw [if_neg (g0 i (by grind) (by grind))]
        exact q4 i h1 (by grind)
  · simp [ui_ap]
theorem lp_happened_17 (hS : m_S M K L R) (hR : mR M J) {b s a w : Int32} (hw : 200 * b + s = w) (hev : J M 35 < 84000) (hP : ∀ J2, hp M w J J2 → P none (n, t, K, L, J2, R)) : ∀ e : Int32, -1 ≤ e → e < J M 35 → (∀ i : Int32, e < i → i < J M 35 → J (M + 25) i.toNatClampNeg = J M 0 ∧ ¬ J (M + 24) i.toNatClampNeg = w) → a_at d (a_xm a_m187) 17 [some (a_rf M), some (.int b), some (.int s), some (.int a), some (.int w), some (.int e)] [] (n, t, K, L, J, R) P := by
  have hv := rg_events hR
  refine dn_ind (-1) (fun e he ih => ?_)
  intro h1 hi
  have hn : (e < 0 ∨ ¬ J (M + 25) e.toNatClampNeg = J M 0) → ¬ fc M J w := by
    rintro h2 ⟨e1, q1, q2, q3, q4⟩
    have q5 : ¬ e < e1 := fun q => (hi e1 q q2).2 q3
    cases h2 with
    | inl h2 => grind
    | inr h2 => exact h2 (q4 e (by grind) h1)
  rw [q187_17]
  simp only [q187_19, q187_22, q187_23, q187_26, q187_28, q187_29, q187_30, q187_33, q187_36, q187_37, q187_40, q187_42, q187_43, q187_45, q187_48, q187_49, q187_52, q187_54, q187_55, q187_56, q187_57, q187_60, q187_63, q187_64, q187_67, q187_68, q187_71, q187_73, q187_74, q187_75, q187_78, q187_79, q187_82, q187_83, q187_86, q187_87, q187_88, q187_91, q187_92, q187_95, q187_96, q187_97, q187_98, q187_99, q187_102, q187_103, q187_104, q187_107, m_0 hS, m_K hS, mR_eHour hS, mK_eHour hS, mL_eHour hS, mR_eWhere hS, mK_eWhere hS, mL_eWhere hS, mR_eAsk hS, mK_eAsk hS, mL_eAsk hS, as_nil, as_i, as_r, Nat.reduceAdd, Nat.reduceLeDiff, z_eq0, z_eq1, z_or, z_em, Classical.not_not, not_false_eq_true, not_true_eq_false, true_and, and_true, false_and, and_false, and_self, true_implies, false_implies, implies_true, Option.toList_some, Option.toList_none, List.cons_append, List.nil_append, Nat.add_eq_zero_iff, a_nl_i, a_nl_r, a_nl_n, true_or, or_true, eq_self, ok_4, ok_5, ok_6, ok_7, ok_9, ok_10, ok_20, ok_21, ok_24, ok_30, ok_48, ok_50, ok_60, ok_80, ok_120, ok_180, ok_192, ok_200, ok_900, ok_1000, ok_84000]
  have hnew := fun h => hP _ (hp_new (v := a) hR hev (hn h))
  have hov := fun h0 hw hh => hP _ (hp_over (e := e) (w := w) (v := a) hR h0 h1 hw hh)
  refine ⟨fun h2 => ?_, fun h2 => ⟨by grind, fun h3 => ?_, fun h3 => ⟨by grind, fun h4 => ?_, fun h4 => ?_⟩⟩⟩
  · simp only [ui_ap, ne_MM, ne_M0, ne_0M, Nat.reduceEqDiff, false_and, and_false, if_false]
    exact ⟨by grind, by grind, by grind, hnew (Or.inl h2)⟩
  · simp only [ui_ap, ne_MM, ne_M0, ne_0M, Nat.reduceEqDiff, false_and, and_false, if_false]
    exact ⟨by grind, by grind, by grind, hnew (Or.inr h3)⟩
  · exact ih (by grind) (by grind) (fun i q1 q2 => by
      by_cases hie : i = e
      · subst hie; exact ⟨by simpa using h3, h4⟩
      · exact hi i (by grind) q2)
  · exact ⟨by grind, hov (by grind) (by simpa using h4) (fun i q1 q2 => by
      by_cases hie : i = e
      · subst hie; simpa using h3
      · exact (hi i (by grind) q2).1)⟩
theorem ct_happened (hS : m_S M K L R) (hR : mR M J) {b s a : Int32} (hev : J M 35 < 84000) (hP : ∀ J2, hp M (200 * b + s) J J2 → P none (n, t, K, L, J2, R)) : a_does (d + 1) 187 [a_rf M, .int b, .int s, .int a] (n, t, K, L, J, R) P := by
  have hv := rg_events hR
  rw [a_enter1 (M := a_m187) rfl (a_cat_rf (a_cat_int (a_cat_int (a_cat_int a_cat_nil)))) (show 4 ≤ 6 by decide)]
  show a_at _ (a_xm a_m187) 0 [some (a_rf M), some (.int b), some (.int s), some (.int a), none, none] [] _ _
  simp only [q187_0, q187_3, q187_4, q187_5, q187_6, q187_7, q187_9, q187_10, q187_13, q187_14, q187_15, m_0 hS, m_K hS, as_nil, as_i, as_r, Nat.reduceAdd, Nat.reduceLeDiff, z_eq0, z_eq1, z_or, z_em, Classical.not_not, not_false_eq_true, not_true_eq_false, true_and, and_true, false_and, and_false, and_self, true_implies, false_implies, implies_true, Option.toList_some, Option.toList_none, List.cons_append, List.nil_append, Nat.add_eq_zero_iff, a_nl_i, a_nl_r, a_nl_n, true_or, or_true, eq_self, ok_4, ok_5, ok_6, ok_7, ok_9, ok_10, ok_20, ok_21, ok_24, ok_30, ok_48, ok_50, ok_60, ok_80, ok_120, ok_180, ok_192, ok_200, ok_900, ok_1000, ok_84000]
  exact lp_happened_17 hS hR rfl hev hP _ (by grind) (by grind) (fun i q1 q2 => by grind)
end RX

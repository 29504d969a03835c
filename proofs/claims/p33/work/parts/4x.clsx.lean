/-! the reference: readRule, just so -/
section XE
variable {d n t M : Nat} {K L : Nat → Nat} {I I0 J J0 J1 J2 : Nat → Nat → Int32} {R : Nat → Nat → Nat} {P : Option Value → AH → Prop} {f : Nat → Int32} {e : Int32}
variable {fc : Nat → Int32} {a : Int32}
theorem xe_readRule (hS : m_S M K L R) (hC : mC M I0 I) (hvw : vw M I f e) (hfc : ∀ j, I (M + 32) j = fc j) (hat : I M 49 = a) (ha : 0 ≤ a ∧ a ≤ e) (hb : I M 50 = 0) (hP : ∀ J, xz M I0 J f fc e (xR f e a).2.1 (if (xR f e a).1 = true ∧ (xR f e a).2.1 = e then 0 else 1) → P (some (.int (if (xR f e a).1 = true ∧ (xR f e a).2.1 = e then (xR f e a).2.2 fc else 0))) (n, t, K, L, J, R)) : a_does (d + 5) 202 [a_rf M] (n, t, K, L, I, R) P := by
  have hV := fun (V Z : Nat → Int32) => (⟨sC_signMany (sC_valueMany (sC_deep hC)), vw_fr hvw (fun x j p q r => by rw [ui_ap, if_neg (by omega), ui_ap, if_neg (by omega), ui_ap, if_neg (by omega)]), fun j => by rw [ui_ap, if_neg (by omega), ui_ap, if_neg (by omega), ui_ap, if_neg (by omega)]; exact hfc j, by rw [ui_ap, if_neg (by omega), ui_ap, if_neg (by omega), ui_ap, if_neg (by omega)]; exact hat, ha, by rw [ui_ap, if_neg (by omega), ui_ap, if_neg (by omega), ui_ap, if_neg (by omega)]; exact hb, by rw [ui_ap, if_neg (by omega), ui_ap, if_neg (by omega), ui_ap, if_pos ⟨rfl, rfl⟩], by rw [ui_ap, if_neg (by omega), ui_ap, if_pos ⟨rfl, rfl⟩]; rfl, by rw [ui_ap, if_pos ⟨rfl, rfl⟩]; rfl, by omega, fun i hi => by omega, fun i hi => by omega⟩ : ps M I0 (a_ui (a_ui (a_ui I M 51 0) M 54 0) M 56 0) f fc e a 0 0 0 0 V Z)
  rw [a_enter1 (M := a_m202) rfl (a_cat_rf a_cat_nil) (show 1 ≤ 3 by decide)]
  show a_at _ (a_xm a_m202) 0 [some (a_rf M), none, none] [] _ _
  simp only [q202_0, q202_1, q202_2, q202_5, q202_6, q202_7, q202_10, q202_11, q202_12, q202_15, q202_16, m_0 hS, m_K hS, as_nil, as_i, as_r, Nat.reduceAdd, Nat.reduceLeDiff, z_eq0, z_eq1, z_or, z_em, Classical.not_not, not_false_eq_true, not_true_eq_false, true_and, and_true, false_and, and_false, and_self, true_implies, false_implies, implies_true, Option.toList_some, Option.toList_none, List.cons_append, List.nil_append, Nat.add_eq_zero_iff, a_nl_i, a_nl_r, a_nl_n, true_or, or_true, eq_self, ok_4, ok_5, ok_6, ok_7, ok_9, ok_10, ok_20, ok_21, ok_24, ok_30, ok_48, ok_50, ok_60, ok_80, ok_120, ok_180, ok_192, ok_200, ok_900, ok_1000, ok_84000]
  refine ru_rule (d := d) (z := 4) (W := (xR f e a)) (pt_all hS 4) hS (Or.inl rfl) (by decide) (hV (fun _ => 0) (fun _ => 0)) (Nat.zero_le _) (Nat.zero_le _) rfl ⟨fun J' k1 k2 => ?_, fun J' o0 o1 o2 cur k1 k2 k3 k4 c => ?_⟩
  · have hn : ¬ ((xR f e a).1 = true ∧ (xR f e a).2.1 = e) := fun w => by rw [k1] at w; exact absurd w.1 (by decide)
    have hp := hP J' (by rw [if_neg hn]; exact k2)
    rw [if_neg hn] at hp
    exact hp
  · refine ru_head0 hS k2 k4 (fun l => ?_) (fun l => ?_)
    · refine ru_246 hS (Or.inl rfl) k2 (fun J2 V2 q1 q2 q3 => ?_)
      have hn : ¬ ((xR f e a).1 = true ∧ (xR f e a).2.1 = e) := fun w => by rw [w.2] at l; exact absurd l Int32.lt_irrefl
      have hp := hP (a_ui J2 M 50 1) (by rw [if_neg hn]; exact ⟨sC_isBad (ps_mC q1), vw_fr (ps_vw q1) (fun x j p q r => by rw [ui_ap, if_neg (by omega)]), fun j => by rw [ui_ap, if_neg (by omega)]; exact ps_fc q1 j, by rw [ui_ap, if_neg (by omega)]; exact ps_at q1, by rw [ui_ap, if_pos ⟨rfl, rfl⟩]⟩)
      rw [if_neg hn] at hp
      have hh := ru_bad (d := d) (J := a_ui J2 M 50 1) (w := some (.int 0)) (c := some (.int (f (xR f e a).2.1.toNatClampNeg))) hS (by rw [ui_ap, if_pos ⟨rfl, rfl⟩]; decide) hp
      have hsm : J2 M 56 = 0 := ps_sm q1
      have n1 : ¬ (1 : Int32) = 0 := by decide
      have n2 : ¬ (0 : Int32) = 40 := by decide
      by_cases c41 : f (xR f e a).2.1.toNatClampNeg = 41
      · simp only [q202_264, q202_265, q202_266, q202_268, q202_271, q202_272, q202_275, q202_277, q202_280, q202_281, q202_284, q202_285, q202_288, q202_289, q202_292, q202_329, m_0 hS, m_K hS, sp_topSign hS, as_nil, as_i, as_r, Nat.reduceAdd, Nat.reduceLeDiff, z_eq0, z_eq1, z_or, z_em, Classical.not_not, not_false_eq_true, not_true_eq_false, true_and, and_true, false_and, and_false, and_self, true_implies, false_implies, implies_true, Option.toList_some, Option.toList_none, List.cons_append, List.nil_append, Nat.add_eq_zero_iff, a_nl_i, a_nl_r, a_nl_n, true_or, or_true, eq_self, ok_4, ok_5, ok_6, ok_7, ok_9, ok_10, ok_20, ok_21, ok_24, ok_30, ok_48, ok_50, ok_60, ok_80, ok_120, ok_180, ok_192, ok_200, ok_900, ok_1000, ok_84000, ui_ap, ne_MM, ne_M0, ne_0M, Nat.reduceEqDiff, reduceIte, if_true, if_false, c41, hsm, n1, n2] at hh ⊢
        first
          | exact hh
          | grind
      · simp only [q202_264, q202_265, q202_266, q202_268, q202_271, q202_272, q202_275, q202_277, q202_280, q202_281, q202_284, q202_285, q202_288, q202_289, q202_292, q202_329, m_0 hS, m_K hS, sp_topSign hS, as_nil, as_i, as_r, Nat.reduceAdd, Nat.reduceLeDiff, z_eq0, z_eq1, z_or, z_em, Classical.not_not, not_false_eq_true, not_true_eq_false, true_and, and_true, false_and, and_false, and_self, true_implies, false_implies, implies_true, Option.toList_some, Option.toList_none, List.cons_append, List.nil_append, Nat.add_eq_zero_iff, a_nl_i, a_nl_r, a_nl_n, true_or, or_true, eq_self, ok_4, ok_5, ok_6, ok_7, ok_9, ok_10, ok_20, ok_21, ok_24, ok_30, ok_48, ok_50, ok_60, ok_80, ok_120, ok_180, ok_192, ok_200, ok_900, ok_1000, ok_84000, ui_ap, ne_MM, ne_M0, ne_0M, Nat.reduceEqDiff, reduceIte, if_true, if_false, c41, hsm, n1, n2] at hh ⊢
        first
          | exact hh
          | grind
    · refine ru_339 hS (Or.inl rfl) k2 (fun J2 V2 q1 q2 q3 => ?_)
      have hy : (xR f e a).1 = true ∧ (xR f e a).2.1 = e := ⟨k1, l⟩
      have hp := hP (a_ui J2 M 50 0) (by rw [if_pos hy]; exact ⟨sC_isBad (ps_mC q1), vw_fr (ps_vw q1) (fun x j p q r => by rw [ui_ap, if_neg (by omega)]), fun j => by rw [ui_ap, if_neg (by omega)]; exact ps_fc q1 j, by rw [ui_ap, if_neg (by omega)]; exact ps_at q1, by rw [ui_ap, if_pos ⟨rfl, rfl⟩]⟩)
      rw [if_pos hy, ← k3, ← q3] at hp
      have hsm : J2 M 56 = 0 := ps_sm q1
      have n0 : (0 : Int32) ≤ 0 := by decide
      have n1 : ¬ (1 : Int32) = 0 := by decide
      obtain ⟨v1, v2⟩ := ps_V q1 0 (by decide)
      have hv : a_ui J2 M 50 0 (M + 33) 0 = V2 0 := by rw [ui_ap, if_neg (by omega)]; exact v1
      have ok0 : (0 : Int32) ≤ 0 ∧ (0 : Int32) < 60 := by decide
      have zn : (0 : Int32).toNatClampNeg = 0 := rfl
      clear hP q1 k2 hV
      rcases v2 with v2 | v2
      · rw [v2] at hp hv
        simp only [q202_357, q202_358, q202_359, q202_362, q202_365, q202_366, q202_369, q202_370, q202_373, q202_374, q202_377, q202_380, q202_381, q202_384, q202_385, q202_386, q202_389, q202_390, q202_393, q202_394, m_0 hS, m_K hS, mR_values hS, mK_values hS, mL_values hS, as_nil, as_i, as_r, Nat.reduceAdd, Nat.reduceLeDiff, z_eq0, z_eq1, z_or, z_em, Classical.not_not, not_false_eq_true, not_true_eq_false, true_and, and_true, false_and, and_false, and_self, true_implies, false_implies, implies_true, Option.toList_some, Option.toList_none, List.cons_append, List.nil_append, Nat.add_eq_zero_iff, a_nl_i, a_nl_r, a_nl_n, true_or, or_true, eq_self, ok_4, ok_5, ok_6, ok_7, ok_9, ok_10, ok_20, ok_21, ok_24, ok_30, ok_48, ok_50, ok_60, ok_80, ok_120, ok_180, ok_192, ok_200, ok_900, ok_1000, ok_84000, ui_ap, ne_MM, ne_M0, ne_0M, Nat.reduceEqDiff, reduceIte, if_true, if_false, hsm, n0, zn, v1, v2]
        grind
      · rw [v2] at hp hv
        simp only [q202_357, q202_358, q202_359, q202_362, q202_365, q202_366, q202_369, q202_370, q202_373, q202_374, q202_377, q202_380, q202_381, q202_384, q202_385, q202_386, q202_389, q202_390, q202_393, q202_394, m_0 hS, m_K hS, mR_values hS, mK_values hS, mL_values hS, as_nil, as_i, as_r, Nat.reduceAdd, Nat.reduceLeDiff, z_eq0, z_eq1, z_or, z_em, Classical.not_not, not_false_eq_true, not_true_eq_false, true_and, and_true, false_and, and_false, and_self, true_implies, false_implies, implies_true, Option.toList_some, Option.toList_none, List.cons_append, List.nil_append, Nat.add_eq_zero_iff, a_nl_i, a_nl_r, a_nl_n, true_or, or_true, eq_self, ok_4, ok_5, ok_6, ok_7, ok_9, ok_10, ok_20, ok_21, ok_24, ok_30, ok_48, ok_50, ok_60, ok_80, ok_120, ok_180, ok_192, ok_200, ok_900, ok_1000, ok_84000, ui_ap, ne_MM, ne_M0, ne_0M, Nat.reduceEqDiff, reduceIte, if_true, if_false, hsm, n0, zn, v1, v2, n1]
        grind
end XE
/-! the reference: feed, just so -/
section XF
variable {d n t M : Nat} {K L : Nat → Nat} {I I0 J J0 J1 J2 : Nat → Nat → Int32} {R : Nat → Nat → Nat} {P : Option Value → AH → Prop} {f : Nat → Int32} {e : Int32}
def bX (w : Int64) (k : Int32) : Int32 := ((w >>> ((8 * k).toInt64 &&& 63)) &&& 255).toInt32
/-- a row with k bytes of w from t0 on -/
def byP (g g0 : Nat → Int32) (w : Int64) (t0 k : Int32) : Prop := ∀ j, g j = if t0.toNatClampNeg ≤ j ∧ j < (t0 + k).toNatClampNeg then bX w (Int32.ofNat (j - t0.toNatClampNeg)) else g0 j
theorem byP_0 {g0 : Nat → Int32} {w : Int64} {t0 : Int32} : byP g0 g0 w t0 0 := fun j => by
  rw [Int32.add_zero, if_neg (by omega)]
theorem byP_s {g g0 g1 : Nat → Int32} {w : Int64} {t0 k : Int32} (h : byP g g0 w t0 k) (h0 : 0 ≤ t0 ∧ t0 ≤ 50) (hk : 0 ≤ k ∧ k ≤ 8) (h1 : ∀ j, g1 j = if j = (t0 + k).toNatClampNeg then bX w k else g j) : byP g1 g0 w t0 (k + 1) := fun j => by
  have e0 := Int32.le_iff_toInt_le.mp h0.1
  have e1 := Int32.le_iff_toInt_le.mp h0.2
  have e2 := Int32.le_iff_toInt_le.mp hk.1
  have e3 := Int32.le_iff_toInt_le.mp hk.2
  have z0 : (0 : Int32).toInt = 0 := rfl
  have z1 : (1 : Int32).toInt = 1 := rfl
  have z8 : (8 : Int32).toInt = 8 := rfl
  have z50 : (50 : Int32).toInt = 50 := rfl
  have k1 : (k + 1).toInt = k.toInt + 1 := by rw [ti_add (by omega)]; omega
  have t1 : (t0 + k).toInt = t0.toInt + k.toInt := by rw [ti_add (by omega)]
  have t2 : (t0 + (k + 1)).toInt = t0.toInt + k.toInt + 1 := by rw [ti_add (by omega)]; omega
  have n1 : (t0 + k).toNatClampNeg = (t0 + k).toInt.toNat := rfl
  have n2 : (t0 + (k + 1)).toNatClampNeg = (t0 + (k + 1)).toInt.toNat := rfl
  have n0 : t0.toNatClampNeg = t0.toInt.toNat := rfl
  rw [h1, h]
  by_cases c : j = (t0 + k).toNatClampNeg
  · rw [if_pos c, if_pos (by omega)]
    have : Int32.ofNat (j - t0.toNatClampNeg) = k := by
      rw [on_cl hk.1]
      congr 1
      have n3 : k.toNatClampNeg = k.toInt.toNat := rfl
      omega
    rw [this]
  · rw [if_neg c]
    by_cases c2 : t0.toNatClampNeg ≤ j ∧ j < (t0 + k).toNatClampNeg
    · rw [if_pos c2, if_pos (by omega)]
    · rw [if_neg c2, if_neg (by omega)]
theorem lx_feed_39 (hS : m_S M K L R) {m t0 : Int32} {w : Int64} (h0 : 0 ≤ t0) (h1 : 1 ≤ m ∧ m ≤ 8) (h2 : t0 + m ≤ 50) (h3 : t0 ≤ 50) (hP : ∀ J, mR M J → (∀ x j, ¬ x = (M + 27) → ¬ (x = M ∧ j = 40) → J x j = I x j) → J M 40 = t0 + m → byP (J (M + 27)) (I (M + 27)) w t0 m → P (some (.int (t0 + m))) (n, t, K, L, J, R)) : ∀ k : Int32, k ≤ 8 → ∀ J, 0 ≤ k → k ≤ m → mR M J → (∀ x j, ¬ x = (M + 27) → ¬ (x = M ∧ j = 40) → J x j = I x j) → J M 40 = t0 + k → byP (J (M + 27)) (I (M + 27)) w t0 k → a_at d (a_xm a_m200) 39 [some (a_rf M), some (.int m), some (.long w), none, some (.int k)] [] (n, t, K, L, J, R) P := by
  refine up_ind 8 (fun k hk ih => ?_)
  intro J q0 q1 hRJ hF q2 hB
  have hend : ¬ k < m → P (some (.int (J M 40))) (n, t, K, L, J, R) := fun e => by
    have : k = m := by clear ih hP hF hB; grind
    subst this
    have hp := hP J hRJ hF q2 hB
    rw [q2]
    exact hp
  have hgo : k < m → a_at d (a_xm a_m200) 39 [some (a_rf M), some (.int m), some (.long w), none, some (.int (k + 1))] [] (n, t, K, L, (a_ui (a_ui J (M + 27) (J M 40).toNatClampNeg (bX w k)) M 40 (J M 40 + 1)), R) P := fun e => by
    refine ih (by clear ih hP hF hB; grind) _ (by clear ih hP hF hB; grind) (by clear ih hP hF hB; grind) (sR_tapeMany (sR_tape hRJ) (by rw [q2]; clear ih hP hF hB; grind)) (fun x j p r => by rw [ui_ap, if_neg r, ui_ap, if_neg (fun z => p z.1)]; exact hF x j p r) (by rw [ui_ap, if_pos ⟨rfl, rfl⟩, q2, Int32.add_assoc]) (byP_s hB ⟨h0, h3⟩ ⟨q0, hk⟩ (fun j => by rw [ui_ap, if_neg (by omega), ui_ap, q2]; simp only [true_and]))
  have g : 0 ≤ J M 40 ∧ (k < m → J M 40 < 50) := by rw [q2]; clear ih hP hF hB hend hgo; grind
  clear ih hP hF hB q2
  rw [q200_39]
  unfold bX at hgo
  simp only [q200_41, q200_42, q200_45, q200_46, q200_49, q200_50, q200_53, q200_54, q200_56, q200_58, q200_59, q200_60, q200_63, q200_64, q200_65, q200_66, q200_67, q200_68, q200_71, q200_72, q200_73, q200_76, q200_79, q200_82, q200_83, q200_86, m_0 hS, m_K hS, mR_tape hS, mK_tape hS, mL_tape hS, as_nil, as_i, as_r, Nat.reduceAdd, Nat.reduceLeDiff, z_eq0, z_eq1, z_or, z_em, Classical.not_not, not_false_eq_true, not_true_eq_false, true_and, and_true, false_and, and_false, and_self, true_implies, false_implies, implies_true, Option.toList_some, Option.toList_none, List.cons_append, List.nil_append, Nat.add_eq_zero_iff, a_nl_i, a_nl_r, a_nl_n, true_or, or_true, eq_self, ok_4, ok_5, ok_6, ok_7, ok_9, ok_10, ok_20, ok_21, ok_24, ok_30, ok_48, ok_50, ok_60, ok_80, ok_120, ok_180, ok_192, ok_200, ok_900, ok_1000, ok_84000, ui_ap, ne_MM, ne_M0, ne_0M, Nat.reduceEqDiff, reduceIte, if_true, if_false]
  clear hS
  grind
theorem pe_feed (hS : m_S M K L R) (hR : mR M I) {m : Int32} {w : Int64} (hb : 0 ≤ I M 40 ∧ I M 40 ≤ 50) (h1 : m < 1 → P (some (.int (-4))) (n, t, K, L, (a_ui I (M + 23) 4 (I (M + 23) 4 + 1)), R)) (h2 : ¬ m < 1 → (8 < m ∨ 50 < I M 40 + m) → P (some (.int (-6))) (n, t, K, L, (a_ui I (M + 23) 6 (I (M + 23) 6 + 1)), R)) (hP : ¬ m < 1 → ¬ (8 < m ∨ 50 < I M 40 + m) → ∀ J, mR M J → (∀ x j, ¬ x = (M + 27) → ¬ (x = M ∧ j = 40) → J x j = I x j) → J M 40 = I M 40 + m → byP (J (M + 27)) (I (M + 27)) w (I M 40) m → P (some (.int (I M 40 + m))) (n, t, K, L, J, R)) : a_does (d + 16) 200 [a_rf M, .int m, .long w] (n, t, K, L, I, R) P := by
  have hl : ¬ m < 1 → ¬ 8 < m → I M 40 + m ≤ 50 → a_at (d + 15) (a_xm a_m200) 39 [some (a_rf M), some (.int m), some (.long w), none, some (.int 0)] [] (n, t, K, L, I, R) P := fun q1 q2 q3 => by
    refine lx_feed_39 hS hb.1 ⟨Int32.not_lt.mp q1, Int32.not_lt.mp q2⟩ q3 hb.2 (hP q1 (fun z => z.elim q2 (fun z => absurd q3 (Int32.not_le.mpr z)))) 0 (by decide) I (by decide) (by clear h1 h2 hP; grind) hR (fun _ _ _ _ => rfl) (by rw [Int32.add_zero]) byP_0
  have g6 : ¬ m < 1 → (8 < m ∨ ¬ I M 40 + m ≤ 50) → P (some (.int (-6))) (n, t, K, L, (a_ui I (M + 23) 6 (I (M + 23) 6 + 1)), R) := fun q1 q2 => h2 q1 (q2.imp id (fun z => Int32.not_le.mp z))
  clear hP h2
  rw [a_enter (M := a_m200) rfl (by rw [a_len_ril]; decide)]
  show a_at _ (a_xm a_m200) 0 (a_init [a_rf M, .int m, .long w] 5) [] _ _
  rw [a_init_ril]
  simp only [q200_0, q200_1, q200_2, q200_5, q200_6, q200_8, q200_11, q200_12, q200_13, q200_15, q200_18, q200_19, q200_22, q200_23, q200_24, q200_26, q200_29, q200_30, q200_32, q200_35, q200_36, q200_37, m_0 hS, m_K hS, sp_refuse_1 hS, sp_refuse_2 hS, sp_refuse_3 hS, sp_refuse_4 hS, sp_refuse_5 hS, sp_refuse_6 hS, as_nil, as_i, as_r, Nat.reduceAdd, Nat.reduceLeDiff, z_eq0, z_eq1, z_or, z_em, Classical.not_not, not_false_eq_true, not_true_eq_false, true_and, and_true, false_and, and_false, and_self, true_implies, false_implies, implies_true, Option.toList_some, Option.toList_none, List.cons_append, List.nil_append, Nat.add_eq_zero_iff, a_nl_i, a_nl_r, a_nl_n, true_or, or_true, eq_self, ok_4, ok_5, ok_6, ok_7, ok_9, ok_10, ok_20, ok_21, ok_24, ok_30, ok_48, ok_50, ok_60, ok_80, ok_120, ok_180, ok_192, ok_200, ok_900, ok_1000, ok_84000]
  clear hS
  grind
end XF
/-! the reference: text, just so -/
section XG
variable {d n t M : Nat} {K L : Nat → Nat} {I I0 J J0 J1 J2 : Nat → Nat → Int32} {R : Nat → Nat → Nat} {P : Option Value → AH → Prop} {f : Nat → Int32} {e : Int32}
theorem lx_text_186 (hS : m_S M K L R) {s k t0 e : Int32} (he : 0 ≤ e ∧ e ≤ 50) (ht : 0 ≤ t0 ∧ t0 < 20) {J0 : Nat → Nat → Int32} (hR : mR M J0) (h0e : J0 M 48 = e) (h0t : J0 M 41 = t0) (hP : ∀ J, mR M J → (∀ x j, ¬ x = (M + 28) → ¬ x = (M + 29) → ¬ x = (M + 30) → ¬ x = (M + 31) → ¬ (x = M ∧ j = 41) → J x j = J0 x j) → J M 41 = t0 + 1 → (∀ j, J (M + 28) j = if 50 * t0.toNatClampNeg ≤ j ∧ j < 50 * t0.toNatClampNeg + e.toNatClampNeg then J0 (M + 27) (j - 50 * t0.toNatClampNeg) else J0 (M + 28) j) → (∀ j, J (M + 29) j = if j = t0.toNatClampNeg then e else J0 (M + 29) j) → (∀ j, J (M + 30) j = if j = t0.toNatClampNeg then s else J0 (M + 30) j) → (∀ j, J (M + 31) j = if j = t0.toNatClampNeg then 1000000 else J0 (M + 31) j) → P (some (.int (t0 + 1 - 1))) (n, t, K, L, J, R)) : ∀ i : Int32, i ≤ 50 → ∀ J, 0 ≤ i → i ≤ e → mR M J → (∀ x j, ¬ x = (M + 28) → J x j = J0 x j) → (∀ j, J (M + 28) j = if 50 * t0.toNatClampNeg ≤ j ∧ j < 50 * t0.toNatClampNeg + i.toNatClampNeg then J0 (M + 27) (j - 50 * t0.toNatClampNeg) else J0 (M + 28) j) → a_at d (a_xm a_m201) 186 [some (a_rf M), some (.int s), some (.int k), some (.int i)] [] (n, t, K, L, J, R) P := by
  refine up_ind 50 (fun i hk ih => ?_)
  intro J q0 q1 hRJ hF hW
  have eE : J M 48 = e := (hF _ _ (by omega)).trans h0e
  have eT : J M 41 = t0 := (hF _ _ (by omega)).trans h0t
  have z0 : (0 : Int32).toInt = 0 := rfl
  have z20 : (20 : Int32).toInt = 20 := rfl
  have z50 : (50 : Int32).toInt = 50 := rfl
  have u0 := Int32.le_iff_toInt_le.mp ht.1
  have u1 := Int32.lt_iff_toInt_lt.mp ht.2
  have u2 := Int32.le_iff_toInt_le.mp q0
  have u3 := Int32.le_iff_toInt_le.mp hk
  have n0 : t0.toNatClampNeg = t0.toInt.toNat := rfl
  have ni : i.toNatClampNeg = i.toInt.toNat := rfl
  have t1 : (50 * t0).toInt = 50 * t0.toInt := by
    rw [Int32.toInt_mul, z50]
    simp only [Int.bmod_def]
    omega
  have t2 : (50 * t0 + i).toInt = 50 * t0.toInt + i.toInt := by rw [ti_add (by omega), t1]
  have n2 : (50 * t0 + i).toNatClampNeg = 50 * t0.toNatClampNeg + i.toNatClampNeg := by
    show (50 * t0 + i).toInt.toNat = _
    rw [t2]
    omega
  have hend : ¬ i < e → a_at d (a_xm a_m201) 220 [some (a_rf M), some (.int s), some (.int k), some (.int i)] [] (n, t, K, L, J, R) P := fun w => by
    have ie : i = e := by clear ih hP hF hW hRJ hR; grind
    have hp := hP (a_ui (a_ui (a_ui (a_ui J (M + 29) t0.toNatClampNeg e) (M + 30) t0.toNatClampNeg s) (M + 31) t0.toNatClampNeg 1000000) M 41 (t0 + 1)) (sR_texts (sR_struckFrom (sR_textFrom (sR_writtenMany hRJ he))) (by clear ih hP hF hW hRJ hR; grind)) (fun x j p1 p2 p3 p4 p5 => by rw [ui_ap, if_neg p5, ui_ap, if_neg (fun z => p4 z.1), ui_ap, if_neg (fun z => p3 z.1), ui_ap, if_neg (fun z => p2 z.1)]; exact hF x j p1) (by rw [ui_ap, if_pos ⟨rfl, rfl⟩]) (fun j => by rw [ui_ap, if_neg (by omega), ui_ap, if_neg (by omega), ui_ap, if_neg (by omega), ui_ap, if_neg (by omega), hW, ie]) (fun j => by
        rw [ui_ap, if_neg (by omega), ui_ap, if_neg (by omega), ui_ap, if_neg (by omega), ui_ap, hF _ _ (by omega)]
        simp only [true_and]) (fun j => by
        rw [ui_ap, if_neg (by omega), ui_ap, if_neg (by omega), ui_ap, ui_ap, if_neg (by omega : ¬ ((M + 30) = (M + 29) ∧ _)), hF _ _ (by omega)]
        simp only [true_and]) (fun j => by
        rw [ui_ap, if_neg (by omega), ui_ap, ui_ap, if_neg (by omega : ¬ ((M + 31) = (M + 30) ∧ _)), ui_ap, if_neg (by omega : ¬ ((M + 31) = (M + 29) ∧ _)), hF _ _ (by omega)]
        simp only [true_and])
    have r20 : 0 ≤ t0 ∧ t0 < 20 := ht
    clear ih hP hF hW hRJ hR
    simp only [q201_220, q201_221, q201_224, q201_225, q201_228, q201_229, q201_232, q201_233, q201_234, q201_237, q201_238, q201_241, q201_242, q201_243, q201_244, q201_247, q201_248, q201_251, q201_254, q201_255, q201_256, q201_257, q201_260, q201_261, q201_262, q201_265, q201_266, q201_269, q201_270, q201_271, m_0 hS, m_K hS, mR_writtenMany hS, mK_writtenMany hS, mL_writtenMany hS, mR_textFrom hS, mK_textFrom hS, mL_textFrom hS, mR_struckFrom hS, mK_struckFrom hS, mL_struckFrom hS, as_nil, as_i, as_r, Nat.reduceAdd, Nat.reduceLeDiff, z_eq0, z_eq1, z_or, z_em, Classical.not_not, not_false_eq_true, not_true_eq_false, true_and, and_true, false_and, and_false, and_self, true_implies, false_implies, implies_true, Option.toList_some, Option.toList_none, List.cons_append, List.nil_append, Nat.add_eq_zero_iff, a_nl_i, a_nl_r, a_nl_n, true_or, or_true, eq_self, ok_4, ok_5, ok_6, ok_7, ok_9, ok_10, ok_20, ok_21, ok_24, ok_30, ok_48, ok_50, ok_60, ok_80, ok_120, ok_180, ok_192, ok_200, ok_900, ok_1000, ok_84000, ui_ap, ne_MM, ne_M0, ne_0M, Nat.reduceEqDiff, reduceIte, if_true, if_false, eE, eT, r20]
    try simp only [true_and, and_true]
    first
      | exact hp
      | grind
  have hgo : i < e → a_at d (a_xm a_m201) 186 [some (a_rf M), some (.int s), some (.int k), some (.int (i + 1))] [] (n, t, K, L, (a_ui J (M + 28) (50 * t0 + i).toNatClampNeg (J (M + 27) i.toNatClampNeg)), R) P := fun w => by
    have ei : (i + 1).toNatClampNeg = i.toNatClampNeg + 1 := cl_up q0 (by clear ih hP hF hW hRJ hR; grind)
    refine ih (by clear ih hP hF hW hRJ hR; grind) _ (by clear ih hP hF hW hRJ hR; grind) (by clear ih hP hF hW hRJ hR; grind) (sR_written hRJ) (fun x j p => by rw [ui_ap, if_neg (fun z => p z.1)]; exact hF x j p) (fun j => ?_)
    rw [ui_ap, n2, ei, hF (M + 27) _ (by omega)]
    by_cases c : j = 50 * t0.toNatClampNeg + i.toNatClampNeg
    · rw [if_pos ⟨rfl, c⟩, if_pos (by omega), c]
      congr 1
      omega
    · rw [if_neg (fun z => c z.2), hW]
      by_cases c2 : 50 * t0.toNatClampNeg ≤ j ∧ j < 50 * t0.toNatClampNeg + i.toNatClampNeg
      · rw [if_pos c2, if_pos (by omega)]
      · rw [if_neg c2, if_neg (by omega)]
  have hok : i < e → (0 ≤ 50 * t0 + i ∧ 50 * t0 + i < 1000) ∧ (0 ≤ i ∧ i < 50) := fun w => by
    have u4 := Int32.lt_iff_toInt_lt.mp w
    have u5 := Int32.le_iff_toInt_le.mp he.2
    have z1000 : (1000 : Int32).toInt = 1000 := rfl
    rw [Int32.le_iff_toInt_le, Int32.lt_iff_toInt_lt, t2]
    refine ⟨by omega, q0, ?_⟩
    rw [Int32.lt_iff_toInt_lt]
    omega
  clear ih hP hF hW hRJ hR
  rw [q201_186]
  simp only [q201_187, q201_188, q201_191, q201_194, q201_195, q201_198, q201_200, q201_201, q201_204, q201_205, q201_206, q201_207, q201_208, q201_211, q201_212, q201_213, q201_214, q201_217, m_0 hS, m_K hS, mR_written hS, mK_written hS, mL_written hS, mR_tape hS, mK_tape hS, mL_tape hS, as_nil, as_i, as_r, Nat.reduceAdd, Nat.reduceLeDiff, z_eq0, z_eq1, z_or, z_em, Classical.not_not, not_false_eq_true, not_true_eq_false, true_and, and_true, false_and, and_false, and_self, true_implies, false_implies, implies_true, Option.toList_some, Option.toList_none, List.cons_append, List.nil_append, Nat.add_eq_zero_iff, a_nl_i, a_nl_r, a_nl_n, true_or, or_true, eq_self, ok_4, ok_5, ok_6, ok_7, ok_9, ok_10, ok_20, ok_21, ok_24, ok_30, ok_48, ok_50, ok_60, ok_80, ok_120, ok_180, ok_192, ok_200, ok_900, ok_1000, ok_84000, eE, eT]
  clear hS
  grind
theorem pe_text (hS : m_S M K L R) (hR : mR M I) {s : Int32} (h1 : ¬ (0 ≤ s ∧ s ≤ 199) → P (some (.int (-1))) (n, t, K, L, (a_ui I (M + 23) 1 (I (M + 23) 1 + 1)), R)) (h2 : (0 ≤ s ∧ s ≤ 199) → I M 41 = 20 → P (some (.int (-6))) (n, t, K, L, (a_ui I (M + 23) 6 (I (M + 23) 6 + 1)), R)) (h3 : (0 ≤ s ∧ s ≤ 199) → ¬ I M 41 = 20 → (xT (I (M + 27)) (I M 40)).1 = false → ∀ J, mR M J → (∀ x j, ¬ sC M x j → ¬ x = (M + 28) → ¬ x = (M + 29) → ¬ x = (M + 30) → ¬ x = (M + 31) → ¬ (x = M ∧ (j = 40 ∨ j = 41)) → J x j = I x j) → J M 40 = 0 → J M 41 = I M 41 → (∀ x j, (x = (M + 28) ∨ x = (M + 29) ∨ x = (M + 30) ∨ x = (M + 31)) → J x j = I x j) → P (some (.int (-20 - (xT (I (M + 27)) (I M 40)).2.1))) (n, t, K, L, J, R)) (h4 : (0 ≤ s ∧ s ≤ 199) → ¬ I M 41 = 20 → (xT (I (M + 27)) (I M 40)).1 = true → ∀ J, mR M J → (∀ x j, ¬ sC M x j → ¬ x = (M + 28) → ¬ x = (M + 29) → ¬ x = (M + 30) → ¬ x = (M + 31) → ¬ (x = M ∧ (j = 40 ∨ j = 41)) → J x j = I x j) → J M 40 = 0 → J M 41 = I M 41 + 1 → (∀ j, J (M + 28) j = if 50 * (I M 41).toNatClampNeg ≤ j ∧ j < 50 * (I M 41).toNatClampNeg + (I M 40).toNatClampNeg then I (M + 27) (j - 50 * (I M 41).toNatClampNeg) else I (M + 28) j) → (∀ j, J (M + 29) j = if j = (I M 41).toNatClampNeg then (I M 40) else I (M + 29) j) → (∀ j, J (M + 30) j = if j = (I M 41).toNatClampNeg then s else I (M + 30) j) → (∀ j, J (M + 31) j = if j = (I M 41).toNatClampNeg then 1000000 else I (M + 31) j) → P (some (.int (I M 41 + 1 - 1))) (n, t, K, L, J, R)) : a_does (d + 16) 201 [a_rf M, .int s] (n, t, K, L, I, R) P := by
  have gT := rg_tapeMany hR
  have gX := rg_texts hR
  have gB := rg_base hR
  by_cases hs : 0 ≤ s ∧ s ≤ 199
  · by_cases hx : I M 41 = 20
    · have h2 := h2 hs hx
      clear h1 h3 h4
      rw [a_enter1 (M := a_m201) rfl (a_cat_rf (a_cat_int a_cat_nil)) (show 2 ≤ 4 by decide)]
      show a_at _ (a_xm a_m201) 0 [some (a_rf M), some (.int s), none, none] [] _ _
      simp only [q201_0, q201_1, q201_4, q201_7, q201_8, q201_9, q201_12, q201_13, q201_14, q201_17, q201_19, q201_22, q201_23, q201_25, q201_28, m_0 hS, m_K hS, sp_isShift, sp_refuse_1 hS, sp_refuse_2 hS, sp_refuse_3 hS, sp_refuse_4 hS, sp_refuse_5 hS, sp_refuse_6 hS, as_nil, as_i, as_r, Nat.reduceAdd, Nat.reduceLeDiff, z_eq0, z_eq1, z_or, z_em, Classical.not_not, not_false_eq_true, not_true_eq_false, true_and, and_true, false_and, and_false, and_self, true_implies, false_implies, implies_true, Option.toList_some, Option.toList_none, List.cons_append, List.nil_append, Nat.add_eq_zero_iff, a_nl_i, a_nl_r, a_nl_n, true_or, or_true, eq_self, ok_4, ok_5, ok_6, ok_7, ok_9, ok_10, ok_20, ok_21, ok_24, ok_30, ok_48, ok_50, ok_60, ok_80, ok_120, ok_180, ok_192, ok_200, ok_900, ok_1000, ok_84000, hs, hx]
      grind
    · have h3 := h3 hs hx
      have h4 := h4 hs hx
      -- the reader is set
      have hC : mC M (a_ui (a_ui (a_ui (a_ui (a_ui I M 46 0) M 48 (I M 40)) M 40 0) M 50 0) M 49 0) (a_ui (a_ui (a_ui (a_ui (a_ui I M 46 0) M 48 (I M 40)) M 40 0) M 50 0) M 49 0) := mC_refl (sR_at (sR_isBad (sR_tapeMany (sR_end (sR_isTold hR)) (by decide))))
      have hvw : ∀ a, vw M (a_ui (a_ui (a_ui (a_ui (a_ui (a_ui I M 46 0) M 48 (I M 40)) M 40 0) M 50 0) M 49 0) M 49 a) (I (M + 27)) (I M 40) := fun a => ⟨by rw [ui_ap, if_neg (by omega), ui_ap, if_neg (by omega), ui_ap, if_neg (by omega), ui_ap, if_neg (by omega), ui_ap, if_pos ⟨rfl, rfl⟩], gT, by rw [ui_ap, if_neg (by omega), ui_ap, if_neg (by omega), ui_ap, if_neg (by omega), ui_ap, if_neg (by omega), ui_ap, if_neg (by omega), ui_ap, if_neg (by omega)]; exact gB, fun j j0 j1 => by
        rw [show a_ui (a_ui (a_ui (a_ui (a_ui (a_ui I M 46 0) M 48 (I M 40)) M 40 0) M 50 0) M 49 0) M 49 a M 46 = 0 by rw [ui_ap, if_neg (by omega), ui_ap, if_neg (by omega), ui_ap, if_neg (by omega), ui_ap, if_neg (by omega), ui_ap, if_neg (by omega), ui_ap, if_pos ⟨rfl, rfl⟩], if_pos rfl, ui_ap, if_neg (by omega), ui_ap, if_neg (by omega), ui_ap, if_neg (by omega), ui_ap, if_neg (by omega), ui_ap, if_neg (by omega), ui_ap, if_neg (by omega)]⟩
      have hfr : ∀ J, mC M (a_ui (a_ui (a_ui (a_ui (a_ui I M 46 0) M 48 (I M 40)) M 40 0) M 50 0) M 49 0) J → ∀ x j, ¬ sC M x j → ¬ (x = M ∧ j = 40) → J x j = I x j := fun J hJ x j q1 q2 => by
        rw [hJ.2 x j q1]
        unfold sC at q1
        rw [ui_ap, if_neg (by omega), ui_ap, if_neg (by omega), ui_ap, if_neg q2, ui_ap, if_neg (by omega), ui_ap, if_neg (by omega)]
      have hbad : (xT (I (M + 27)) (I M 40)).1 = false → ∀ J, mC M (a_ui (a_ui (a_ui (a_ui (a_ui I M 46 0) M 48 (I M 40)) M 40 0) M 50 0) M 49 0) J → J M 49 = (xT (I (M + 27)) (I M 40)).2.1 → P (some (.int (-20 - J M 49))) (n, t, K, L, J, R) := fun w J hJ hat => by
        rw [hat]
        exact h3 w J hJ.1 (fun x j p p1 p2 p3 p4 p5 => hfr J hJ x j p (by omega)) (by rw [hJ.2 _ _ (by unfold sC; omega), ui_ap, if_neg (by omega), ui_ap, if_neg (by omega), ui_ap, if_pos ⟨rfl, rfl⟩]) (hfr J hJ _ _ (by unfold sC; omega) (by omega)) (fun x j q => hfr J hJ x j (by unfold sC; omega) (by omega))
      have e20 : (-20 : Int32) - 0 = -20 := by decide
      have e21 : (-20 : Int32) - 1 = -21 := by decide
      have c2 : (2 : Int32).toInt = 2 := rfl
      have z1 : (1 : Int32).toNatClampNeg = 1 := rfl
      have z0 : (0 : Int32).toNatClampNeg = 0 := rfl
      have n10 : ¬ (1 : Int32) = 0 := by decide
      have hC1 : mC M (a_ui (a_ui (a_ui (a_ui (a_ui I M 46 0) M 48 (I M 40)) M 40 0) M 50 0) M 49 0) (a_ui (a_ui (a_ui (a_ui (a_ui (a_ui I M 46 0) M 48 (I M 40)) M 40 0) M 50 0) M 49 0) M 49 1) := sC_at hC
      have hC2 : mC M (a_ui (a_ui (a_ui (a_ui (a_ui I M 46 0) M 48 (I M 40)) M 40 0) M 50 0) M 49 0) (a_ui (a_ui (a_ui (a_ui (a_ui (a_ui (a_ui I M 46 0) M 48 (I M 40)) M 40 0) M 50 0) M 49 0) M 49 1) M 49 2) := sC_at hC1
      have b0 : (a_ui (a_ui (a_ui (a_ui (a_ui I M 46 0) M 48 (I M 40)) M 40 0) M 50 0) M 49 0) M 49 = 0 := by rw [ui_ap, if_pos ⟨rfl, rfl⟩]
      have b1 : a_ui (a_ui (a_ui (a_ui (a_ui (a_ui I M 46 0) M 48 (I M 40)) M 40 0) M 50 0) M 49 0) M 49 1 M 49 = 1 := by rw [ui_ap, if_pos ⟨rfl, rfl⟩]
      have b2 : a_ui (a_ui (a_ui (a_ui (a_ui (a_ui (a_ui I M 46 0) M 48 (I M 40)) M 40 0) M 50 0) M 49 0) M 49 1) M 49 2 M 49 = 2 := by rw [ui_ap, if_pos ⟨rfl, rfl⟩]
      have d2 : a_ui (a_ui (a_ui (a_ui (a_ui (a_ui (a_ui I M 46 0) M 48 (I M 40)) M 40 0) M 50 0) M 49 0) M 49 1) M 49 2 M 50 = 0 := by rw [ui_ap, if_neg (by omega), ui_ap, if_neg (by omega), ui_ap, if_neg (by omega), ui_ap, if_pos ⟨rfl, rfl⟩]
      have f2 : ∀ j, a_ui (a_ui (a_ui (a_ui (a_ui (a_ui (a_ui I M 46 0) M 48 (I M 40)) M 40 0) M 50 0) M 49 0) M 49 1) M 49 2 (M + 32) j = I (M + 32) j := fun j => by rw [ui_ap, if_neg (by omega), ui_ap, if_neg (by omega), ui_ap, if_neg (by omega), ui_ap, if_neg (by omega), ui_ap, if_neg (by omega), ui_ap, if_neg (by omega), ui_ap, if_neg (by omega)]
      have w0 : vw M (a_ui (a_ui (a_ui (a_ui (a_ui I M 46 0) M 48 (I M 40)) M 40 0) M 50 0) M 49 0) (I (M + 27)) (I M 40) := ⟨by rw [ui_ap, if_neg (by omega), ui_ap, if_neg (by omega), ui_ap, if_neg (by omega), ui_ap, if_pos ⟨rfl, rfl⟩], gT, by rw [ui_ap, if_neg (by omega), ui_ap, if_neg (by omega), ui_ap, if_neg (by omega), ui_ap, if_neg (by omega), ui_ap, if_neg (by omega)]; exact gB, fun j j0 j1 => by
        rw [show (a_ui (a_ui (a_ui (a_ui (a_ui I M 46 0) M 48 (I M 40)) M 40 0) M 50 0) M 49 0) M 46 = 0 by rw [ui_ap, if_neg (by omega), ui_ap, if_neg (by omega), ui_ap, if_neg (by omega), ui_ap, if_neg (by omega), ui_ap, if_pos ⟨rfl, rfl⟩], if_pos rfl, ui_ap, if_neg (by omega), ui_ap, if_neg (by omega), ui_ap, if_neg (by omega), ui_ap, if_neg (by omega), ui_ap, if_neg (by omega)]⟩
      have wat : ∀ (J : Nat → Nat → Int32) (a : Int32), vw M J (I (M + 27)) (I M 40) → vw M (a_ui J M 49 a) (I (M + 27)) (I M 40) := fun J a h => vw_fr h (fun x j p q r => by rw [ui_ap, if_neg (by omega)])
      have w1 := wat _ 1 w0
      have w2 := wat _ 2 w1
      have hv0 := hv_x w0 (by rw [b0]; decide)
      have hv1 := hv_x w1 (by rw [b1]; decide)
      rw [b0, z0] at hv0
      rw [b1, z1] at hv1
      -- behind the reading
      have hfin : ∀ (J : Nat → Nat → Int32) (k : Int32) (u : Option Value), mC M (a_ui (a_ui (a_ui (a_ui (a_ui I M 46 0) M 48 (I M 40)) M 40 0) M 50 0) M 49 0) J → vw M J (I (M + 27)) (I M 40) → J M 49 = (xT (I (M + 27)) (I M 40)).2.1 → J M 50 = (if (xT (I (M + 27)) (I M 40)).1 = true then 0 else 1) → a_at (d + 15) (a_xm a_m201) 169 [some (a_rf M), some (.int s), some (.int k), u] [] (n, t, K, L, J, R) P := fun J k u hJ hw hat hb => by
        by_cases ok : (xT (I (M + 27)) (I M 40)).1 = true
        · rw [if_pos ok] at hb
          have h186 : ∀ k : Int32, a_at (d + 15) (a_xm a_m201) 186 [some (a_rf M), some (.int s), some (.int k), some (.int 0)] [] (n, t, K, L, J, R) P := fun k => by
            refine lx_text_186 hS gT ⟨gX.1, by clear h3 h4 hbad hfr hC hC1 hC2 w0 w1 w2 wat hR hv0 hv1 hJ hw; grind⟩ hJ.1 hw.1 (hfr J hJ _ _ (by unfold sC; omega) (by omega)) (fun J2 r1 r2 r3 r4 r5 r6 r7 => ?_) 0 (by decide) J (by decide) gT.1 hJ.1 (fun _ _ _ => rfl) (fun j => by rw [if_neg (by rw [z0]; omega)])
            refine h4 ok J2 r1 (fun x j p p1 p2 p3 p4 p5 => (r2 x j p1 p2 p3 p4 (by omega)).trans (hfr J hJ x j p (by omega))) ((r2 _ _ (by omega) (by omega) (by omega) (by omega) (by omega)).trans (by rw [hJ.2 _ _ (by unfold sC; omega), ui_ap, if_neg (by omega), ui_ap, if_neg (by omega), ui_ap, if_pos ⟨rfl, rfl⟩])) r3 (fun j => ?_) (fun j => ?_) (fun j => ?_) (fun j => ?_)
            · rw [r4, hfr J hJ (M + 27) _ (by unfold sC; omega) (by omega), hfr J hJ (M + 28) _ (by unfold sC; omega) (by omega)]
            · rw [r5, hfr J hJ (M + 29) _ (by unfold sC; omega) (by omega)]
            · rw [r6, hfr J hJ (M + 30) _ (by unfold sC; omega) (by omega)]
            · rw [r7, hfr J hJ (M + 31) _ (by unfold sC; omega) (by omega)]
          have h186 := h186 k
          clear h3 h4 hbad hfr hC hC1 hC2 w0 w1 w2 wat hR hv0 hv1 hJ hw
          simp only [q201_169, q201_170, q201_173, q201_184, q201_185, m_0 hS, m_K hS, as_nil, as_i, as_r, Nat.reduceAdd, Nat.reduceLeDiff, z_eq0, z_eq1, z_or, z_em, Classical.not_not, not_false_eq_true, not_true_eq_false, true_and, and_true, false_and, and_false, and_self, true_implies, false_implies, implies_true, Option.toList_some, Option.toList_none, List.cons_append, List.nil_append, Nat.add_eq_zero_iff, a_nl_i, a_nl_r, a_nl_n, true_or, or_true, eq_self, ok_4, ok_5, ok_6, ok_7, ok_9, ok_10, ok_20, ok_21, ok_24, ok_30, ok_48, ok_50, ok_60, ok_80, ok_120, ok_180, ok_192, ok_200, ok_900, ok_1000, ok_84000, hb]
          try simp only [true_and, and_true, true_implies, false_implies, implies_true, not_true_eq_false, not_false_eq_true]
          exact h186
        · have ok2 : (xT (I (M + 27)) (I M 40)).1 = false := by cases q : (xT (I (M + 27)) (I M 40)).1; rfl; exact absurd q ok
          rw [if_neg ok] at hb
          have hp := hbad ok2 J hJ hat
          clear h3 h4 hbad hfr hC hC1 hC2 w0 w1 w2 wat hR hv0 hv1 hJ hw
          simp only [q201_169, q201_170, q201_173, q201_176, q201_178, q201_179, q201_182, q201_183, m_0 hS, m_K hS, as_nil, as_i, as_r, Nat.reduceAdd, Nat.reduceLeDiff, z_eq0, z_eq1, z_or, z_em, Classical.not_not, not_false_eq_true, not_true_eq_false, true_and, and_true, false_and, and_false, and_self, true_implies, false_implies, implies_true, Option.toList_some, Option.toList_none, List.cons_append, List.nil_append, Nat.add_eq_zero_iff, a_nl_i, a_nl_r, a_nl_n, true_or, or_true, eq_self, ok_4, ok_5, ok_6, ok_7, ok_9, ok_10, ok_20, ok_21, ok_24, ok_30, ok_48, ok_50, ok_60, ok_80, ok_120, ok_180, ok_192, ok_200, ok_900, ok_1000, ok_84000, hb, n10]
          first
            | exact hp
            | grind
      -- behind sum or rule, with the FAULT known
      have hset : ∀ (J : Nat → Nat → Int32) (r : rdT) (b : Int32) (k : Int32) (u : Option Value), mC M (a_ui (a_ui (a_ui (a_ui (a_ui I M 46 0) M 48 (I M 40)) M 40 0) M 50 0) M 49 0) J → vw M J (I (M + 27)) (I M 40) → J M 49 = r.2.1 → (xT (I (M + 27)) (I M 40)) = (if r.2.1 = (I M 40) then r else (false, r.2.1, r.2.2)) → b = (if r.1 = true ∧ r.2.1 = (I M 40) then 0 else 1) → a_at (d + 15) (a_xm a_m201) 169 [some (a_rf M), some (.int s), some (.int k), u] [] (n, t, K, L, (a_ui J M 50 b), R) P := fun J r b k u jC jw jat hxt hb => by
        refine hfin _ k u (sC_isBad jC) (vw_fr jw (fun x j p q r => by rw [ui_ap, if_neg (by omega)])) ?_ ?_
        · rw [ui_ap, if_neg (by omega), jat, hxt]
          by_cases c : r.2.1 = (I M 40)
          · rw [if_pos c]
          · rw [if_neg c]
        · rw [ui_ap, if_pos ⟨rfl, rfl⟩, hb, hxt]
          by_cases c : r.2.1 = (I M 40)
          · rw [if_pos c]
            by_cases c1 : r.1 = true
            · rw [if_pos ⟨c1, c⟩, if_pos c1]
            · rw [if_neg (fun z => c1 z.1), if_neg c1]
          · rw [if_neg c, if_neg (fun z => c z.2)]
            rfl
      have nh := fun (J : Nat → Nat → Int32) (w : vw M J (I (M + 27)) (I M 40)) => (by rw [w.1]; exact gT.2 : J M 48 ≤ 50)
      have h83 : 0 < (I M 40) ∧ ((I (M + 27)) 0 = 66 ∨ (I (M + 27)) 0 = 87 ∨ (I (M + 27)) 0 = 79) → a_at (d + 15) (a_xm a_m201) 83 [some (a_rf M), some (.int s), some (.int ((I (M + 27)) 0)), none] [] (n, t, K, L, (a_ui (a_ui (a_ui (a_ui (a_ui I M 46 0) M 48 (I M 40)) M 40 0) M 50 0) M 49 0), R) P := fun cl => by
        simp only [q201_83, q201_84, q201_85, q201_88, q201_89, m_0 hS, m_K hS, as_nil, as_i, as_r, Nat.reduceAdd, Nat.reduceLeDiff, z_eq0, z_eq1, z_or, z_em, Classical.not_not, not_false_eq_true, not_true_eq_false, true_and, and_true, false_and, and_false, and_self, true_implies, false_implies, implies_true, Option.toList_some, Option.toList_none, List.cons_append, List.nil_append, Nat.add_eq_zero_iff, a_nl_i, a_nl_r, a_nl_n, true_or, or_true, eq_self, ok_4, ok_5, ok_6, ok_7, ok_9, ok_10, ok_20, ok_21, ok_24, ok_30, ok_48, ok_50, ok_60, ok_80, ok_120, ok_180, ok_192, ok_200, ok_900, ok_1000, ok_84000, ui_ap, ne_MM, ne_M0, ne_0M, Nat.reduceEqDiff, reduceIte, if_true, if_false]
        refine ct_hereC hS hC1.1 (by rw [b1]; decide) (nh _ w1) ?_
        rw [hv1]
        by_cases c58 : 1 < (I M 40) ∧ (I (M + 27)) 1 = 58
        · have m2 : (2 : Int32) ≤ (I M 40) := by have := c58.1; clear h3 h4 hbad hfr hC hC1 hC2 w0 w1 w2 wat hR hv0 hv1 hfin hset c58 cl; grind
          rw [if_pos c58.1, c58.2]
          by_cases c79 : (I (M + 27)) 0 = 79
          · have hxt : (xT (I (M + 27)) (I M 40)) = if (xS (I (M + 27)) (I M 40) 2).2.1 = (I M 40) then xS (I (M + 27)) (I M 40) 2 else (false, (xS (I (M + 27)) (I M 40) 2).2.1, (xS (I (M + 27)) (I M 40) 2).2.2) := by
              unfold xT
              rw [if_pos cl, if_pos c58, if_pos c79]
            have hub := xS_b (f := (I (M + 27))) m2
            rw [c79]
            simp only [q201_92, q201_94, q201_97, q201_99, q201_100, q201_101, q201_102, q201_105, q201_106, q201_108, q201_111, q201_112, m_0 hS, m_K hS, as_nil, as_i, as_r, Nat.reduceAdd, Nat.reduceLeDiff, z_eq0, z_eq1, z_or, z_em, Classical.not_not, not_false_eq_true, not_true_eq_false, true_and, and_true, false_and, and_false, and_self, true_implies, false_implies, implies_true, Option.toList_some, Option.toList_none, List.cons_append, List.nil_append, Nat.add_eq_zero_iff, a_nl_i, a_nl_r, a_nl_n, true_or, or_true, eq_self, ok_4, ok_5, ok_6, ok_7, ok_9, ok_10, ok_20, ok_21, ok_24, ok_30, ok_48, ok_50, ok_60, ok_80, ok_120, ok_180, ok_192, ok_200, ok_900, ok_1000, ok_84000, ui_ap, ne_MM, ne_M0, ne_0M, Nat.reduceEqDiff, reduceIte, if_true, if_false]
            try simp only [true_and, and_true, true_implies, false_implies, implies_true, not_true_eq_false, not_false_eq_true]
            refine xe_readSum hS hC2.1 w2 (by rw [b2]; exact ⟨by decide, m2⟩) d2 (fun J j1 j2 j3 => ?_)
            rw [b2] at j2 j3 ⊢
            generalize xS (I (M + 27)) (I M 40) 2 = r at j2 j3 hxt hub ⊢
            have jC := mC_T hC2 j1
            have jw := vw_T w2 j1
            have een : J M 48 = (I M 40) := jw.1
            have hs0 := fun k u => hset J r 0 k u jC jw j2 hxt
            have hs1 := fun k u => hset J r 1 k u jC jw j2 hxt
            by_cases ok : r.1 = true ∧ r.2.1 = (I M 40)
            · have hs0 := fun k u => hs0 k u (by rw [if_pos ok])
              rw [if_pos ok.1] at j3
              have hge : ¬ J M 49 < J M 48 := by rw [j2, een, ok.2]; exact Int32.lt_irrefl
              clear h3 h4 hbad hfr hC hC1 hC2 w0 w1 w2 wat hR hv0 hv1 hfin hset hs1 jC jw
              simp only [q201_115, q201_116, q201_117, q201_118, q201_121, q201_124, q201_125, q201_128, q201_129, q201_132, q201_135, q201_136, q201_139, q201_140, q201_143, m_0 hS, m_K hS, as_nil, as_i, as_r, Nat.reduceAdd, Nat.reduceLeDiff, z_eq0, z_eq1, z_or, z_em, Classical.not_not, not_false_eq_true, not_true_eq_false, true_and, and_true, false_and, and_false, and_self, true_implies, false_implies, implies_true, Option.toList_some, Option.toList_none, List.cons_append, List.nil_append, Nat.add_eq_zero_iff, a_nl_i, a_nl_r, a_nl_n, true_or, or_true, eq_self, ok_4, ok_5, ok_6, ok_7, ok_9, ok_10, ok_20, ok_21, ok_24, ok_30, ok_48, ok_50, ok_60, ok_80, ok_120, ok_180, ok_192, ok_200, ok_900, ok_1000, ok_84000, ui_ap, ne_MM, ne_M0, ne_0M, Nat.reduceEqDiff, reduceIte, if_true, if_false, j3, hge]
              try simp only [true_and, and_true, true_implies, false_implies, implies_true, not_true_eq_false, not_false_eq_true]
              first
                | exact hs0 _ _
                | grind
            · have hs1 := fun k u => hs1 k u (by rw [if_neg ok])
              have hbb : ¬ J M 50 = 0 ∨ J M 49 < J M 48 := by
                by_cases c1 : r.1 = true
                · refine Or.inr ?_
                  rw [j2, een]
                  have q1 := hub.2.1
                  have q2 : ¬ r.2.1 = (I M 40) := fun z => ok ⟨c1, z⟩
                  clear h3 h4 hbad hfr hC hC1 hC2 w0 w1 w2 wat hR hv0 hv1 hfin hset hs0 hs1 jC jw hxt ok
                  grind
                · rw [if_neg c1] at j3
                  exact Or.inl (by rw [j3]; decide)
              clear h3 h4 hbad hfr hC hC1 hC2 w0 w1 w2 wat hR hv0 hv1 hfin hset hs0 jC jw j3
              simp only [q201_115, q201_116, q201_117, q201_118, q201_121, q201_124, q201_125, q201_128, q201_129, q201_132, q201_135, q201_136, q201_139, q201_140, q201_143, m_0 hS, m_K hS, as_nil, as_i, as_r, Nat.reduceAdd, Nat.reduceLeDiff, z_eq0, z_eq1, z_or, z_em, Classical.not_not, not_false_eq_true, not_true_eq_false, true_and, and_true, false_and, and_false, and_self, true_implies, false_implies, implies_true, Option.toList_some, Option.toList_none, List.cons_append, List.nil_append, Nat.add_eq_zero_iff, a_nl_i, a_nl_r, a_nl_n, true_or, or_true, eq_self, ok_4, ok_5, ok_6, ok_7, ok_9, ok_10, ok_20, ok_21, ok_24, ok_30, ok_48, ok_50, ok_60, ok_80, ok_120, ok_180, ok_192, ok_200, ok_900, ok_1000, ok_84000, ui_ap, ne_MM, ne_M0, ne_0M, Nat.reduceEqDiff, reduceIte, if_true, if_false]
              grind
          · have hxt : (xT (I (M + 27)) (I M 40)) = if (xR (I (M + 27)) (I M 40) 2).2.1 = (I M 40) then xR (I (M + 27)) (I M 40) 2 else (false, (xR (I (M + 27)) (I M 40) 2).2.1, (xR (I (M + 27)) (I M 40) 2).2.2) := by
              unfold xT
              rw [if_pos cl, if_pos c58, if_neg c79]
            simp only [q201_92, q201_94, q201_97, q201_99, q201_100, q201_101, q201_102, q201_105, q201_106, q201_108, q201_146, q201_147, q201_148, m_0 hS, m_K hS, as_nil, as_i, as_r, Nat.reduceAdd, Nat.reduceLeDiff, z_eq0, z_eq1, z_or, z_em, Classical.not_not, not_false_eq_true, not_true_eq_false, true_and, and_true, false_and, and_false, and_self, true_implies, false_implies, implies_true, Option.toList_some, Option.toList_none, List.cons_append, List.nil_append, Nat.add_eq_zero_iff, a_nl_i, a_nl_r, a_nl_n, true_or, or_true, eq_self, ok_4, ok_5, ok_6, ok_7, ok_9, ok_10, ok_20, ok_21, ok_24, ok_30, ok_48, ok_50, ok_60, ok_80, ok_120, ok_180, ok_192, ok_200, ok_900, ok_1000, ok_84000, ui_ap, ne_MM, ne_M0, ne_0M, Nat.reduceEqDiff, reduceIte, if_true, if_false, c79]
            try simp only [true_and, and_true, true_implies, false_implies, implies_true, not_true_eq_false, not_false_eq_true]
            refine xe_readRule (I0 := (a_ui (a_ui (a_ui (a_ui (a_ui I M 46 0) M 48 (I M 40)) M 40 0) M 50 0) M 49 0)) (fc := I (M + 32)) hS hC2 w2 f2 b2 ⟨by decide, m2⟩ d2 (fun J hz => ?_)
            obtain ⟨jC, jw, -, j2, j3⟩ := hz
            generalize xR (I (M + 27)) (I M 40) 2 = r at j2 j3 hxt ⊢
            by_cases ok : r.1 = true ∧ r.2.1 = (I M 40)
            · have hs0 := fun k u => hset J r 0 k u jC jw j2 hxt (by rw [if_pos ok])
              rw [if_pos ok] at j3
              rw [if_pos ok]
              generalize r.2.2 (I (M + 32)) = v
              clear h3 h4 hbad hfr hC hC1 hC2 w0 w1 w2 wat hR hv0 hv1 hfin hset jC jw
              simp only [q201_151, q201_154, q201_155, q201_158, q201_161, q201_162, q201_165, q201_166, m_0 hS, m_K hS, as_nil, as_i, as_r, Nat.reduceAdd, Nat.reduceLeDiff, z_eq0, z_eq1, z_or, z_em, Classical.not_not, not_false_eq_true, not_true_eq_false, true_and, and_true, false_and, and_false, and_self, true_implies, false_implies, implies_true, Option.toList_some, Option.toList_none, List.cons_append, List.nil_append, Nat.add_eq_zero_iff, a_nl_i, a_nl_r, a_nl_n, true_or, or_true, eq_self, ok_4, ok_5, ok_6, ok_7, ok_9, ok_10, ok_20, ok_21, ok_24, ok_30, ok_48, ok_50, ok_60, ok_80, ok_120, ok_180, ok_192, ok_200, ok_900, ok_1000, ok_84000, ui_ap, ne_MM, ne_M0, ne_0M, Nat.reduceEqDiff, reduceIte, if_true, if_false, j3]
              grind
            · have hs1 := fun k u => hset J r 1 k u jC jw j2 hxt (by rw [if_neg ok])
              rw [if_neg ok] at j3
              rw [if_neg ok]
              clear h3 h4 hbad hfr hC hC1 hC2 w0 w1 w2 wat hR hv0 hv1 hfin hset jC jw
              simp only [q201_151, q201_154, q201_155, q201_158, q201_161, q201_162, q201_165, q201_166, m_0 hS, m_K hS, as_nil, as_i, as_r, Nat.reduceAdd, Nat.reduceLeDiff, z_eq0, z_eq1, z_or, z_em, Classical.not_not, not_false_eq_true, not_true_eq_false, true_and, and_true, false_and, and_false, and_self, true_implies, false_implies, implies_true, Option.toList_some, Option.toList_none, List.cons_append, List.nil_append, Nat.add_eq_zero_iff, a_nl_i, a_nl_r, a_nl_n, true_or, or_true, eq_self, ok_4, ok_5, ok_6, ok_7, ok_9, ok_10, ok_20, ok_21, ok_24, ok_30, ok_48, ok_50, ok_60, ok_80, ok_120, ok_180, ok_192, ok_200, ok_900, ok_1000, ok_84000, ui_ap, ne_MM, ne_M0, ne_0M, Nat.reduceEqDiff, reduceIte, if_true, if_false, j3, n10]
              try simp only [true_and, and_true, true_implies, false_implies, implies_true, not_true_eq_false, not_false_eq_true]
              first
                | exact hs1 _ _
                | grind
        · have hxt : (xT (I (M + 27)) (I M 40)) = (false, 1, fun _ => 0) := by
            unfold xT
            rw [if_pos cl, if_neg c58]
          have hp := hbad (by rw [hxt]) _ hC1 (by rw [b1, hxt])
          rw [b1, e21] at hp
          have n58 : ¬ (if 1 < (I M 40) then (I (M + 27)) 1 else -1) = 58 := by
            by_cases l : 1 < (I M 40)
            · rw [if_pos l]; exact fun z => c58 ⟨l, z⟩
            · rw [if_neg l]; decide
          generalize (if 1 < (I M 40) then (I (M + 27)) 1 else -1) = g at n58 ⊢
          clear h3 h4 hbad hfr hC hC1 hC2 w0 w1 w2 wat hR hv0 hv1 hfin hset
          simp only [q201_92, q201_94, q201_97, q201_99, as_nil, as_i, as_r, Nat.reduceAdd, Nat.reduceLeDiff, z_eq0, z_eq1, z_or, z_em, Classical.not_not, not_false_eq_true, not_true_eq_false, true_and, and_true, false_and, and_false, and_self, true_implies, false_implies, implies_true, Option.toList_some, Option.toList_none, List.cons_append, List.nil_append, Nat.add_eq_zero_iff, a_nl_i, a_nl_r, a_nl_n, true_or, or_true, eq_self, ok_4, ok_5, ok_6, ok_7, ok_9, ok_10, ok_20, ok_21, ok_24, ok_30, ok_48, ok_50, ok_60, ok_80, ok_120, ok_180, ok_192, ok_200, ok_900, ok_1000, ok_84000, n58]
          first
            | exact hp
            | grind
      rw [a_enter1 (M := a_m201) rfl (a_cat_rf (a_cat_int a_cat_nil)) (show 2 ≤ 4 by decide)]
      show a_at _ (a_xm a_m201) 0 [some (a_rf M), some (.int s), none, none] [] _ _
      have n10 : ¬ (1 : Int32) = 0 := by decide
      simp only [q201_0, q201_1, q201_4, q201_7, q201_8, q201_9, q201_12, q201_13, q201_14, q201_17, q201_19, q201_22, q201_23, q201_25, q201_28, q201_29, q201_30, q201_31, q201_34, q201_35, q201_36, q201_39, q201_42, q201_43, q201_44, q201_47, q201_48, q201_49, q201_52, q201_53, q201_54, q201_57, q201_58, m_0 hS, m_K hS, sp_isShift, sp_refuse_1 hS, sp_refuse_2 hS, sp_refuse_3 hS, sp_refuse_4 hS, sp_refuse_5 hS, sp_refuse_6 hS, as_nil, as_i, as_r, Nat.reduceAdd, Nat.reduceLeDiff, z_eq0, z_eq1, z_or, z_em, Classical.not_not, not_false_eq_true, not_true_eq_false, true_and, and_true, false_and, and_false, and_self, true_implies, false_implies, implies_true, Option.toList_some, Option.toList_none, List.cons_append, List.nil_append, Nat.add_eq_zero_iff, a_nl_i, a_nl_r, a_nl_n, true_or, or_true, eq_self, ok_4, ok_5, ok_6, ok_7, ok_9, ok_10, ok_20, ok_21, ok_24, ok_30, ok_48, ok_50, ok_60, ok_80, ok_120, ok_180, ok_192, ok_200, ok_900, ok_1000, ok_84000, ui_ap, ne_MM, ne_M0, ne_0M, Nat.reduceEqDiff, reduceIte, if_true, if_false, hs, hx, n10]
      try simp only [true_and, and_true, true_implies, false_implies, implies_true, not_true_eq_false, not_false_eq_true]
      refine ct_hereC hS hC.1 (by rw [b0]; decide) (nh _ w0) ?_
      rw [hv0]
      by_cases cl : 0 < (I M 40) ∧ ((I (M + 27)) 0 = 66 ∨ (I (M + 27)) 0 = 87 ∨ (I (M + 27)) 0 = 79)
      · have h83 := h83 cl
        rw [if_pos cl.1]
        have cl2 := cl.2
        generalize (I (M + 27)) 0 = g at cl2 h83 ⊢
        clear h3 h4 hbad hfr hC hC1 hC2 w0 w1 w2 wat hR hv0 hv1 hfin hset cl
        simp only [q201_61, q201_62, q201_63, q201_65, q201_68, q201_69, q201_71, q201_74, q201_75, q201_77, as_nil, as_i, as_r, Nat.reduceAdd, Nat.reduceLeDiff, z_eq0, z_eq1, z_or, z_em, Classical.not_not, not_false_eq_true, not_true_eq_false, true_and, and_true, false_and, and_false, and_self, true_implies, false_implies, implies_true, Option.toList_some, Option.toList_none, List.cons_append, List.nil_append, Nat.add_eq_zero_iff, a_nl_i, a_nl_r, a_nl_n, true_or, or_true, eq_self, ok_4, ok_5, ok_6, ok_7, ok_9, ok_10, ok_20, ok_21, ok_24, ok_30, ok_48, ok_50, ok_60, ok_80, ok_120, ok_180, ok_192, ok_200, ok_900, ok_1000, ok_84000]
        grind
      · have hxt : (xT (I (M + 27)) (I M 40)) = (false, 0, fun _ => 0) := by
          unfold xT
          rw [if_neg cl]
        have hp := hbad (by rw [hxt]) _ hC (by rw [b0, hxt])
        rw [b0, e20] at hp
        have ng : ¬ (if 0 < (I M 40) then (I (M + 27)) 0 else -1) = 66 ∧ ¬ (if 0 < (I M 40) then (I (M + 27)) 0 else -1) = 87 ∧ ¬ (if 0 < (I M 40) then (I (M + 27)) 0 else -1) = 79 := by
          by_cases l : 0 < (I M 40)
          · rw [if_pos l]; exact ⟨fun z => cl ⟨l, Or.inl z⟩, fun z => cl ⟨l, Or.inr (Or.inl z)⟩, fun z => cl ⟨l, Or.inr (Or.inr z)⟩⟩
          · rw [if_neg l]; decide
        generalize (if 0 < (I M 40) then (I (M + 27)) 0 else -1) = g at ng ⊢
        clear h3 h4 hbad hfr hC hC1 hC2 w0 w1 w2 wat hR hv0 hv1 hfin hset h83 cl
        simp only [q201_61, q201_62, q201_63, q201_65, q201_68, q201_69, q201_71, q201_74, q201_75, q201_77, q201_80, q201_82, as_nil, as_i, as_r, Nat.reduceAdd, Nat.reduceLeDiff, z_eq0, z_eq1, z_or, z_em, Classical.not_not, not_false_eq_true, not_true_eq_false, true_and, and_true, false_and, and_false, and_self, true_implies, false_implies, implies_true, Option.toList_some, Option.toList_none, List.cons_append, List.nil_append, Nat.add_eq_zero_iff, a_nl_i, a_nl_r, a_nl_n, true_or, or_true, eq_self, ok_4, ok_5, ok_6, ok_7, ok_9, ok_10, ok_20, ok_21, ok_24, ok_30, ok_48, ok_50, ok_60, ok_80, ok_120, ok_180, ok_192, ok_200, ok_900, ok_1000, ok_84000, ng]
        first
          | exact hp
          | grind
  · have h1 := h1 hs
    clear h2 h3 h4
    rw [a_enter1 (M := a_m201) rfl (a_cat_rf (a_cat_int a_cat_nil)) (show 2 ≤ 4 by decide)]
    show a_at _ (a_xm a_m201) 0 [some (a_rf M), some (.int s), none, none] [] _ _
    simp only [q201_0, q201_1, q201_4, q201_7, q201_8, q201_9, q201_12, m_0 hS, m_K hS, sp_isShift, sp_refuse_1 hS, sp_refuse_2 hS, sp_refuse_3 hS, sp_refuse_4 hS, sp_refuse_5 hS, sp_refuse_6 hS, as_nil, as_i, as_r, Nat.reduceAdd, Nat.reduceLeDiff, z_eq0, z_eq1, z_or, z_em, Classical.not_not, not_false_eq_true, not_true_eq_false, true_and, and_true, false_and, and_false, and_self, true_implies, false_implies, implies_true, Option.toList_some, Option.toList_none, List.cons_append, List.nil_append, Nat.add_eq_zero_iff, a_nl_i, a_nl_r, a_nl_n, true_or, or_true, eq_self, ok_4, ok_5, ok_6, ok_7, ok_9, ok_10, ok_20, ok_21, ok_24, ok_30, ok_48, ok_50, ok_60, ok_80, ok_120, ok_180, ok_192, ok_200, ok_900, ok_1000, ok_84000, hs]
    grind
end XG
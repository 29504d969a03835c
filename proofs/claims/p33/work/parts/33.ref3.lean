/-! reading a text -/
section RT
variable {d n t M : Nat} {K L : Nat → Nat} {I I0 : Nat → Nat → Int32} {R : Nat → Nat → Nat} {P : Option Value → AH → Prop}
/-- what the reader sees -/
def hv (M : Nat) (J : Nat → Nat → Int32) : Int32 := if J M 48 ≤ J M 49 then -1 else if J M 46 = 0 then J (M + 27) (J M 49).toNatClampNeg else J (M + 28) (J M 47 + J M 49).toNatClampNeg
def fv (c : Int32) : Int32 := if c = 107 then 0 else if c = 103 then 1 else if c = 108 then 2 else if c = 110 then 3 else if c = 100 then 4 else if c = 109 then 5 else if c = 115 then 6 else if c = 98 then 7 else if c = 116 then 8 else -1
/-- while it reads, only 'at' and 'isBad' change -/
def rE (M : Nat) (I0 : Nat → Nat → Int32) : Prop := (0 ≤ I0 M 49 ∧ I0 M 49 ≤ 52) ∧ I0 M 48 ≤ 50 ∧ (0 ≤ I0 M 47 ∧ I0 M 47 ≤ 950)
def rT (M : Nat) (I0 J : Nat → Nat → Int32) : Prop := mR M J ∧ (∀ x j, ¬ (x = M ∧ (j = 49 ∨ j = 50)) → J x j = I0 x j) ∧ I0 M 49 ≤ J M 49 ∧ J M 49 ≤ 52
theorem rT_refl (h : mR M I) (hE : rE M I) : rT M I I := ⟨h, fun _ _ _ => rfl, Int32.le_refl _, hE.1.2⟩
theorem sT_at {J : Nat → Nat → Int32} (h : rT M I0 J) {v : Int32} (hv : J M 49 ≤ v ∧ v ≤ 52) : rT M I0 (a_ui J M 49 v) := by
  refine ⟨sR_at h.1, fun x j hx => ?_, ?_, ?_⟩
  · rw [ui_ap, if_neg (by omega)]; exact h.2.1 x j hx
  · rw [ui_ap, if_pos ⟨rfl, rfl⟩]; exact Int32.le_trans h.2.2.1 hv.1
  · rw [ui_ap, if_pos ⟨rfl, rfl⟩]; exact hv.2
theorem sT_isBad {J : Nat → Nat → Int32} (h : rT M I0 J) {v : Int32} : rT M I0 (a_ui J M 50 v) := by
  refine ⟨sR_isBad h.1, fun x j hx => ?_, ?_, ?_⟩
  · rw [ui_ap, if_neg (by omega)]; exact h.2.1 x j hx
  · rw [ui_ap, if_neg (by omega)]; exact h.2.2.1
  · rw [ui_ap, if_neg (by omega)]; exact h.2.2.2
theorem rT_end {J : Nat → Nat → Int32} (h : rT M I0 J) : J M 48 = I0 M 48 := h.2.1 _ _ (by omega)
theorem rT_base {J : Nat → Nat → Int32} (h : rT M I0 J) : J M 47 = I0 M 47 := h.2.1 _ _ (by omega)
theorem ct_here {J : Nat → Nat → Int32} (hS : m_S M K L R) (hE : rE M I0) (hT : rT M I0 J) (hP : P (some (.int (hv M J))) (n, t, K, L, J, R)) : a_does (d + 1) 198 [a_rf M] (n, t, K, L, J, R) P := by
  have e1 := rT_end hT
  have e2 := rT_base hT
  obtain ⟨⟨h1, h2⟩, h3, h4, h5⟩ := hE
  obtain ⟨-, -, h6, h7⟩ := hT
  rw [← e1] at h3
  rw [← e2] at h4 h5
  unfold hv at hP
  rw [a_enter1 (M := a_m198) rfl (a_cat_rf a_cat_nil) (show 1 ≤ 1 by decide)]
  show a_at _ (a_xm a_m198) 0 [some (a_rf M)] [] _ _
  simp only [q198_0, q198_1, q198_4, q198_5, q198_8, q198_11, q198_12, q198_15, q198_16, q198_19, q198_22, q198_23, q198_26, q198_27, q198_30, q198_31, q198_34, q198_35, q198_36, q198_39, q198_40, q198_43, q198_44, q198_47, q198_48, m_0 hS, m_K hS, mR_written hS, mK_written hS, mL_written hS, mR_tape hS, mK_tape hS, mL_tape hS, as_nil, as_i, as_r, Nat.reduceAdd, Nat.reduceLeDiff, z_eq0, z_eq1, z_or, z_em, Classical.not_not, not_false_eq_true, not_true_eq_false, true_and, and_true, false_and, and_false, and_self, true_implies, false_implies, implies_true, Option.toList_some, Option.toList_none, List.cons_append, List.nil_append, Nat.add_eq_zero_iff, a_nl_i, a_nl_r, a_nl_n, true_or, or_true, eq_self, ok_4, ok_5, ok_6, ok_7, ok_9, ok_10, ok_20, ok_21, ok_24, ok_30, ok_48, ok_50, ok_60, ok_80, ok_120, ok_180, ok_192, ok_200, ok_900, ok_1000, ok_84000]
  refine ⟨fun g1 => ?_, fun g1 => ?_⟩
  · refine ⟨fun g2 => ?_, fun g2 => ⟨by grind, ?_⟩⟩
    · refine ⟨by grind, ?_⟩
      rw [if_neg (by grind), if_pos g2] at hP
      exact hP
    · rw [if_neg (by grind), if_neg g2] at hP
      exact hP
  · rw [if_pos (by grind)] at hP
    exact hP
theorem ct_factOf {c : Int32} {h : AH} (hP : P (some (.int (fv c))) h) : a_does (d + 1) 199 [.int c] h P := by
  unfold fv at hP
  rw [a_enter1 (M := a_m199) rfl (a_cat_int a_cat_nil) (show 1 ≤ 1 by decide)]
  show a_at _ (a_xm a_m199) 0 [some (.int c)] [] _ _
  simp only [q199_0, q199_1, q199_92, q199_93, q199_94, q199_95, q199_96, q199_97, q199_98, q199_99, q199_100, q199_101, q199_102, q199_103, q199_104, q199_106, q199_107, q199_109, q199_110, q199_112, q199_113, q199_114, a_sw, ti_0, ti_1, ti_2, ti_3, ti_4, ti_5, ti_6, ti_7, ti_8, ti_9, ti_10, ti_11, ti_12, ti_13, ti_14, ti_15, ti_16, ti_17, ti_18, ti_19, ti_98, ti_99, ti_100, ti_101, ti_102, ti_103, ti_104, ti_105, ti_106, ti_107, ti_108, ti_109, ti_110, ti_111, ti_112, ti_113, ti_114, ti_115, ti_116]
  grind (splits := 40)
theorem fv_le (c : Int32) : -1 ≤ fv c ∧ fv c ≤ 8 := by unfold fv; grind
theorem fv_m : fv (-1) = -1 := by decide +kernel
theorem lp_readUnit_56 (hS : m_S M K L R) (hE : rE M I0) (hP : ∀ v J, rT M I0 J → I M 49 ≤ J M 49 → P (some (.int v)) (n, t, K, L, J, R)) {c : Int32} : ∀ k : Int32, k ≤ 3 → ∀ v J, 0 ≤ k → rT M I0 J → I M 49 ≤ J M 49 → a_at (d + 1) (a_xm a_m197) 56 [some (a_rf M), some (.int c), some (.int v), some (.int k)] [] (n, t, K, L, J, R) P := by
  refine up_ind 3 (fun k hk ih => ?_)
  intro v J h0 hT hJ
  have e1 := rT_end hT
  have e2 := hE.2.1
  rw [q197_56]
  repeat' first
    | with_reducible apply And.intro
    | with_reducible assumption
    | with_reducible intro _
    | with_reducible apply ih
    | with_reducible apply hP
    | with_reducible apply ct_here hS hE
    | with_reducible apply sT_at
    | with_reducible apply sT_isBad
    | simp only [q197_0, q197_1, q197_4, q197_5, q197_6, q197_9, q197_12, q197_13, q197_14, q197_17, q197_18, q197_19, q197_22, q197_23, q197_26, q197_27, q197_30, q197_31, q197_32, q197_33, q197_34, q197_36, q197_38, q197_41, q197_44, q197_45, q197_48, q197_49, q197_52, q197_53, q197_54, q197_55, q197_57, q197_58, q197_61, q197_62, q197_65, q197_67, q197_69, q197_72, q197_75, q197_77, q197_78, q197_79, q197_80, q197_83, q197_84, q197_86, q197_87, q197_88, q197_89, q197_90, q197_93, q197_94, q197_95, q197_98, q197_101, q197_104, q197_105, m_0 hS, m_K hS, mR_facts hS, mK_facts hS, mL_facts hS, sp_in, as_nil, as_i, as_r, Nat.reduceAdd, Nat.reduceLeDiff, z_eq0, z_eq1, z_or, z_em, Classical.not_not, not_false_eq_true, not_true_eq_false, true_and, and_true, false_and, and_false, and_self, true_implies, false_implies, implies_true, Option.toList_some, Option.toList_none, List.cons_append, List.nil_append, Nat.add_eq_zero_iff, a_nl_i, a_nl_r, a_nl_n, true_or, or_true, eq_self, ok_4, ok_5, ok_6, ok_7, ok_9, ok_10, ok_20, ok_21, ok_24, ok_30, ok_48, ok_50, ok_60, ok_80, ok_120, ok_180, ok_192, ok_200, ok_900, ok_1000, ok_84000]
  all_goals grind [ui_ap, hv, rT]
theorem ct_readUnit (hS : m_S M K L R) (hE : rE M I0) (hT : rT M I0 I) (hP : ∀ v J, rT M I0 J → I M 49 ≤ J M 49 → P (some (.int v)) (n, t, K, L, J, R)) : a_does (d + 2) 197 [a_rf M] (n, t, K, L, I, R) P := by
  have e1 := rT_end hT
  have e2 := hE.2.1
  have e3 := fv_le (hv M I)
  have e4 := fv_m
  rw [a_enter1 (M := a_m197) rfl (a_cat_rf a_cat_nil) (show 1 ≤ 4 by decide)]
  show a_at _ (a_xm a_m197) 0 [some (a_rf M), none, none, none] [] _ _
  repeat' first
    | with_reducible apply And.intro
    | with_reducible assumption
    | with_reducible intro _
    | with_reducible apply hP
    | with_reducible apply ct_here hS hE
    | with_reducible apply ct_factOf
    | with_reducible apply lp_readUnit_56 hS hE hP
    | with_reducible apply sT_at
    | with_reducible apply sT_isBad
    | simp only [q197_0, q197_1, q197_4, q197_5, q197_6, q197_9, q197_12, q197_13, q197_14, q197_17, q197_18, q197_19, q197_22, q197_23, q197_26, q197_27, q197_30, q197_31, q197_32, q197_33, q197_34, q197_36, q197_38, q197_41, q197_44, q197_45, q197_48, q197_49, q197_52, q197_53, q197_54, q197_55, q197_57, q197_58, q197_61, q197_62, q197_65, q197_67, q197_69, q197_72, q197_75, q197_77, q197_78, q197_79, q197_80, q197_83, q197_84, q197_86, q197_87, q197_88, q197_89, q197_90, q197_93, q197_94, q197_95, q197_98, q197_101, q197_104, q197_105, m_0 hS, m_K hS, mR_facts hS, mK_facts hS, mL_facts hS, sp_in, as_nil, as_i, as_r, Nat.reduceAdd, Nat.reduceLeDiff, z_eq0, z_eq1, z_or, z_em, Classical.not_not, not_false_eq_true, not_true_eq_false, true_and, and_true, false_and, and_false, and_self, true_implies, false_implies, implies_true, Option.toList_some, Option.toList_none, List.cons_append, List.nil_append, Nat.add_eq_zero_iff, a_nl_i, a_nl_r, a_nl_n, true_or, or_true, eq_self, ok_4, ok_5, ok_6, ok_7, ok_9, ok_10, ok_20, ok_21, ok_24, ok_30, ok_48, ok_50, ok_60, ok_80, ok_120, ok_180, ok_192, ok_200, ok_900, ok_1000, ok_84000]
  all_goals grind [ui_ap, hv, rT]
theorem lp_readSum_5 (hS : m_S M K L R) (hE : rE M I0) (hP : ∀ v J, rT M I0 J → I M 49 ≤ J M 49 → P (some (.int v)) (n, t, K, L, J, R)) : ∀ a : Int32, a ≤ 52 → ∀ v c w J, J M 49 = a → rT M I0 J → I M 49 ≤ J M 49 → a_at (d + 2) (a_xm a_m196) 5 [some (a_rf M), some (.int v), c, w] [] (n, t, K, L, J, R) P := by
  refine us_ind 52 (fun a ha ih => ?_)
  intro v c w J hA hT hJ
  have e1 := rT_end hT
  have e2 := hE.2.1
  rw [q196_5]
  repeat' first
    | with_reducible apply And.intro
    | with_reducible assumption
    | with_reducible intro _
    | with_reducible apply hP
    | with_reducible apply ct_here hS hE
    | with_reducible apply ct_readUnit hS hE
    | with_reducible apply ih _ ?_ ?_ _ _ _ _ rfl
    | with_reducible apply sT_at
    | simp only [q196_0, q196_1, q196_4, q196_6, q196_9, q196_12, q196_13, q196_16, q196_18, q196_21, q196_22, q196_25, q196_27, q196_30, q196_31, q196_34, q196_36, q196_39, q196_40, q196_43, q196_44, q196_45, q196_46, q196_49, q196_50, q196_51, q196_54, q196_55, q196_58, q196_59, q196_60, q196_62, q196_65, q196_66, q196_67, q196_68, q196_71, q196_72, q196_74, q196_77, q196_78, q196_79, q196_80, q196_83, q196_84, q196_85, q196_86, q196_87, q196_90, q196_91, m_0 hS, m_K hS, as_nil, as_i, as_r, Nat.reduceAdd, Nat.reduceLeDiff, z_eq0, z_eq1, z_or, z_em, Classical.not_not, not_false_eq_true, not_true_eq_false, true_and, and_true, false_and, and_false, and_self, true_implies, false_implies, implies_true, Option.toList_some, Option.toList_none, List.cons_append, List.nil_append, Nat.add_eq_zero_iff, a_nl_i, a_nl_r, a_nl_n, true_or, or_true, eq_self, ok_4, ok_5, ok_6, ok_7, ok_9, ok_10, ok_20, ok_21, ok_24, ok_30, ok_48, ok_50, ok_60, ok_80, ok_120, ok_180, ok_192, ok_200, ok_900, ok_1000, ok_84000]
  all_goals grind [ui_ap, hv, rT]
theorem ct_readSum (hS : m_S M K L R) (hE : rE M I0) (hT : rT M I0 I) (hP : ∀ v J, rT M I0 J → I M 49 ≤ J M 49 → P (some (.int v)) (n, t, K, L, J, R)) : a_does (d + 3) 196 [a_rf M] (n, t, K, L, I, R) P := by
  rw [a_enter1 (M := a_m196) rfl (a_cat_rf a_cat_nil) (show 1 ≤ 4 by decide)]
  show a_at _ (a_xm a_m196) 0 [some (a_rf M), none, none, none] [] _ _
  repeat' first
    | with_reducible apply And.intro
    | with_reducible assumption
    | with_reducible intro _
    | with_reducible apply ct_readUnit hS hE hT
    | with_reducible apply lp_readSum_5 hS hE hP _ ?_ _ _ _ _ rfl
    | simp only [q196_0, q196_1, q196_4, q196_6, q196_9, q196_12, q196_13, q196_16, q196_18, q196_21, q196_22, q196_25, q196_27, q196_30, q196_31, q196_34, q196_36, q196_39, q196_40, q196_43, q196_44, q196_45, q196_46, q196_49, q196_50, q196_51, q196_54, q196_55, q196_58, q196_59, q196_60, q196_62, q196_65, q196_66, q196_67, q196_68, q196_71, q196_72, q196_74, q196_77, q196_78, q196_79, q196_80, q196_83, q196_84, q196_85, q196_86, q196_87, q196_90, q196_91, m_0 hS, m_K hS, as_nil, as_i, as_r, Nat.reduceAdd, Nat.reduceLeDiff, z_eq0, z_eq1, z_or, z_em, Classical.not_not, not_false_eq_true, not_true_eq_false, true_and, and_true, false_and, and_false, and_self, true_implies, false_implies, implies_true, Option.toList_some, Option.toList_none, List.cons_append, List.nil_append, Nat.add_eq_zero_iff, a_nl_i, a_nl_r, a_nl_n, true_or, or_true, eq_self, ok_4, ok_5, ok_6, ok_7, ok_9, ok_10, ok_20, ok_21, ok_24, ok_30, ok_48, ok_50, ok_60, ok_80, ok_120, ok_180, ok_192, ok_200, ok_900, ok_1000, ok_84000]
  all_goals grind [ui_ap, rT]
theorem ct_readTest (hS : m_S M K L R) (hE : rE M I0) (hT : rT M I0 I) (hP : ∀ v J, rT M I0 J → (J M 50 = 0 → I M 49 < J M 49) → (v = 0 ∨ v = 1) → P (some (.int v)) (n, t, K, L, J, R)) : a_does (d + 4) 203 [a_rf M] (n, t, K, L, I, R) P := by
  have e2 := hE.2.1
  rw [a_enter1 (M := a_m203) rfl (a_cat_rf a_cat_nil) (show 1 ≤ 4 by decide)]
  show a_at _ (a_xm a_m203) 0 [some (a_rf M), none, none, none] [] _ _
  repeat' first
    | with_reducible apply And.intro
    | with_reducible assumption
    | with_reducible intro _
    | with_reducible apply hP
    | with_reducible apply ct_here hS hE
    | with_reducible apply ct_readSum hS hE
    | with_reducible apply sT_at
    | with_reducible apply sT_isBad
    | simp only [q203_0, q203_1, q203_4, q203_5, q203_6, q203_9, q203_10, q203_11, q203_14, q203_17, q203_18, q203_20, q203_23, q203_24, q203_26, q203_29, q203_30, q203_32, q203_35, q203_36, q203_37, q203_40, q203_41, q203_42, q203_43, q203_44, q203_47, q203_48, q203_49, q203_52, q203_53, q203_56, q203_57, q203_58, q203_60, q203_63, q203_64, q203_65, q203_68, q203_69, q203_72, q203_73, q203_76, q203_77, q203_79, q203_82, q203_83, q203_84, q203_87, q203_88, q203_91, q203_92, q203_95, q203_96, q203_97, q203_100, q203_101, q203_104, q203_105, m_0 hS, m_K hS, as_nil, as_i, as_r, Nat.reduceAdd, Nat.reduceLeDiff, z_eq0, z_eq1, z_or, z_em, Classical.not_not, not_false_eq_true, not_true_eq_false, true_and, and_true, false_and, and_false, and_self, true_implies, false_implies, implies_true, Option.toList_some, Option.toList_none, List.cons_append, List.nil_append, Nat.add_eq_zero_iff, a_nl_i, a_nl_r, a_nl_n, true_or, or_true, eq_self, ok_4, ok_5, ok_6, ok_7, ok_9, ok_10, ok_20, ok_21, ok_24, ok_30, ok_48, ok_50, ok_60, ok_80, ok_120, ok_180, ok_192, ok_200, ok_900, ok_1000, ok_84000]
  all_goals grind [ui_ap, hv, rT]
/-- how many of the signs join two -/
def bci (f : Nat → Int32) : Nat → Int32
  | 0 => 0
  | k + 1 => bci f k + (if f k = 33 ∨ f k = 40 then 0 else 1)
theorem cl_up {s : Int32} (h0 : 0 ≤ s) (h1 : s < 100000) : (s + 1).toNatClampNeg = s.toNatClampNeg + 1 := by
  have h2 := Int32.le_iff_toInt_le.mp h0
  have h3 := Int32.lt_iff_toInt_lt.mp h1
  have h4 : (s + 1).toInt = s.toInt + 1 := by rw [Int32.toInt_add]; simp [Int.bmod_def] at h2 h3 ⊢; omega
  show (s + 1).toInt.toNat = s.toInt.toNat + 1
  simp at h2
  omega
theorem cl_dn {s : Int32} (h0 : 0 < s) (h1 : s < 100000) : s.toNatClampNeg = (s - 1).toNatClampNeg + 1 := by
  have := cl_up (s := s - 1) (by grind) (by grind)
  rw [← this]
  congr 1
  grind
theorem bci_push {f : Nat → Int32} {s : Int32} (h0 : 0 ≤ s) (h1 : s < 100000) : bci f (s + 1).toNatClampNeg = bci f s.toNatClampNeg + (if f s.toNatClampNeg = 33 ∨ f s.toNatClampNeg = 40 then 0 else 1) := by
  rw [cl_up h0 h1]; rfl
theorem bci_pop {f : Nat → Int32} {s : Int32} (h0 : 0 < s) (h1 : s < 100000) : bci f s.toNatClampNeg = bci f (s - 1).toNatClampNeg + (if f (s - 1).toNatClampNeg = 33 ∨ f (s - 1).toNatClampNeg = 40 then 0 else 1) := by
  rw [cl_dn h0 h1]; rfl
theorem bci_rng {f : Nat → Int32} {s : Int32} (h0 : 0 ≤ s) (h1 : s ≤ 100) : 0 ≤ bci f s.toNatClampNeg ∧ bci f s.toNatClampNeg ≤ s := by
  have : ∀ s : Int32, s ≤ 100 → 0 ≤ s → 0 ≤ bci f s.toNatClampNeg ∧ bci f s.toNatClampNeg ≤ s := by
    intro s
    refine lt_ind (Q := fun s => s ≤ 100 → 0 ≤ s → 0 ≤ bci f s.toNatClampNeg ∧ bci f s.toNatClampNeg ≤ s) (fun s ih => ?_) s
    intro h1 h0
    by_cases hz : s = 0
    · subst hz; exact ⟨Int32.le_refl _, Int32.le_refl _⟩
    · have h2 := ih (s - 1) (by grind) (by grind) (by grind) (by grind)
      rw [bci_pop (by grind) (by grind)]
      split <;> grind
  exact this s h1 h0
theorem bci_le {J : Nat → Nat → Int32} {A k' : Nat} {v : Int32} : ∀ {k : Nat}, k ≤ k' → bci (a_ui J A k' v A) k = bci (J A) k := by
  intro k
  induction k with
  | zero => intro _; rfl
  | succ k ih =>
    intro h
    have e : a_ui J A k' v A k = J A k := by rw [ui_ap, if_neg (by omega)]
    simp only [bci]
    rw [ih (by omega), e]
theorem bci_ne {J : Nat → Nat → Int32} {A B k' : Nat} {v : Int32} (h : ¬ A = B) {k : Nat} : bci (a_ui J B k' v A) k = bci (J A) k := by
  have : a_ui J B k' v A = J A := by funext j; rw [ui_ap, if_neg (by omega)]
  rw [this]
end RT

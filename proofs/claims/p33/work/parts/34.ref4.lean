/-! rules, and what fits -/
section RQ
variable {d n t M : Nat} {K L : Nat → Nat} {I I0 : Nat → Nat → Int32} {R : Nat → Nat → Nat} {P : Option Value → AH → Prop}
theorem ti_div {x k : Int32} (h : 0 ≤ x) (hk : 0 < k) : (x / k).toInt = x.toInt / k.toInt := by
  have h2 := Int32.le_iff_toInt_le.mp h
  have h3 := Int32.lt_iff_toInt_lt.mp hk
  simp at h2 h3
  have h4 := Int32.toInt_lt x
  have h5 : x.toInt / k.toInt ≤ x.toInt := Int.ediv_le_self _ h2
  have h6 : 0 ≤ x.toInt / k.toInt := Int.ediv_nonneg h2 (by omega)
  rw [Int32.toInt_div, Int.tdiv_eq_ediv_of_nonneg h2]
  simp [Int.bmod_def]
  omega
theorem div_rng {x k : Int32} (h : 0 ≤ x) (hk : 0 < k) : 0 ≤ x / k ∧ x / k ≤ x := by
  have h2 := Int32.le_iff_toInt_le.mp h
  have h3 := Int32.lt_iff_toInt_lt.mp hk
  simp at h2 h3
  rw [Int32.le_iff_toInt_le, Int32.le_iff_toInt_le, ti_div h hk]
  exact ⟨by simpa using Int.ediv_nonneg h2 (by omega), Int.ediv_le_self _ h2⟩
theorem div_half {b : Int32} (h : 0 < b) : 0 ≤ b / 2 ∧ b / 2 < b := by
  have h1 : (0 : Int32) ≤ b := by grind
  refine ⟨(div_rng h1 (by decide)).1, ?_⟩
  have h3 := Int32.lt_iff_toInt_lt.mp h
  simp at h3
  rw [Int32.lt_iff_toInt_lt, ti_div h1 (by decide)]
  show b.toInt / 2 < b.toInt
  omega
theorem lp_ones_4 {s : Int32} {h : AH} (hP : ∀ v, P (some (.int v)) h) : ∀ b c : Int32, a_at d (a_xm a_m226) 4 [some (.int s), some (.int c), some (.int b)] [] h P := by
  refine lt_ind (fun b ih => ?_)
  intro c
  have g := fun h => div_half (b := b) h
  rw [q226_4]
  repeat' first
    | with_reducible apply And.intro
    | with_reducible assumption
    | with_reducible intro _
    | with_reducible apply ih
    | with_reducible apply hP
    | simp only [q226_0, q226_1, q226_2, q226_3, q226_5, q226_8, q226_9, q226_10, q226_11, q226_12, q226_13, q226_14, q226_15, q226_16, q226_17, q226_18, q226_21, q226_22, as_nil, as_i, as_r, Nat.reduceAdd, Nat.reduceLeDiff, z_eq0, z_eq1, z_or, z_em, Classical.not_not, not_false_eq_true, not_true_eq_false, true_and, and_true, false_and, and_false, and_self, true_implies, false_implies, implies_true, Option.toList_some, Option.toList_none, List.cons_append, List.nil_append, Nat.add_eq_zero_iff, a_nl_i, a_nl_r, a_nl_n, true_or, or_true, eq_self, ok_4, ok_5, ok_6, ok_7, ok_9, ok_10, ok_20, ok_21, ok_24, ok_30, ok_48, ok_50, ok_60, ok_80, ok_120, ok_180, ok_192, ok_200, ok_900, ok_1000, ok_84000]
  all_goals grind [ui_ap]
theorem ct_ones {s : Int32} {h : AH} (hP : ∀ v, P (some (.int v)) h) : a_does (d + 1) 226 [.int s] h P := by
  rw [a_enter1 (M := a_m226) rfl (a_cat_int a_cat_nil) (show 1 ≤ 3 by decide)]
  show a_at _ (a_xm a_m226) 0 [some (.int s), none, none] [] _ _
  repeat' first
    | with_reducible apply And.intro
    | with_reducible assumption
    | with_reducible intro _
    | with_reducible apply lp_ones_4 hP
    | simp only [q226_0, q226_1, q226_2, q226_3, q226_5, q226_8, q226_9, q226_10, q226_11, q226_12, q226_13, q226_14, q226_15, q226_16, q226_17, q226_18, q226_21, q226_22, as_nil, as_i, as_r, Nat.reduceAdd, Nat.reduceLeDiff, z_eq0, z_eq1, z_or, z_em, Classical.not_not, not_false_eq_true, not_true_eq_false, true_and, and_true, false_and, and_false, and_self, true_implies, false_implies, implies_true, Option.toList_some, Option.toList_none, List.cons_append, List.nil_append, Nat.add_eq_zero_iff, a_nl_i, a_nl_r, a_nl_n, true_or, or_true, eq_self, ok_4, ok_5, ok_6, ok_7, ok_9, ok_10, ok_20, ok_21, ok_24, ok_30, ok_48, ok_50, ok_60, ok_80, ok_120, ok_180, ok_192, ok_200, ok_900, ok_1000, ok_84000]
  all_goals grind [ui_ap]
theorem rT_fun {J : Nat → Nat → Int32} (h : rT M I0 J) {A : Nat} (hA : ¬ A = M) : J A = I0 A := by
  funext j
  exact h.2.1 A j (by omega)
theorem rT_cell {J : Nat → Nat → Int32} (h : rT M I0 J) {j : Nat} (hA : ¬ j = 49 ∧ ¬ j = 50) : J M j = I0 M j := h.2.1 _ _ (by omega)
theorem mC_T {J : Nat → Nat → Int32} (h : mC M I0 I) (h2 : rT M I J) : mC M I0 J := ⟨h2.1, fun x j hx => (h2.2.1 x j (by unfold sC at hx; omega)).trans (h.2 x j hx)⟩
/-- between two steps of a rule -/
def rW (M : Nat) (e : Int32) (I0 J : Nat → Nat → Int32) (w : Int32) : Prop := mC M I0 J ∧ (0 ≤ J M 49 ∧ J M 49 ≤ 52) ∧ J M 48 = e ∧ (0 ≤ J M 47 ∧ J M 47 ≤ 950) ∧ (0 ≤ J M 56 ∧ J M 56 ≤ J M 49) ∧ J M 54 = bci (J (M + 34)) (J M 56).toNatClampNeg + w
theorem rW_i {J : Nat → Nat → Int32} {e w : Int32} (h1 : mC M I0 J) (h2 : 0 ≤ J M 49 ∧ J M 49 ≤ 52) (h3 : J M 48 = e) (h4 : 0 ≤ J M 47 ∧ J M 47 ≤ 950) (h5 : 0 ≤ J M 56 ∧ J M 56 ≤ J M 49) (h6 : J M 54 = bci (J (M + 34)) (J M 56).toNatClampNeg + w) : rW M e I0 J w := ⟨h1, h2, h3, h4, h5, h6⟩
theorem lp_partEnds_0 (hS : m_S M K L R) {e a b : Int32} (hP : ∀ J, rW M e I0 J 1 → J M 49 = a → J M 50 = b → P none (n, t, K, L, J, R)) : ∀ s : Int32, 0 ≤ s → ∀ J, J M 56 = s → rW M e I0 J 1 → J M 49 = a → J M 50 = b → a_at (d + 1) (a_xm a_m204) 0 [some (a_rf M)] [] (n, t, K, L, J, R) P := by
  refine dn_ind 0 (fun s hs ih => ?_)
  intro J hs1 hW hA hB
  obtain ⟨hC, hat, hen, hba, hsm, hvm⟩ := id hW
  have b1 : 0 < J M 56 → _ := fun h => bci_pop (f := J (M + 34)) h (by grind)
  have b2 := bci_rng (f := J (M + 34)) hsm.1 (by grind)
  rw [q204_0]
  repeat' first
    | with_reducible apply And.intro
    | with_reducible assumption
    | with_reducible intro _
    | with_reducible apply ih ?_ _
    | with_reducible apply hP
    | with_reducible apply rW_i
    | with_reducible apply sC_facts
    | with_reducible apply sC_values
    | with_reducible apply sC_signs
    | with_reducible apply sC_isTold
    | with_reducible apply sC_base
    | with_reducible apply sC_end
    | with_reducible apply sC_at
    | with_reducible apply sC_isBad
    | with_reducible apply sC_deep
    | with_reducible apply sC_valueMany
    | with_reducible apply sC_signMany
    | simp only [q204_1, q204_4, q204_6, q204_9, q204_10, q204_13, q204_14, q204_17, q204_18, q204_19, q204_20, q204_23, q204_24, q204_27, q204_28, q204_29, q204_30, q204_33, q204_34, q204_37, q204_38, q204_39, q204_40, q204_41, q204_44, q204_45, q204_46, q204_49, q204_50, q204_51, q204_54, q204_55, q204_56, q204_59, q204_62, m_0 hS, m_K hS, mR_values hS, mK_values hS, mL_values hS, sp_topSign hS, as_nil, as_i, as_r, Nat.reduceAdd, Nat.reduceLeDiff, z_eq0, z_eq1, z_or, z_em, Classical.not_not, not_false_eq_true, not_true_eq_false, true_and, and_true, false_and, and_false, and_self, true_implies, false_implies, implies_true, Option.toList_some, Option.toList_none, List.cons_append, List.nil_append, Nat.add_eq_zero_iff, a_nl_i, a_nl_r, a_nl_n, true_or, or_true, eq_self, ok_4, ok_5, ok_6, ok_7, ok_9, ok_10, ok_20, ok_21, ok_24, ok_30, ok_48, ok_50, ok_60, ok_80, ok_120, ok_180, ok_192, ok_200, ok_900, ok_1000, ok_84000]
  all_goals grind [ui_ap, bci_ne]
theorem ct_partEnds (hS : m_S M K L R) {e : Int32} {J : Nat → Nat → Int32} (hW : rW M e I0 J 1) (hP : ∀ J', rW M e I0 J' 1 → J' M 49 = J M 49 → J' M 50 = J M 50 → P none (n, t, K, L, J', R)) : a_does (d + 2) 204 [a_rf M] (n, t, K, L, J, R) P := by
  rw [a_enter1 (M := a_m204) rfl (a_cat_rf a_cat_nil) (show 1 ≤ 1 by decide)]
  show a_at _ (a_xm a_m204) 0 [some (a_rf M)] [] _ _
  exact lp_partEnds_0 hS hP _ hW.2.2.2.2.1.1 J rfl hW rfl rfl
theorem lp_join_0 (hS : m_S M K L R) {e a b g : Int32} (hg : ¬ g = 0 ∧ ¬ g = 33 ∧ ¬ g = 40) (hP : ∀ J, rW M e I0 J 1 → J M 49 = a → J M 50 = b → P none (n, t, K, L, J, R)) : ∀ s : Int32, 0 ≤ s → ∀ J x y, J M 56 = s → rW M e I0 J 1 → J M 49 = a → J M 50 = b → a_at (d + 1) (a_xm a_m206) 0 [some (a_rf M), some (.int g), x, y] [] (n, t, K, L, J, R) P := by
  refine dn_ind 0 (fun s hs ih => ?_)
  intro J x y hs1 hW hA hB
  obtain ⟨hC, hat, hen, hba, hsm, hvm⟩ := id hW
  have b1 : 0 < J M 56 → _ := fun h => bci_pop (f := J (M + 34)) h (by grind)
  have b2 := bci_rng (f := J (M + 34)) hsm.1 (by grind)
  have b3 : 0 < J M 56 → _ := fun h => bci_rng (f := J (M + 34)) (s := J M 56 - 1) (by grind) (by grind)
  have h107 : 0 < J M 56 → J (M + 34) (J M 56 - 1).toNatClampNeg = g → ∀ v x y : Int32, a_at (d + 1) (a_xm a_m206) 107 [some (a_rf M), some (.int g), some (.int x), some (.int y)] [.int v, .int (J M 54 - 1 - 1), a_rf (M + 33)] (n, t, K, L, (a_ui J M 54 (J M 54 - 1)), R) P := by
    intro q1 q2 v x y
    repeat' first
      | with_reducible apply And.intro
      | with_reducible assumption
      | with_reducible intro _
      | with_reducible apply ih ?_ _
      | with_reducible apply rW_i
      | with_reducible apply sC_facts
      | with_reducible apply sC_values
      | with_reducible apply sC_signs
      | with_reducible apply sC_isTold
      | with_reducible apply sC_base
      | with_reducible apply sC_end
      | with_reducible apply sC_at
      | with_reducible apply sC_isBad
      | with_reducible apply sC_deep
      | with_reducible apply sC_valueMany
      | with_reducible apply sC_signMany
      | simp only [q206_107, q206_108, q206_109, q206_110, q206_113, q206_114, q206_115, q206_118, m_0 hS, m_K hS, as_nil, as_i, as_r, Nat.reduceAdd, Nat.reduceLeDiff, z_eq0, z_eq1, z_or, z_em, Classical.not_not, not_false_eq_true, not_true_eq_false, true_and, and_true, false_and, and_false, and_self, true_implies, false_implies, implies_true, Option.toList_some, Option.toList_none, List.cons_append, List.nil_append, Nat.add_eq_zero_iff, a_nl_i, a_nl_r, a_nl_n, true_or, or_true, eq_self, ok_4, ok_5, ok_6, ok_7, ok_9, ok_10, ok_20, ok_21, ok_24, ok_30, ok_48, ok_50, ok_60, ok_80, ok_120, ok_180, ok_192, ok_200, ok_900, ok_1000, ok_84000, mK_values hS, mL_values hS]
    all_goals grind [ui_ap, bci_ne]
  rw [q206_0]
  repeat' first
    | with_reducible apply And.intro
    | with_reducible assumption
    | with_reducible intro _
    | with_reducible apply h107
    | with_reducible apply hP
    | simp only [q206_1, q206_4, q206_5, q206_8, q206_9, q206_10, q206_13, q206_14, q206_15, q206_18, q206_19, q206_22, q206_23, q206_26, q206_27, q206_28, q206_29, q206_30, q206_31, q206_34, q206_35, q206_38, q206_39, q206_40, q206_41, q206_44, q206_45, q206_48, q206_49, q206_50, q206_51, q206_53, q206_56, q206_57, q206_60, q206_61, q206_64, q206_65, q206_68, q206_69, q206_72, q206_73, q206_75, q206_78, q206_79, q206_82, q206_83, q206_86, q206_87, q206_90, q206_91, q206_94, q206_95, q206_98, q206_99, q206_102, q206_103, q206_106, q206_121, m_0 hS, m_K hS, mR_values hS, mK_values hS, mL_values hS, sp_topSign hS, as_nil, as_i, as_r, Nat.reduceAdd, Nat.reduceLeDiff, z_eq0, z_eq1, z_or, z_em, Classical.not_not, not_false_eq_true, not_true_eq_false, true_and, and_true, false_and, and_false, and_self, true_implies, false_implies, implies_true, Option.toList_some, Option.toList_none, List.cons_append, List.nil_append, Nat.add_eq_zero_iff, a_nl_i, a_nl_r, a_nl_n, true_or, or_true, eq_self, ok_4, ok_5, ok_6, ok_7, ok_9, ok_10, ok_20, ok_21, ok_24, ok_30, ok_48, ok_50, ok_60, ok_80, ok_120, ok_180, ok_192, ok_200, ok_900, ok_1000, ok_84000, ui_ap, ne_0M, ne_M0, ne_MM]
  all_goals grind [ui_ap]
theorem ct_join (hS : m_S M K L R) {e g : Int32} {J : Nat → Nat → Int32} (hg : ¬ g = 0 ∧ ¬ g = 33 ∧ ¬ g = 40) (hW : rW M e I0 J 1) (hP : ∀ J', rW M e I0 J' 1 → J' M 49 = J M 49 → J' M 50 = J M 50 → P none (n, t, K, L, J', R)) : a_does (d + 2) 206 [a_rf M, .int g] (n, t, K, L, J, R) P := by
  rw [a_enter1 (M := a_m206) rfl (a_cat_rf (a_cat_int a_cat_nil)) (show 2 ≤ 4 by decide)]
  show a_at _ (a_xm a_m206) 0 [some (a_rf M), some (.int g), none, none] [] _ _
  exact lp_join_0 hS hg hP _ hW.2.2.2.2.1.1 J _ _ rfl hW rfl rfl
theorem lp_readRule_332 (hS : m_S M K L R) {e : Int32} {J : Nat → Nat → Int32} {w c : Option Value} (hC : mC M I0 J) (he : J M 48 = e) (hW : J M 50 = 0 → rW M e I0 J 1) (hP : ∀ v J, mC M I0 J → J M 48 = e → (v = 0 ∨ v = 1) → P (some (.int v)) (n, t, K, L, J, R)) : a_at (d + 2) (a_xm a_m202) 332 [some (a_rf M), w, c] [] (n, t, K, L, J, R) P := by
  have k38 : ¬ (38 : Int32) = 0 ∧ ¬ (38 : Int32) = 33 ∧ ¬ (38 : Int32) = 40 := by decide
  have k124 : ¬ (124 : Int32) = 0 ∧ ¬ (124 : Int32) = 33 ∧ ¬ (124 : Int32) = 40 := by decide
  have k47 : ¬ (47 : Int32) = 0 ∧ ¬ (47 : Int32) = 33 ∧ ¬ (47 : Int32) = 40 := by decide
  simp only [q202_332, q202_333, q202_336, m_0 hS, m_K hS, as_nil, as_i, as_r, Nat.reduceAdd, Nat.reduceLeDiff, z_eq0, z_eq1, z_or, z_em, Classical.not_not, not_false_eq_true, not_true_eq_false, true_and, and_true, false_and, and_false, and_self, true_implies, false_implies, implies_true, Option.toList_some, Option.toList_none, List.cons_append, List.nil_append, Nat.add_eq_zero_iff, a_nl_i, a_nl_r, a_nl_n, true_or, or_true, eq_self, ok_4, ok_5, ok_6, ok_7, ok_9, ok_10, ok_20, ok_21, ok_24, ok_30, ok_48, ok_50, ok_60, ok_80, ok_120, ok_180, ok_192, ok_200, ok_900, ok_1000, ok_84000]
  refine ⟨fun h => ?_, fun h => ?_⟩
  · simp only [q202_373, q202_374, q202_377, q202_380, q202_381, q202_384, q202_385, q202_386, q202_389, q202_390, q202_393, q202_394, m_0 hS, m_K hS, mR_values hS, mK_values hS, mL_values hS, as_nil, as_i, as_r, Nat.reduceAdd, Nat.reduceLeDiff, z_eq0, z_eq1, z_or, z_em, Classical.not_not, not_false_eq_true, not_true_eq_false, true_and, and_true, false_and, and_false, and_self, true_implies, false_implies, implies_true, Option.toList_some, Option.toList_none, List.cons_append, List.nil_append, Nat.add_eq_zero_iff, a_nl_i, a_nl_r, a_nl_n, true_or, or_true, eq_self, ok_4, ok_5, ok_6, ok_7, ok_9, ok_10, ok_20, ok_21, ok_24, ok_30, ok_48, ok_50, ok_60, ok_80, ok_120, ok_180, ok_192, ok_200, ok_900, ok_1000, ok_84000]
    grind
  · simp only [q202_339, q202_340, q202_342, q202_345, m_0 hS, m_K hS, as_nil, as_i, as_r, Nat.reduceAdd, Nat.reduceLeDiff, z_eq0, z_eq1, z_or, z_em, Classical.not_not, not_false_eq_true, not_true_eq_false, true_and, and_true, false_and, and_false, and_self, true_implies, false_implies, implies_true, Option.toList_some, Option.toList_none, List.cons_append, List.nil_append, Nat.add_eq_zero_iff, a_nl_i, a_nl_r, a_nl_n, true_or, or_true, eq_self, ok_4, ok_5, ok_6, ok_7, ok_9, ok_10, ok_20, ok_21, ok_24, ok_30, ok_48, ok_50, ok_60, ok_80, ok_120, ok_180, ok_192, ok_200, ok_900, ok_1000, ok_84000]
    refine ct_join hS k38 (hW h) (fun J1 w1 a1 i1 => ?_)
    simp only [q202_345, q202_346, q202_348, q202_351, m_0 hS, m_K hS, as_nil, as_i, as_r, Nat.reduceAdd, Nat.reduceLeDiff, z_eq0, z_eq1, z_or, z_em, Classical.not_not, not_false_eq_true, not_true_eq_false, true_and, and_true, false_and, and_false, and_self, true_implies, false_implies, implies_true, Option.toList_some, Option.toList_none, List.cons_append, List.nil_append, Nat.add_eq_zero_iff, a_nl_i, a_nl_r, a_nl_n, true_or, or_true, eq_self, ok_4, ok_5, ok_6, ok_7, ok_9, ok_10, ok_20, ok_21, ok_24, ok_30, ok_48, ok_50, ok_60, ok_80, ok_120, ok_180, ok_192, ok_200, ok_900, ok_1000, ok_84000]
    refine ct_join hS k124 w1 (fun J2 w2 a2 i2 => ?_)
    simp only [q202_351, q202_352, q202_354, q202_357, m_0 hS, m_K hS, as_nil, as_i, as_r, Nat.reduceAdd, Nat.reduceLeDiff, z_eq0, z_eq1, z_or, z_em, Classical.not_not, not_false_eq_true, not_true_eq_false, true_and, and_true, false_and, and_false, and_self, true_implies, false_implies, implies_true, Option.toList_some, Option.toList_none, List.cons_append, List.nil_append, Nat.add_eq_zero_iff, a_nl_i, a_nl_r, a_nl_n, true_or, or_true, eq_self, ok_4, ok_5, ok_6, ok_7, ok_9, ok_10, ok_20, ok_21, ok_24, ok_30, ok_48, ok_50, ok_60, ok_80, ok_120, ok_180, ok_192, ok_200, ok_900, ok_1000, ok_84000]
    refine ct_join hS k47 w2 (fun J3 w3 a3 i3 => ?_)
    have w4 := w3.2.2.1
    have w5 := w3.1
    repeat' first
      | with_reducible apply And.intro
      | with_reducible assumption
      | with_reducible intro _
      | with_reducible apply hP
      | with_reducible apply sC_facts
      | with_reducible apply sC_values
      | with_reducible apply sC_signs
      | with_reducible apply sC_isTold
      | with_reducible apply sC_base
      | with_reducible apply sC_end
      | with_reducible apply sC_at
      | with_reducible apply sC_isBad
      | with_reducible apply sC_deep
      | with_reducible apply sC_valueMany
      | with_reducible apply sC_signMany
      | simp only [q202_357, q202_358, q202_359, q202_362, q202_365, q202_366, q202_369, q202_370, q202_373, q202_374, q202_377, q202_380, q202_381, q202_384, q202_385, q202_386, q202_389, q202_390, q202_393, q202_394, m_0 hS, m_K hS, mR_values hS, mK_values hS, mL_values hS, as_nil, as_i, as_r, Nat.reduceAdd, Nat.reduceLeDiff, z_eq0, z_eq1, z_or, z_em, Classical.not_not, not_false_eq_true, not_true_eq_false, true_and, and_true, false_and, and_false, and_self, true_implies, false_implies, implies_true, Option.toList_some, Option.toList_none, List.cons_append, List.nil_append, Nat.add_eq_zero_iff, a_nl_i, a_nl_r, a_nl_n, true_or, or_true, eq_self, ok_4, ok_5, ok_6, ok_7, ok_9, ok_10, ok_20, ok_21, ok_24, ok_30, ok_48, ok_50, ok_60, ok_80, ok_120, ok_180, ok_192, ok_200, ok_900, ok_1000, ok_84000]
    all_goals grind [ui_ap]
end RQ

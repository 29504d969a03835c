/-! the reference: texts that hold -/
section YG
variable {d n t M : Nat} {K L : Nat → Nat} {I I0 J J0 J1 J2 : Nat → Nat → Int32} {R : Nat → Nat → Nat} {P : Option Value → AH → Prop} {f : Nat → Int32} {e : Int32}
theorem n50 {x i : Int32} (h0 : 0 ≤ x ∧ x < 20) (h1 : 0 ≤ i ∧ i ≤ 50) : (50 * x + i).toNatClampNeg = 50 * x.toNatClampNeg + i.toNatClampNeg ∧ (50 * x).toNatClampNeg = 50 * x.toNatClampNeg ∧ 0 ≤ 50 * x ∧ 50 * x ≤ 950 := by
  have a1 := Int32.le_iff_toInt_le.mp h0.1
  have a2 := Int32.lt_iff_toInt_lt.mp h0.2
  have b1 := Int32.le_iff_toInt_le.mp h1.1
  have b2 := Int32.le_iff_toInt_le.mp h1.2
  have w0 : (0 : Int32).toInt = 0 := rfl
  have w20 : (20 : Int32).toInt = 20 := rfl
  have w50 : (50 : Int32).toInt = 50 := rfl
  have w950 : (950 : Int32).toInt = 950 := rfl
  rw [w0] at a1 b1
  rw [w20] at a2
  rw [w50] at b2
  have t1 : (50 * x).toInt = 50 * x.toInt := by
    rw [Int32.toInt_mul, w50, in_bm (by omega) (by omega)]
  have t2 : (50 * x + i).toInt = 50 * x.toInt + i.toInt := by
    rw [Int32.toInt_add, t1, in_bm (by omega) (by omega)]
  refine ⟨?_, ?_, ?_, ?_⟩
  · show (50 * x + i).toInt.toNat = 50 * x.toInt.toNat + i.toInt.toNat
    rw [t2]
    omega
  · show (50 * x).toInt.toNat = 50 * x.toInt.toNat
    rw [t1]
    omega
  · rw [Int32.le_iff_toInt_le, t1, w0]
    omega
  · rw [Int32.le_iff_toInt_le, t1, w950]
    omega
theorem xt_open (hS : m_S M K L R) (hC : mC M I0 I) {x : Int32} (hx : 0 ≤ x ∧ x < 20) (hP : ∀ J, mC M I0 J → vw M J (wtY (yv M I0) x.toNatClampNeg) ((yv M I0) 29 x.toNatClampNeg) → (∀ j, J (M + 32) j = I (M + 32) j) → J M 49 = 2 → J M 50 = 0 → P none (n, t, K, L, J, R)) : a_does (d + 1) 195 [a_rf M, .int x] (n, t, K, L, I, R) P := by
  have g1 := rg_writtenMany hC.1
  have hl := g1 x.toNatClampNeg
  have ew : I (M + 29) x.toNatClampNeg = (yv M I0) 29 x.toNatClampNeg := hC.2 _ _ (by unfold sC; omega)
  have ew2 : ∀ j, I (M + 28) j = (yv M I0) 28 j := fun j => hC.2 _ _ (by unfold sC; omega)
  have hp := hP (a_ui (a_ui (a_ui (a_ui (a_ui I M 46 1) M 47 (50 * x)) M 48 (I (M + 29) x.toNatClampNeg)) M 49 2) M 50 0) (sC_isBad (sC_at (sC_end (sC_base (sC_isTold hC) (n50 hx (i := 0) ⟨by decide, by decide⟩).2.2)))) ⟨by simp only [ui_ap]; simpa using ew, by rw [← ew]; exact hl, by simp only [ui_ap]; simpa using (n50 hx (i := 0) ⟨by decide, by decide⟩).2.2, fun j j0 j1 => by
    have hj := n50 hx (i := j) ⟨j0, by rw [← ew] at j1; clear hP ew2; grind⟩
    simp only [ui_ap]
    simp
    rw [hj.1, ew2]
    rfl⟩ (fun j => by simp only [ui_ap]; simp) (by simp only [ui_ap]; simp) (by simp only [ui_ap]; simp)
  have hb := (n50 hx (i := 0) ⟨by decide, by decide⟩).2.2
  clear hP g1 ew ew2 hC hl
  rw [a_enter1 (M := a_m195) rfl (a_cat_rf (a_cat_int a_cat_nil)) (show 2 ≤ 2 by decide)]
  show a_at _ (a_xm a_m195) 0 [some (a_rf M), some (.int x)] [] _ _
  repeat' first
    | with_reducible apply And.intro
    | with_reducible assumption
    | with_reducible intro _
    | with_reducible apply hp
    | simp only [q195_0, q195_1, q195_2, q195_5, q195_6, q195_8, q195_9, q195_10, q195_13, q195_14, q195_15, q195_18, q195_19, q195_20, q195_23, q195_24, q195_25, q195_28, q195_29, q195_30, q195_33, m_0 hS, m_K hS, mR_writtenMany hS, mK_writtenMany hS, mL_writtenMany hS, as_nil, as_i, as_r, Nat.reduceAdd, Nat.reduceLeDiff, z_eq0, z_eq1, z_or, z_em, Classical.not_not, not_false_eq_true, not_true_eq_false, true_and, and_true, false_and, and_false, and_self, true_implies, false_implies, implies_true, Option.toList_some, Option.toList_none, List.cons_append, List.nil_append, Nat.add_eq_zero_iff, a_nl_i, a_nl_r, a_nl_n, true_or, or_true, eq_self, ok_4, ok_5, ok_6, ok_7, ok_9, ok_10, ok_20, ok_21, ok_24, ok_30, ok_48, ok_50, ok_60, ok_80, ok_120, ok_180, ok_192, ok_200, ok_900, ok_1000, ok_84000, ui_ap, ne_MM, ne_M0, ne_0M, Nat.reduceEqDiff, reduceIte, if_true, if_false]
  all_goals grind [ui_ap]
theorem xt_doesHold (hS : m_S M K L R) (hC : mC M I0 I) {x : Int32} (hx : 0 ≤ x ∧ x < 20) (hs : (xT (wtY (yv M I0) x.toNatClampNeg) ((yv M I0) 29 x.toNatClampNeg)).1 = true) (hl : ¬ wtY (yv M I0) x.toNatClampNeg 0 = 79) {fc : Nat → Int32} (hf : ∀ j, I (M + 32) j = fc j) (hP : ∀ J, mC M I0 J → (∀ j, J (M + 32) j = fc j) → P (some (.int (wvY (yv M I0) x.toNatClampNeg fc))) (n, t, K, L, J, R)) : a_does (d + 6) 211 [a_rf M, .int x] (n, t, K, L, I, R) P := by
  obtain ⟨r1, r2, r3⟩ := xT_rule hs hl
  have h2 : (2 : Int32) ≤ (yv M I0) 29 x.toNatClampNeg := by
    refine Classical.byContradiction (fun w => ?_)
    unfold xT at hs
    by_cases c0 : 0 < (yv M I0) 29 x.toNatClampNeg ∧ (wtY (yv M I0) x.toNatClampNeg 0 = 66 ∨ wtY (yv M I0) x.toNatClampNeg 0 = 87 ∨ wtY (yv M I0) x.toNatClampNeg 0 = 79)
    · rw [if_pos c0] at hs
      by_cases c1 : 1 < (yv M I0) 29 x.toNatClampNeg ∧ wtY (yv M I0) x.toNatClampNeg 1 = 58
      · have := c1.1
        generalize (yv M I0) 29 x.toNatClampNeg = z at this w
        clear hs c0 c1 r1 r2 r3 hP hf hC
        grind
      · rw [if_neg c1] at hs
        exact absurd hs Bool.false_ne_true
    · rw [if_neg c0] at hs
      exact absurd hs Bool.false_ne_true
  rw [a_enter1 (M := a_m211) rfl (a_cat_rf (a_cat_int a_cat_nil)) (show 2 ≤ 2 by decide)]
  show a_at _ (a_xm a_m211) 0 [some (a_rf M), some (.int x)] [] _ _
  simp only [q211_0, q211_1, q211_2, m_0 hS, m_K hS, as_nil, as_i, as_r, Nat.reduceAdd, Nat.reduceLeDiff, z_eq0, z_eq1, z_or, z_em, Classical.not_not, not_false_eq_true, not_true_eq_false, true_and, and_true, false_and, and_false, and_self, true_implies, false_implies, implies_true, Option.toList_some, Option.toList_none, List.cons_append, List.nil_append, Nat.add_eq_zero_iff, a_nl_i, a_nl_r, a_nl_n, true_or, or_true, eq_self, ok_4, ok_5, ok_6, ok_7, ok_9, ok_10, ok_20, ok_21, ok_24, ok_30, ok_48, ok_50, ok_60, ok_80, ok_120, ok_180, ok_192, ok_200, ok_900, ok_1000, ok_84000]
  refine xt_open (d := d + 4) hS hC hx (fun J m1 m2 m3 m4 m5 => ?_)
  simp only [q211_5, q211_6, m_0 hS, m_K hS, as_nil, as_i, as_r, Nat.reduceAdd, Nat.reduceLeDiff, z_eq0, z_eq1, z_or, z_em, Classical.not_not, not_false_eq_true, not_true_eq_false, true_and, and_true, false_and, and_false, and_self, true_implies, false_implies, implies_true, Option.toList_some, Option.toList_none, List.cons_append, List.nil_append, Nat.add_eq_zero_iff, a_nl_i, a_nl_r, a_nl_n, true_or, or_true, eq_self, ok_4, ok_5, ok_6, ok_7, ok_9, ok_10, ok_20, ok_21, ok_24, ok_30, ok_48, ok_50, ok_60, ok_80, ok_120, ok_180, ok_192, ok_200, ok_900, ok_1000, ok_84000]
  refine xe_readRule (d := d) hS m1 m2 (fc := fc) (fun j => by rw [m3, hf]) m4 ⟨by decide, h2⟩ m5 (fun J2 z => ?_)
  rw [if_pos ⟨r1, r2⟩] at z ⊢
  simp only [q211_9, as_nil, as_i, as_r, Nat.reduceAdd, Nat.reduceLeDiff, z_eq0, z_eq1, z_or, z_em, Classical.not_not, not_false_eq_true, not_true_eq_false, true_and, and_true, false_and, and_false, and_self, true_implies, false_implies, implies_true, Option.toList_some, Option.toList_none, List.cons_append, List.nil_append, Nat.add_eq_zero_iff, a_nl_i, a_nl_r, a_nl_n, true_or, or_true, eq_self, ok_4, ok_5, ok_6, ok_7, ok_9, ok_10, ok_20, ok_21, ok_24, ok_30, ok_48, ok_50, ok_60, ok_80, ok_120, ok_180, ok_192, ok_200, ok_900, ok_1000, ok_84000]
  have hp := hP J2 z.1 z.2.2.1
  unfold wvY at hp
  rw [r3] at hp
  exact ⟨xR_v1 2 fc, hp⟩
/-- the least text of a letter that is in force and holds -/
theorem xt_holding_12 (hS : m_S M K L R) (hts : tsY (yv M I0)) {g a b s : Int32} (hg : ¬ g = 79) {fc : Nat → Int32} {V : Int32} (hP : ∀ J, mC M I0 J → (∀ j, J (M + 32) j = fc j) → P (some (.int V)) (n, t, K, L, J, R)) : ∀ i : Int32, i ≤ 20 → ∀ J, 0 ≤ i → i ≤ (yv M I0) 0 41 → mC M I0 J → (∀ j, J (M + 32) j = fc j) → hgY (yv M I0) g s fc (((yv M I0) 0 41).toNatClampNeg - i.toNatClampNeg) i = V → a_at (d + 6) (a_xm a_m210) 12 [some (a_rf M), some (.int g), some (.int a), some (.int b), some (.int s), some (.int i)] [] (n, t, K, L, J, R) P := by
  refine up_ind 20 (fun i hi ih => ?_)
  intro J h0 h1 hC hf hV
  have et : J M 41 = (yv M I0) 0 41 := hC.2 _ _ (by unfold sC; omega)
  have ew : ∀ j, J (M + 28) j = (yv M I0) 28 j := fun j => hC.2 _ _ (by unfold sC; omega)
  have e30 : ∀ j, J (M + 30) j = (yv M I0) 30 j := fun j => hC.2 _ _ (by unfold sC; omega)
  have e31 : ∀ j, J (M + 31) j = (yv M I0) 31 j := fun j => hC.2 _ _ (by unfold sC; omega)
  have gt := rg_texts hC.1
  rw [et] at gt
  have hexit : ¬ i < (yv M I0) 0 41 → P (some (.int (-9))) (n, t, K, L, J, R) := fun w => by
    have ei : i = (yv M I0) 0 41 := by
      generalize (yv M I0) 0 41 = z at w h1 ⊢
      clear ih hP hC hf hV et ew e30 e31 gt
      grind
    have hp := hP J hC hf
    rw [← hV, ← ei, Nat.sub_self] at hp
    exact hp
  have hst : i < (yv M I0) 0 41 → V = (if (wtY (yv M I0) i.toNatClampNeg 0 = g ∧ (yv M I0) 30 i.toNatClampNeg ≤ s ∧ s < (yv M I0) 31 i.toNatClampNeg) ∧ ¬ wvY (yv M I0) i.toNatClampNeg fc = 0 then i else hgY (yv M I0) g s fc (((yv M I0) 0 41).toNatClampNeg - (i + 1).toNatClampNeg) (i + 1)) := fun w => by
    have i3 := cl_lt h0 w
    have ei : (i + 1).toNatClampNeg = i.toNatClampNeg + 1 := cl_up h0 (by
      clear ih hP hC hf hV et ew e30 e31 hexit i3
      generalize (yv M I0) 0 41 = z at w h1 gt
      grind)
    rw [← hV, ei, show ((yv M I0) 0 41).toNatClampNeg - i.toNatClampNeg = (((yv M I0) 0 41).toNatClampNeg - (i.toNatClampNeg + 1)) + 1 by omega]
    rfl
  have i20 : i < (yv M I0) 0 41 → 0 ≤ i ∧ i < 20 := fun w => by
    clear ih hP hC hf hV et ew e30 e31 hexit hst
    generalize (yv M I0) 0 41 = z at w h1 gt
    grind
  have hnx : i < (yv M I0) 0 41 → ∀ J2, mC M I0 J2 → (∀ j, J2 (M + 32) j = fc j) → ¬ ((wtY (yv M I0) i.toNatClampNeg 0 = g ∧ (yv M I0) 30 i.toNatClampNeg ≤ s ∧ s < (yv M I0) 31 i.toNatClampNeg) ∧ ¬ wvY (yv M I0) i.toNatClampNeg fc = 0) → a_at (d + 6) (a_xm a_m210) 12 [some (a_rf M), some (.int g), some (.int a), some (.int b), some (.int s), some (.int (i + 1))] [] (n, t, K, L, J2, R) P := fun w J2 m1 m2 q => by
    have hs := hst w
    rw [if_neg q] at hs
    have i2 := i20 w
    refine ih (by clear ih hP hC hf hV et ew e30 e31 hexit hst hs; grind) J2 (by clear ih hP hC hf hV et ew e30 e31 hexit hst hs; grind) (by
      clear ih hP hC hf hV et ew e30 e31 hexit hst hs
      generalize (yv M I0) 0 41 = z at w h1 gt ⊢
      grind) m1 m2 hs.symm
  have h21 : i < (yv M I0) 0 41 → a_at (d + 6) (a_xm a_m210) 21 [some (a_rf M), some (.int g), some (.int a), some (.int b), some (.int s), some (.int i)] [] (n, t, K, L, J, R) P := fun w => by
    have i2 := i20 w
    have hnx := hnx w
    have hst := hst w
    obtain ⟨n1, n2, n3, n4⟩ := n50 i2 (i := 0) ⟨by decide, by decide⟩
    have e0 : J (M + 28) (50 * i).toNatClampNeg = wtY (yv M I0) i.toNatClampNeg 0 := by
      rw [n2, ew]
      rfl
    have n4' : 50 * i < 1000 := by
      clear ih hP hC hf hV et ew e30 e31 hexit hst hnx e0
      grind
    have n10 : ¬ (1 : Int32) = 0 := by decide
    simp only [q210_21, q210_22, q210_24, q210_25, q210_27, m_0 hS, m_K hS, sp_isInForce hS, as_nil, as_i, as_r, Nat.reduceAdd, Nat.reduceLeDiff, z_eq0, z_eq1, z_or, z_em, Classical.not_not, not_false_eq_true, not_true_eq_false, true_and, and_true, false_and, and_false, and_self, true_implies, false_implies, implies_true, Option.toList_some, Option.toList_none, List.cons_append, List.nil_append, Nat.add_eq_zero_iff, a_nl_i, a_nl_r, a_nl_n, true_or, or_true, eq_self, ok_4, ok_5, ok_6, ok_7, ok_9, ok_10, ok_20, ok_21, ok_24, ok_30, ok_48, ok_50, ok_60, ok_80, ok_120, ok_180, ok_192, ok_200, ok_900, ok_1000, ok_84000, e0, e30, e31]
    by_cases c : wtY (yv M I0) i.toNatClampNeg 0 = g ∧ (yv M I0) 30 i.toNatClampNeg ≤ s ∧ s < (yv M I0) 31 i.toNatClampNeg
    · rw [if_pos c]
      refine ⟨⟨n3, n4'⟩, fun _ => i2, ?_⟩
      simp only [q210_30, q210_33, q210_34, q210_36, m_0 hS, m_K hS, as_nil, as_i, as_r, Nat.reduceAdd, Nat.reduceLeDiff, z_eq0, z_eq1, z_or, z_em, Classical.not_not, not_false_eq_true, not_true_eq_false, true_and, and_true, false_and, and_false, and_self, true_implies, false_implies, implies_true, Option.toList_some, Option.toList_none, List.cons_append, List.nil_append, Nat.add_eq_zero_iff, a_nl_i, a_nl_r, a_nl_n, true_or, or_true, eq_self, ok_4, ok_5, ok_6, ok_7, ok_9, ok_10, ok_20, ok_21, ok_24, ok_30, ok_48, ok_50, ok_60, ok_80, ok_120, ok_180, ok_192, ok_200, ok_900, ok_1000, ok_84000, n10]
      try simp only [true_and, and_true, true_implies, false_implies, implies_true, not_true_eq_false, not_false_eq_true]
      refine xt_doesHold hS hC i2 (hts _ (cl_lt h0 w)).1 (by rw [c.1]; exact hg) hf (fun J2 m1 m2 => ?_)
      by_cases c2 : wvY (yv M I0) i.toNatClampNeg fc = 0
      · have hg2 := hnx J2 m1 m2 (fun q => q.2 c2)
        clear ih hP hC hf hV et ew e30 e31 hexit hst hnx
        simp only [q210_39, q210_45, q210_48, as_nil, as_i, as_r, Nat.reduceAdd, Nat.reduceLeDiff, z_eq0, z_eq1, z_or, z_em, Classical.not_not, not_false_eq_true, not_true_eq_false, true_and, and_true, false_and, and_false, and_self, true_implies, false_implies, implies_true, Option.toList_some, Option.toList_none, List.cons_append, List.nil_append, Nat.add_eq_zero_iff, a_nl_i, a_nl_r, a_nl_n, true_or, or_true, eq_self, ok_4, ok_5, ok_6, ok_7, ok_9, ok_10, ok_20, ok_21, ok_24, ok_30, ok_48, ok_50, ok_60, ok_80, ok_120, ok_180, ok_192, ok_200, ok_900, ok_1000, ok_84000, c2]
        first
          | exact hg2
          | grind
      · rw [if_pos ⟨c, c2⟩] at hst
        have hp := hP J2 m1 m2
        rw [hst] at hp
        clear ih hP hC hf hV et ew e30 e31 hexit hst hnx
        simp only [q210_39, q210_42, q210_44, as_nil, as_i, as_r, Nat.reduceAdd, Nat.reduceLeDiff, z_eq0, z_eq1, z_or, z_em, Classical.not_not, not_false_eq_true, not_true_eq_false, true_and, and_true, false_and, and_false, and_self, true_implies, false_implies, implies_true, Option.toList_some, Option.toList_none, List.cons_append, List.nil_append, Nat.add_eq_zero_iff, a_nl_i, a_nl_r, a_nl_n, true_or, or_true, eq_self, ok_4, ok_5, ok_6, ok_7, ok_9, ok_10, ok_20, ok_21, ok_24, ok_30, ok_48, ok_50, ok_60, ok_80, ok_120, ok_180, ok_192, ok_200, ok_900, ok_1000, ok_84000, c2]
        first
          | exact hp
          | grind
    · rw [if_neg c]
      refine ⟨⟨n3, n4'⟩, fun _ => i2, ?_⟩
      have hg2 := hnx J hC hf (fun q => c q.1)
      clear ih hP hC hf hV et ew e30 e31 hexit hst hnx
      simp only [q210_30, q210_45, q210_48, as_nil, as_i, as_r, Nat.reduceAdd, Nat.reduceLeDiff, z_eq0, z_eq1, z_or, z_em, Classical.not_not, not_false_eq_true, not_true_eq_false, true_and, and_true, false_and, and_false, and_self, true_implies, false_implies, implies_true, Option.toList_some, Option.toList_none, List.cons_append, List.nil_append, Nat.add_eq_zero_iff, a_nl_i, a_nl_r, a_nl_n, true_or, or_true, eq_self, ok_4, ok_5, ok_6, ok_7, ok_9, ok_10, ok_20, ok_21, ok_24, ok_30, ok_48, ok_50, ok_60, ok_80, ok_120, ok_180, ok_192, ok_200, ok_900, ok_1000, ok_84000]
      first
        | exact hg2
        | grind
  clear ih hP hf hV hst hnx ew e30 e31
  rw [q210_12]
  simp only [q210_14, q210_15, q210_18, q210_51, q210_53, m_0 hS, m_K hS, as_nil, as_i, as_r, Nat.reduceAdd, Nat.reduceLeDiff, z_eq0, z_eq1, z_or, z_em, Classical.not_not, not_false_eq_true, not_true_eq_false, true_and, and_true, false_and, and_false, and_self, true_implies, false_implies, implies_true, Option.toList_some, Option.toList_none, List.cons_append, List.nil_append, Nat.add_eq_zero_iff, a_nl_i, a_nl_r, a_nl_n, true_or, or_true, eq_self, ok_4, ok_5, ok_6, ok_7, ok_9, ok_10, ok_20, ok_21, ok_24, ok_30, ok_48, ok_50, ok_60, ok_80, ok_120, ok_180, ok_192, ok_200, ok_900, ok_1000, ok_84000, et]
  clear hC
  grind
end YG
/-! the class: texts that hold -/
section YH
variable {d n t C : Nat} {K L : Nat → Nat} {I I0 J J0 J1 J2 : Nat → Nat → Int32} {R : Nat → Nat → Nat} {P : Option Value → AH → Prop}
variable {Y : Nat → Nat → Int32}
/-- the class's texts are the model's -/
def txP (C : Nat) (K L : Nat → Nat) (I : Nat → Nat → Int32) (R : Nat → Nat → Nat) (Y : Nat → Nat → Int32) : Prop := I (C + 7) 3 = Y 0 41 ∧ ∀ i : Int32, 0 ≤ i → i < Y 0 41 → K (R (C + 8) i.toNatClampNeg) = 11 ∧ ¬ (R (C + 8) i.toNatClampNeg) = 0 ∧ I (R (C + 8) i.toNatClampNeg) 0 = wtY Y i.toNatClampNeg 0 ∧ I (R (C + 8) i.toNatClampNeg) 1 = Y 30 i.toNatClampNeg ∧ (∀ s : Int32, 0 ≤ s → s ≤ 199 → (s < I (R (C + 8) i.toNatClampNeg) 3 ↔ s < Y 31 i.toNatClampNeg)) ∧ ∀ fc, vs (I (R (R (C + 8) i.toNatClampNeg) 2)) fc (Int32.ofNat (L (R (R (C + 8) i.toNatClampNeg) 2))) 60 0 0 (fun _ => 0) = wvY Y i.toNatClampNeg fc
theorem dC_x (hT : cT C K L I R) (h : dC C K L R I J) {x j : Nat} (hx : K x = 11) : J x j = I x j := h.2 x j (by have := (hT.g_txt x hx).1; omega) (by have := (hT.g_txt x hx).1; omega)
theorem dC_cd (hT : cT C K L I R) (h : dC C K L R I J) {x : Nat} (hx : K x = 11) : J (R x 2) = I (R x 2) := funext (fun j => h.2 _ j (by have := (hT.g_txt x hx).2.1; omega) (by have := (hT.g_txt x hx).2.1; omega))
theorem txP_C (hT : cT C K L I R) (h : txP C K L I R Y) (h2 : dC C K L R I J) : txP C K L J R Y := by
  refine ⟨by rw [h2.2 _ _ (by omega) (by omega)]; exact h.1, fun i h0 h1 => ?_⟩
  obtain ⟨k1, k2, k3, k4, k5, k6⟩ := h.2 i h0 h1
  rw [dC_cd hT h2 k1, dC_x hT h2 k1, dC_x hT h2 k1, dC_x hT h2 k1]
  exact ⟨k1, k2, k3, k4, k5, k6⟩
theorem le_least_12 (hT0 : cT C K L I R) (hX : txP C K L I R Y) {a : Nat} (ha : K a = 1) {l b s : Int32} (hs : 0 ≤ s ∧ s ≤ 199) {fc : Nat → Int32} {V : Int32} (hP : ∀ J, dC C K L R I J → P (some (.int V)) (n, t, K, L, J, R)) : ∀ i : Int32, i ≤ 20 → ∀ J u, 0 ≤ i → i ≤ Y 0 41 → dC C K L R I J → eq9 (J (C + 9)) fc → hgY Y l s fc ((Y 0 41).toNatClampNeg - i.toNatClampNeg) i = V → a_at (d + 2) (a_xm a_m86) 12 [some (a_rf (C + 7)), some (.int l), some (a_rf a), some (.int b), some (.int s), some (.int i), u] [] (n, t, K, L, J, R) P := by
  refine up_ind 20 (fun i hk ih => ?_)
  intro J u q0 q1 hJ hf hV
  have hT := hJ.1
  have hS := hT.s
  have gX := hT.g_textsR
  have gc := hT.g_texts
  have hXJ := txP_C hT0 hX hJ
  have e41 := hXJ.1
  rw [e41] at gc
  have hexit : ¬ i < Y 0 41 → P (some (.int (-9))) (n, t, K, L, J, R) := fun w => by
    have ei : i = Y 0 41 := by
      clear ih hP hJ hf hV hXJ hX e41 hT hT0 hS gX
      grind
    have hp := hP J hJ
    rw [← hV, ← ei, Nat.sub_self] at hp
    exact hp
  have i20 : i < Y 0 41 → 0 ≤ i ∧ i < 20 := fun w => by
    clear ih hP hJ hf hV hXJ hX e41 hT hT0 hS gX hexit
    grind
  have hst : i < Y 0 41 → V = (if (wtY Y i.toNatClampNeg 0 = l ∧ Y 30 i.toNatClampNeg ≤ s ∧ s < Y 31 i.toNatClampNeg) ∧ ¬ wvY Y i.toNatClampNeg fc = 0 then i else hgY Y l s fc ((Y 0 41).toNatClampNeg - (i + 1).toNatClampNeg) (i + 1)) := fun w => by
    have i3 := cl_lt q0 w
    have i2 := i20 w
    have ei : (i + 1).toNatClampNeg = i.toNatClampNeg + 1 := cl_up q0 (by
      clear ih hP hJ hf hV hXJ hX e41 hT hT0 hS gX hexit i3
      grind)
    rw [← hV, ei, show (Y 0 41).toNatClampNeg - i.toNatClampNeg = ((Y 0 41).toNatClampNeg - (i.toNatClampNeg + 1)) + 1 by omega]
    rfl
  have hnx : i < Y 0 41 → ∀ J2 u, dC C K L R I J2 → eq9 (J2 (C + 9)) fc → ¬ ((wtY Y i.toNatClampNeg 0 = l ∧ Y 30 i.toNatClampNeg ≤ s ∧ s < Y 31 i.toNatClampNeg) ∧ ¬ wvY Y i.toNatClampNeg fc = 0) → a_at (d + 2) (a_xm a_m86) 12 [some (a_rf (C + 7)), some (.int l), some (a_rf a), some (.int b), some (.int s), some (.int (i + 1)), u] [] (n, t, K, L, J2, R) P := fun w J2 u m1 m2 q => by
    have hs := hst w
    rw [if_neg q] at hs
    have i2 := i20 w
    refine ih i2.2 J2 u ?_ ?_ m1 m2 hs.symm
    · clear ih hP hJ hf hV hXJ hX e41 hT hT0 hS gX hexit hst hs
      grind
    · clear ih hP hJ hf hV hXJ hX e41 hT hT0 hS gX hexit hst hs
      grind
  have h21 : i < Y 0 41 → a_at (d + 2) (a_xm a_m86) 21 [some (a_rf (C + 7)), some (.int l), some (a_rf a), some (.int b), some (.int s), some (.int i), u] [] (n, t, K, L, J, R) P := fun w => by
    have i2 := i20 w
    have hnx := hnx w
    have hst := hst w
    obtain ⟨k1, k2, k3, k4, k5, k6⟩ := hXJ.2 i q0 w
    have k5 := k5 s hs.1 hs.2
    have hc : 0 ≤ i ∧ i < J (C + 7) 3 ∧ i < 20 := ⟨q0, by rw [e41]; exact w, i2.2⟩
    have hv := fun Q => ck_value (d := d) (n := n) (t := t) (P := Q) k1 hT
    have n10 : ¬ (1 : Int32) = 0 := by decide
    have hcc : (J (R (C + 8) i.toNatClampNeg) 1 ≤ s ∧ s < J (R (C + 8) i.toNatClampNeg) 3) = (Y 30 i.toNatClampNeg ≤ s ∧ s < Y 31 i.toNatClampNeg) := by rw [k4, k5]
    simp only [q86_21, q86_22, q86_24, q86_27, q86_29, q86_31, q86_34, q86_36, q86_39, q86_40, k_7 hS, z_7, sp_textAt hS gX, as_nil, as_i, as_r, Nat.reduceAdd, Nat.reduceLeDiff, z_eq0, z_eq1, z_or, z_em, Classical.not_not, not_false_eq_true, not_true_eq_false, true_and, and_true, false_and, and_false, and_self, true_implies, false_implies, implies_true, Option.toList_some, Option.toList_none, List.cons_append, List.nil_append, Nat.add_eq_zero_iff, a_nl_i, a_nl_r, a_nl_n, true_or, or_true, eq_self, a_isRA_22, a_isRA_24, a_isRA_32, a_isA_20, ok_4, ok_5, ok_6, ok_7, ok_9, ok_20, ok_21, ok_30, ok_50, ok_180, ok_192, ok_200, hc, k1, k2, k3]
    try simp only [true_and, and_true, true_implies, false_implies, implies_true, not_true_eq_false, not_false_eq_true]
    by_cases c1 : wtY Y i.toNatClampNeg 0 = l
    · by_cases c2 : Y 30 i.toNatClampNeg ≤ s ∧ s < Y 31 i.toNatClampNeg
      · have h53 : a_at (d + 2) (a_xm a_m86) 53 [some (a_rf (C + 7)), some (.int l), some (a_rf a), some (.int b), some (.int s), some (.int i), some (a_rf (R (C + 8) i.toNatClampNeg))] [] (n, t, K, L, J, R) P := by
          simp only [q86_53, q86_55, q86_56, q86_59, q86_60, q86_63, k_7 hS, z_7, r_7_1 hS, k_9 hS, l_9 hS, z_9, r_7_2 hS, k_10 hS, l_10 hS, z_10, as_nil, as_i, as_r, Nat.reduceAdd, Nat.reduceLeDiff, z_eq0, z_eq1, z_or, z_em, Classical.not_not, not_false_eq_true, not_true_eq_false, true_and, and_true, false_and, and_false, and_self, true_implies, false_implies, implies_true, Option.toList_some, Option.toList_none, List.cons_append, List.nil_append, Nat.add_eq_zero_iff, a_nl_i, a_nl_r, a_nl_n, true_or, or_true, eq_self, a_isRA_22, a_isRA_24, a_isRA_32, a_isA_20, ok_4, ok_5, ok_6, ok_7, ok_9, ok_20, ok_21, ok_30, ok_50, ok_180, ok_192, ok_200, k1, k2]
          try simp only [true_and, and_true, true_implies, false_implies, implies_true, not_true_eq_false, not_false_eq_true]
          refine ck_value k1 hT (fun J2 m1 m2 => ?_)
          rw [k6, show wvY Y i.toNatClampNeg (J (C + 9)) = wvY Y i.toNatClampNeg fc from xT_q _ _ hf]
          show a_at (d + 2) (a_xm a_m86) 66 [some (a_rf (C + 7)), some (.int l), some (a_rf a), some (.int b), some (.int s), some (.int i), some (a_rf (R (C + 8) i.toNatClampNeg))] [.int (wvY Y i.toNatClampNeg fc)] (n, t, K, L, J2, R) P
          by_cases c3 : wvY Y i.toNatClampNeg fc = 0
          · have hg := hnx J2 (some (a_rf (R (C + 8) i.toNatClampNeg))) (dC_C hJ m1) (by rw [m2]; exact hf) (fun q => q.2 c3)
            clear ih hP hJ hf hV hXJ hX e41 hT hT0 hS gX hexit hst hnx hv hcc
            simp only [q86_66, q86_72, q86_75, as_nil, as_i, as_r, Nat.reduceAdd, Nat.reduceLeDiff, z_eq0, z_eq1, z_or, z_em, Classical.not_not, not_false_eq_true, not_true_eq_false, true_and, and_true, false_and, and_false, and_self, true_implies, false_implies, implies_true, Option.toList_some, Option.toList_none, List.cons_append, List.nil_append, Nat.add_eq_zero_iff, a_nl_i, a_nl_r, a_nl_n, true_or, or_true, eq_self, a_isRA_22, a_isRA_24, a_isRA_32, a_isA_20, ok_4, ok_5, ok_6, ok_7, ok_9, ok_20, ok_21, ok_30, ok_50, ok_180, ok_192, ok_200, c3]
            first
              | exact hg
              | grind
          · rw [if_pos ⟨⟨c1, c2⟩, c3⟩] at hst
            have hp := hP J2 (dC_C hJ m1)
            rw [hst] at hp
            clear ih hP hJ hf hV hXJ hX e41 hT hT0 hS gX hexit hst hnx hv hcc
            simp only [q86_66, q86_69, q86_71, as_nil, as_i, as_r, Nat.reduceAdd, Nat.reduceLeDiff, z_eq0, z_eq1, z_or, z_em, Classical.not_not, not_false_eq_true, not_true_eq_false, true_and, and_true, false_and, and_false, and_self, true_implies, false_implies, implies_true, Option.toList_some, Option.toList_none, List.cons_append, List.nil_append, Nat.add_eq_zero_iff, a_nl_i, a_nl_r, a_nl_n, true_or, or_true, eq_self, a_isRA_22, a_isRA_24, a_isRA_32, a_isA_20, ok_4, ok_5, ok_6, ok_7, ok_9, ok_20, ok_21, ok_30, ok_50, ok_180, ok_192, ok_200, c3]
            first
              | exact hp
              | grind
        clear ih hP hJ hf hV hXJ hX e41 hT0 gX hexit hst hnx hv
        simp only [q86_43, q86_45, q86_47, q86_50, k_7 hS, z_7, sp_inForce, as_nil, as_i, as_r, Nat.reduceAdd, Nat.reduceLeDiff, z_eq0, z_eq1, z_or, z_em, Classical.not_not, not_false_eq_true, not_true_eq_false, true_and, and_true, false_and, and_false, and_self, true_implies, false_implies, implies_true, Option.toList_some, Option.toList_none, List.cons_append, List.nil_append, Nat.add_eq_zero_iff, a_nl_i, a_nl_r, a_nl_n, true_or, or_true, eq_self, a_isRA_22, a_isRA_24, a_isRA_32, a_isA_20, ok_4, ok_5, ok_6, ok_7, ok_9, ok_20, ok_21, ok_30, ok_50, ok_180, ok_192, ok_200, hcc, c1, c2, k1, k2, n10, if_true]
        first
          | exact h53
          | grind
      · have hg := hnx J (some (a_rf (R (C + 8) i.toNatClampNeg))) hJ hf (fun q => c2 q.1.2)
        clear ih hP hJ hf hV hXJ hX e41 hT0 gX hexit hst hnx hv
        simp only [q86_43, q86_45, q86_47, q86_50, q86_72, q86_75, k_7 hS, z_7, sp_inForce, as_nil, as_i, as_r, Nat.reduceAdd, Nat.reduceLeDiff, z_eq0, z_eq1, z_or, z_em, Classical.not_not, not_false_eq_true, not_true_eq_false, true_and, and_true, false_and, and_false, and_self, true_implies, false_implies, implies_true, Option.toList_some, Option.toList_none, List.cons_append, List.nil_append, Nat.add_eq_zero_iff, a_nl_i, a_nl_r, a_nl_n, true_or, or_true, eq_self, a_isRA_22, a_isRA_24, a_isRA_32, a_isA_20, ok_4, ok_5, ok_6, ok_7, ok_9, ok_20, ok_21, ok_30, ok_50, ok_180, ok_192, ok_200, hcc, c1, c2, k1, k2, n10, if_false]
        first
          | exact hg
          | grind
    · have hg := hnx J (some (a_rf (R (C + 8) i.toNatClampNeg))) hJ hf (fun q => c1 q.1.1)
      clear ih hP hJ hf hV hXJ hX e41 hT0 gX hexit hst hnx hv
      simp only [q86_72, q86_75, as_nil, as_i, as_r, Nat.reduceAdd, Nat.reduceLeDiff, z_eq0, z_eq1, z_or, z_em, Classical.not_not, not_false_eq_true, not_true_eq_false, true_and, and_true, false_and, and_false, and_self, true_implies, false_implies, implies_true, Option.toList_some, Option.toList_none, List.cons_append, List.nil_append, Nat.add_eq_zero_iff, a_nl_i, a_nl_r, a_nl_n, true_or, or_true, eq_self, a_isRA_22, a_isRA_24, a_isRA_32, a_isA_20, ok_4, ok_5, ok_6, ok_7, ok_9, ok_20, ok_21, ok_30, ok_50, ok_180, ok_192, ok_200, c1]
      first
        | exact hg
        | grind
  clear ih hP hJ hf hV hst hnx hXJ hX hT0
  rw [q86_12]
  simp only [q86_14, q86_15, q86_18, q86_78, q86_80, k_7 hS, z_7, as_nil, as_i, as_r, Nat.reduceAdd, Nat.reduceLeDiff, z_eq0, z_eq1, z_or, z_em, Classical.not_not, not_false_eq_true, not_true_eq_false, true_and, and_true, false_and, and_false, and_self, true_implies, false_implies, implies_true, Option.toList_some, Option.toList_none, List.cons_append, List.nil_append, Nat.add_eq_zero_iff, a_nl_i, a_nl_r, a_nl_n, true_or, or_true, eq_self, a_isRA_22, a_isRA_24, a_isRA_32, a_isA_20, ok_4, ok_5, ok_6, ok_7, ok_9, ok_20, ok_21, ok_30, ok_50, ok_180, ok_192, ok_200, e41]
  clear hT hS gX e41
  grind
theorem ce_least (hT : cT C K L I R) (hX : txP C K L I R Y) {a : Nat} (ha : K a = 1) {l b s : Int32} (hs : 0 ≤ s ∧ s ≤ 199) {fc : Nat → Int32} (hf : eq9 (lq I a b s 0) fc) (hP : ∀ J, dC C K L R I J → P (some (.int (hgY Y l s fc (Y 0 41).toNatClampNeg 0))) (n, t, K, L, J, R)) : a_does (d + 3) 86 [a_rf (C + 7), .int l, a_rf a, .int b, .int s] (n, t, K, L, I, R) P := by
  have hS := hT.s
  obtain ⟨a1, a2, a4, a3⟩ := hT.g_ask a ha
  have a0 : (a = 0) = False := eq_false (by omega)
  have gc := hT.g_texts
  rw [hX.1] at gc
  rw [a_enter1 (M := a_m86) rfl (a_cat_rf (a_cat_int (a_cat_rf (a_cat_int (a_cat_int a_cat_nil))))) (show 5 ≤ 7 by decide)]
  show a_at _ (a_xm a_m86) 0 [some (a_rf (C + 7)), some (.int l), some (a_rf a), some (.int b), some (.int s), none, none] [] _ _
  simp only [q86_0, q86_1, q86_2, q86_3, q86_5, q86_6, k_7 hS, z_7, as_nil, as_i, as_r, Nat.reduceAdd, Nat.reduceLeDiff, z_eq0, z_eq1, z_or, z_em, Classical.not_not, not_false_eq_true, not_true_eq_false, true_and, and_true, false_and, and_false, and_self, true_implies, false_implies, implies_true, Option.toList_some, Option.toList_none, List.cons_append, List.nil_append, Nat.add_eq_zero_iff, a_nl_i, a_nl_r, a_nl_n, true_or, or_true, eq_self, a_isRA_22, a_isRA_24, a_isRA_32, a_isA_20, ok_4, ok_5, ok_6, ok_7, ok_9, ok_20, ok_21, ok_30, ok_50, ok_180, ok_192, ok_200, ha, a0]
  try simp only [true_and, and_true, true_implies, false_implies, implies_true, not_true_eq_false, not_false_eq_true]
  refine ck_learn ha hT (fun J m1 m2 => ?_)
  have hl := le_least_12 (d := d) (n := n) (t := t) (P := P) hT hX ha (l := l) (b := b) (s := s) hs (fc := fc) hP 0 (by decide) J none (by decide) gc.1 m1 (fun j hj => by rw [m2 j hj, hf j hj]) (by rw [show (0 : Int32).toNatClampNeg = 0 from rfl, Nat.sub_zero])
  clear hP hX hT hf m1 m2
  simp only [q86_9, q86_10, as_nil, as_i, as_r, Nat.reduceAdd, Nat.reduceLeDiff, z_eq0, z_eq1, z_or, z_em, Classical.not_not, not_false_eq_true, not_true_eq_false, true_and, and_true, false_and, and_false, and_self, true_implies, false_implies, implies_true, Option.toList_some, Option.toList_none, List.cons_append, List.nil_append, Nat.add_eq_zero_iff, a_nl_i, a_nl_r, a_nl_n, true_or, or_true, eq_self, a_isRA_22, a_isRA_24, a_isRA_32, a_isA_20, ok_4, ok_5, ok_6, ok_7, ok_9, ok_20, ok_21, ok_30, ok_50, ok_180, ok_192, ok_200]
  exact hl
end YH
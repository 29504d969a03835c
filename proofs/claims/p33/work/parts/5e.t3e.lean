/-! the class: marks reckoned anew -/
section YE
variable {d n t C : Nat} {K L : Nat → Nat} {I I0 J J0 J1 J2 : Nat → Nat → Int32} {R : Nat → Nat → Nat} {P : Option Value → AH → Prop}
variable {Y : Nat → Nat → Int32}
/-- the class's asks stand in their row, told apart by number -/
def akP (C : Nat) (K : Nat → Nat) (I : Nat → Nat → Int32) (R : Nat → Nat → Nat) (Y : Nat → Nat → Int32) : Prop := ∀ i : Int32, 0 ≤ i → i < Y 0 17 → K (R (C + 15) i.toNatClampNeg) = 1 ∧ ¬ (R (C + 15) i.toNatClampNeg) = 0 ∧ I (R (C + 15) i.toNatClampNeg) 4 = i
/-- each ASK's kept MARK is the model's -/
def mrP (C : Nat) (I : Nat → Nat → Int32) (R : Nat → Nat → Nat) (Y : Nat → Nat → Int32) : Prop := ∀ i : Int32, 0 ≤ i → i < Y 0 17 → I (R (C + 15) i.toNatClampNeg) 12 = mkY (cmY Y) (hsY Y) i
/-- what reckoning changes: habits, the asks' marks -/
def frM (C : Nat) (K : Nat → Nat) (R : Nat → Nat → Nat) (Y : Nat → Nat → Int32) (I J : Nat → Nat → Int32) : Prop := ∀ x j, ¬ x = C + 21 → ¬ ((K x = 1 ∧ j = 12) ∧ ∃ i : Int32, 0 ≤ i ∧ i < Y 0 17 ∧ (R (C + 15) i.toNatClampNeg) = x) → J x j = I x j
theorem cm_frM (hS : cS C K L R) (h : cmP C I Y) (hF : frM C K R Y I J) : cmP C J Y := by
  refine ⟨fun k hk => ?_, ?_⟩
  · rw [hF _ _ (by omega) (fun q => by have := q.1.1; rw [k_20 hS] at this; exact absurd this (by decide))]
    exact h.1 k hk
  · rw [hF _ _ (by omega) (fun q => absurd q.1.2 (by decide))]
    exact h.2
theorem frM_21 (hF : frM C K R Y I J) {k : Nat} {v : Int32} : frM C K R Y I (a_ui J (C + 21) k v) := fun x j p q => by
  rw [ui_ap, if_neg (fun z => p z.1)]
  exact hF x j p q
theorem frM_12 (hF : frM C K R Y I J) {i : Int32} (i0 : 0 ≤ i) (i1 : i < Y 0 17) (ha : K (R (C + 15) i.toNatClampNeg) = 1) {v : Int32} : frM C K R Y I (a_ui J (R (C + 15) i.toNatClampNeg) 12 v) := fun x j p q => by
  rw [ui_ap, if_neg (fun z => q ⟨⟨by rw [z.1]; exact ha, z.2⟩, i, i0, i1, z.1.symm⟩)]
  exact hF x j p q
theorem le_reckon_39 (hA : akP C K I R Y) (hm : cmP C I Y) {hb : Int32 → Int32} (hP : ∀ J, cT C K L J R → frM C K R Y I J → (∀ i : Int32, 0 ≤ i → i < Y 0 17 → J (R (C + 15) i.toNatClampNeg) 12 = mkY (cmY Y) hb i) → P none (n, t, K, L, J, R)) : ∀ i : Int32, i ≤ 30 → ∀ J u, 0 ≤ i → i ≤ Y 0 17 → cT C K L J R → frM C K R Y I J → (∀ r : Int32, 0 ≤ r → r ≤ 5 → J (C + 21) r.toNatClampNeg = hb r) → (∀ o : Int32, 0 ≤ o → o < i → J (R (C + 15) o.toNatClampNeg) 12 = mkY (cmY Y) hb o) → a_at (d + 3) (a_xm a_m27) 39 [some (a_rf (C + 17)), some (.int i), u] [] (n, t, K, L, J, R) P := by
  refine up_ind 30 (fun i hk ih => ?_)
  intro J u q0 q1 hT hF hh hD
  have hS := hT.s
  have gA := hT.g_asksR
  have hmJ := cm_frM hS hm hF
  have gc := hT.g_asks
  rw [hmJ.2] at gc
  have hend : ¬ i < Y 0 17 → P none (n, t, K, L, J, R) := fun w => hP J hT hF (fun o h0 h1 => hD o h0 (by clear ih hP hF hh hD hA hm hmJ; grind))
  have hgo : i < Y 0 17 → ∀ J', (J' = a_ui J (R (C + 15) i.toNatClampNeg) 12 (mkY (cmY Y) hb i)) → a_at (d + 3) (a_xm a_m27) 39 [some (a_rf (C + 17)), some (.int (i + 1)), some (a_rf (R (C + 15) i.toNatClampNeg))] [] (n, t, K, L, J', R) P := fun w J' eJ => by
    subst eJ
    obtain ⟨k1, k2, k3⟩ := hA i q0 w
    have i30 : i < 30 := by clear ih hP hF hh hD hA hm hmJ hend; grind
    refine ih i30 _ _ (by clear ih hP hF hh hD hA hm hmJ hend; grind) (by clear ih hP hF hh hD hA hm hmJ hend; grind) (sT_askf hT (hT.g_ask _ k1).1 k1 (by decide)) (frM_12 hF q0 w k1) (fun r h0 h1 => ?_) (fun o h0 h1 => ?_)
    · rw [ui_ap, if_neg (fun z => by have := (hT.g_ask _ k1).1; omega)]
      exact hh r h0 h1
    · rw [ui_ap]
      by_cases c : o = i
      · subst c
        rw [if_pos ⟨rfl, rfl⟩]
      · have ho : o < i := by clear ih hP hF hh hD hA hm hmJ hend; grind
        obtain ⟨-, -, k6⟩ := hA o h0 (by clear ih hP hF hh hD hA hm hmJ hend; grind)
        rw [if_neg (fun z => c (by rw [← k6, ← k3, z.1]))]
        exact hD o h0 ho
  have h55 : i < Y 0 17 → a_at (d + 3) (a_xm a_m27) 50 [some (a_rf (C + 17)), some (.int i), u] [] (n, t, K, L, J, R) P := fun w => by
    have hgo := hgo w _ rfl
    obtain ⟨k1, k2, k3⟩ := hA i q0 w
    have i30 : i < 30 := by clear ih hP hF hh hD hA hm hgo hend hmJ; grind
    have hc : 0 ≤ i ∧ i < J (C + 14) 4 ∧ i < 30 := ⟨q0, by rw [hmJ.2]; exact w, i30⟩
    simp only [q27_50, q27_51, q27_54, q27_55, q27_58, q27_59, q27_60, q27_63, q27_64, q27_65, q27_66, k_17 hS, z_17, r_17_0 hS, k_14 hS, z_14, sp_askAt hS gA, as_nil, as_i, as_r, Nat.reduceAdd, Nat.reduceLeDiff, z_eq0, z_eq1, z_or, z_em, Classical.not_not, not_false_eq_true, not_true_eq_false, true_and, and_true, false_and, and_false, and_self, true_implies, false_implies, implies_true, Option.toList_some, Option.toList_none, List.cons_append, List.nil_append, Nat.add_eq_zero_iff, a_nl_i, a_nl_r, a_nl_n, true_or, or_true, eq_self, a_isRA_22, a_isRA_24, a_isRA_32, a_isA_20, ok_4, ok_5, ok_6, ok_7, ok_9, ok_20, ok_21, ok_30, ok_50, ok_180, ok_192, ok_200, hc, k1, k2]
    try simp only [true_and, and_true, true_implies, false_implies, implies_true, not_true_eq_false, not_false_eq_true]
    refine ce_joinedMark hS hmJ hh ⟨q0, i30⟩ ?_
    clear ih hP hF hh hD hA hm hmJ hend
    simp only [q27_69, q27_72, q27_75, k_17 hS, z_17, as_nil, as_i, as_r, Nat.reduceAdd, Nat.reduceLeDiff, z_eq0, z_eq1, z_or, z_em, Classical.not_not, not_false_eq_true, not_true_eq_false, true_and, and_true, false_and, and_false, and_self, true_implies, false_implies, implies_true, Option.toList_some, Option.toList_none, List.cons_append, List.nil_append, Nat.add_eq_zero_iff, a_nl_i, a_nl_r, a_nl_n, true_or, or_true, eq_self, a_isRA_22, a_isRA_24, a_isRA_32, a_isA_20, ok_4, ok_5, ok_6, ok_7, ok_9, ok_20, ok_21, ok_30, ok_50, ok_180, ok_192, ok_200, k1, k2]
    first
      | exact hgo
      | grind
  clear ih hP hF hh hD hA hm hgo
  rw [q27_39]
  simp only [q27_40, q27_41, q27_44, q27_47, q27_78, k_17 hS, z_17, r_17_0 hS, k_14 hS, z_14, as_nil, as_i, as_r, Nat.reduceAdd, Nat.reduceLeDiff, z_eq0, z_eq1, z_or, z_em, Classical.not_not, not_false_eq_true, not_true_eq_false, true_and, and_true, false_and, and_false, and_self, true_implies, false_implies, implies_true, Option.toList_some, Option.toList_none, List.cons_append, List.nil_append, Nat.add_eq_zero_iff, a_nl_i, a_nl_r, a_nl_n, true_or, or_true, eq_self, a_isRA_22, a_isRA_24, a_isRA_32, a_isA_20, ok_4, ok_5, ok_6, ok_7, ok_9, ok_20, ok_21, ok_30, ok_50, ok_180, ok_192, ok_200, hmJ.2]
  clear hmJ
  grind
theorem le_reckon_2 (hA : akP C K I R Y) (hm : cmP C I Y) (hY : mkP Y) (hs : I (C + 17) 5 = Y 0 11) (hP : ∀ J, cT C K L J R → frM C K R Y I J → mrP C J R Y → P none (n, t, K, L, J, R)) : ∀ r : Int32, r ≤ 6 → ∀ J u, 0 ≤ r → cT C K L J R → frM C K R Y I J → (∀ o : Int32, 0 ≤ o → o < r → J (C + 21) o.toNatClampNeg = hsY Y o) → a_at (d + 3) (a_xm a_m27) 2 [some (a_rf (C + 17)), some (.int r), u] [] (n, t, K, L, J, R) P := by
  refine up_ind 6 (fun r hk ih => ?_)
  intro J u q0 hT hF hh
  have hS := hT.s
  have hmJ := cm_frM hS hm hF
  have hsJ : J (C + 17) 5 = Y 0 11 := by
    rw [hF _ _ (by omega) (fun q => absurd q.1.2 (by decide))]
    exact hs
  have gc := hT.g_asks
  rw [hmJ.2] at gc
  have hend : ¬ r < 6 → a_at (d + 3) (a_xm a_m27) 39 [some (a_rf (C + 17)), some (.int 0), u] [] (n, t, K, L, J, R) P := fun w => le_reckon_39 (d := d) (hb := hsY Y) hA hm hP 0 (by decide) J u (by decide) gc.1 hT hF (fun o h0 h1 => hh o h0 (by clear ih hP hF hh hA hm hmJ; grind)) (fun o h0 h1 => by clear ih hP hF hh hA hm hmJ; grind)
  have hgo : r < 6 → ∀ v, v = hsY Y r → a_at (d + 3) (a_xm a_m27) 2 [some (a_rf (C + 17)), some (.int (r + 1)), u] [] (n, t, K, L, (a_ui J (C + 21) r.toNatClampNeg v), R) P := fun w v ev => by
    refine ih w _ _ (by clear ih hP hF hh hA hm hmJ hend; grind) (sT_Panel_habits hT) (frM_21 hF) (fun o h0 h1 => ?_)
    rw [ui_ap]
    by_cases c : o.toNatClampNeg = r.toNatClampNeg
    · have : o = r := by
        refine Classical.byContradiction (fun z => ?_)
        have : o < r := by clear ih hP hF hh hA hm hmJ hend c; grind
        have := cl_lt h0 this
        omega
      subst this
      rw [if_pos ⟨rfl, rfl⟩, ev]
    · rw [if_neg (fun z => c z.2)]
      exact hh o h0 (by
        have : ¬ o = r := fun z => c (by rw [z])
        clear ih hP hF hh hA hm hmJ hend c
        grind)
  have h8 : r < 6 → a_at (d + 3) (a_xm a_m27) 8 [some (a_rf (C + 17)), some (.int r), u] [] (n, t, K, L, J, R) P := fun w => by
    have hgo := hgo w
    have hr : 0 ≤ r ∧ r ≤ 5 := by clear ih hP hF hh hA hm hmJ hend hgo; grind
    by_cases c : Y 0 11 = 1
    · have hgo := hgo _ rfl
      unfold hsY at hgo
      rw [if_pos c] at hgo
      simp only [q27_8, q27_9, q27_12, q27_13, q27_14, q27_17, q27_18, q27_21, q27_22, q27_23, k_17 hS, z_17, r_17_4 hS, k_21 hS, l_21 hS, z_21, as_nil, as_i, as_r, Nat.reduceAdd, Nat.reduceLeDiff, z_eq0, z_eq1, z_or, z_em, Classical.not_not, not_false_eq_true, not_true_eq_false, true_and, and_true, false_and, and_false, and_self, true_implies, false_implies, implies_true, Option.toList_some, Option.toList_none, List.cons_append, List.nil_append, Nat.add_eq_zero_iff, a_nl_i, a_nl_r, a_nl_n, true_or, or_true, eq_self, a_isRA_22, a_isRA_24, a_isRA_32, a_isA_20, ok_4, ok_5, ok_6, ok_7, ok_9, ok_20, ok_21, ok_30, ok_50, ok_180, ok_192, ok_200, hsJ, c]
      try simp only [true_and, and_true, true_implies, false_implies, implies_true, not_true_eq_false, not_false_eq_true]
      refine ce_habitOf hT hmJ hY hr ?_
      clear ih hP hF hh hA hm hmJ hend
      repeat' first
        | with_reducible apply And.intro
        | with_reducible assumption
        | with_reducible intro _
        | with_reducible apply hgo
        | simp only [q27_26, q27_29, q27_30, q27_31, q27_34, as_nil, as_i, as_r, Nat.reduceAdd, Nat.reduceLeDiff, z_eq0, z_eq1, z_or, z_em, Classical.not_not, not_false_eq_true, not_true_eq_false, true_and, and_true, false_and, and_false, and_self, true_implies, false_implies, implies_true, Option.toList_some, Option.toList_none, List.cons_append, List.nil_append, Nat.add_eq_zero_iff, a_nl_i, a_nl_r, a_nl_n, true_or, or_true, eq_self, a_isRA_22, a_isRA_24, a_isRA_32, a_isA_20, ok_4, ok_5, ok_6, ok_7, ok_9, ok_20, ok_21, ok_30, ok_50, ok_180, ok_192, ok_200, k_21 hS, l_21 hS, z_21]
      all_goals grind [ui_ap]
    · have hgo := hgo 0 (by unfold hsY; rw [if_neg c])
      clear ih hP hF hh hA hm hmJ hend
      simp only [q27_8, q27_9, q27_12, q27_13, q27_14, q27_17, q27_18, q27_21, q27_22, q27_23, q27_26, q27_29, q27_30, q27_31, q27_34, k_17 hS, z_17, r_17_4 hS, k_21 hS, l_21 hS, z_21, as_nil, as_i, as_r, Nat.reduceAdd, Nat.reduceLeDiff, z_eq0, z_eq1, z_or, z_em, Classical.not_not, not_false_eq_true, not_true_eq_false, true_and, and_true, false_and, and_false, and_self, true_implies, false_implies, implies_true, Option.toList_some, Option.toList_none, List.cons_append, List.nil_append, Nat.add_eq_zero_iff, a_nl_i, a_nl_r, a_nl_n, true_or, or_true, eq_self, a_isRA_22, a_isRA_24, a_isRA_32, a_isA_20, ok_4, ok_5, ok_6, ok_7, ok_9, ok_20, ok_21, ok_30, ok_50, ok_180, ok_192, ok_200, hsJ, c]
      grind
  clear ih hP hF hh hA hm hgo hmJ
  rw [q27_2]
  simp only [q27_3, q27_5, q27_37, q27_38, as_nil, as_i, as_r, Nat.reduceAdd, Nat.reduceLeDiff, z_eq0, z_eq1, z_or, z_em, Classical.not_not, not_false_eq_true, not_true_eq_false, true_and, and_true, false_and, and_false, and_self, true_implies, false_implies, implies_true, Option.toList_some, Option.toList_none, List.cons_append, List.nil_append, Nat.add_eq_zero_iff, a_nl_i, a_nl_r, a_nl_n, true_or, or_true, eq_self, a_isRA_22, a_isRA_24, a_isRA_32, a_isA_20, ok_4, ok_5, ok_6, ok_7, ok_9, ok_20, ok_21, ok_30, ok_50, ok_180, ok_192, ok_200]
  grind
theorem ce_reckonMarks (hT : cT C K L I R) (hA : akP C K I R Y) (hm : cmP C I Y) (hY : mkP Y) (hs : I (C + 17) 5 = Y 0 11) (hP : ∀ J, cT C K L J R → frM C K R Y I J → mrP C J R Y → P none (n, t, K, L, J, R)) : a_does (d + 4) 27 [a_rf (C + 17)] (n, t, K, L, I, R) P := by
  have hS := hT.s
  have hl := le_reckon_2 (d := d) (n := n) (t := t) (P := P) hA hm hY hs hP 0 (by decide) I none (by decide) hT (fun x j _ _ => rfl) (fun o h0 h1 => by clear hP hA hm hY hT; grind)
  rw [a_enter1 (M := a_m27) rfl (a_cat_rf a_cat_nil) (show 1 ≤ 3 by decide)]
  show a_at _ (a_xm a_m27) 0 [some (a_rf (C + 17)), none, none] [] _ _
  repeat' first
    | with_reducible apply And.intro
    | with_reducible assumption
    | with_reducible intro _
    | with_reducible apply hl
    | simp only [q27_0, q27_1, as_nil, as_i, as_r, Nat.reduceAdd, Nat.reduceLeDiff, z_eq0, z_eq1, z_or, z_em, Classical.not_not, not_false_eq_true, not_true_eq_false, true_and, and_true, false_and, and_false, and_self, true_implies, false_implies, implies_true, Option.toList_some, Option.toList_none, List.cons_append, List.nil_append, Nat.add_eq_zero_iff, a_nl_i, a_nl_r, a_nl_n, true_or, or_true, eq_self, a_isRA_22, a_isRA_24, a_isRA_32, a_isA_20, ok_4, ok_5, ok_6, ok_7, ok_9, ok_20, ok_21, ok_30, ok_50, ok_180, ok_192, ok_200]
  all_goals grind [ui_ap]
end YE
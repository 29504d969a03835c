/-! the class: marks, just so -/
section YB
variable {d n t C : Nat} {K L : Nat → Nat} {I I0 J J0 J1 J2 : Nat → Nat → Int32} {R : Nat → Nat → Nat} {P : Option Value → AH → Prop}
variable {Y : Nat → Nat → Int32}
/-- the class's marks are the model's -/
def cmP (C : Nat) (I : Nat → Nat → Int32) (Y : Nat → Nat → Int32) : Prop := (∀ k, k < 180 → I (C + 20) k = if Y 38 k = 0 then -9 else Y 36 k) ∧ I (C + 14) 4 = Y 0 17
theorem ix_30 {r a : Int32} (hr : 0 ≤ r ∧ r ≤ 5) (ha : 0 ≤ a ∧ a < 30) : (30 * r + a).toNatClampNeg < 180 ∧ 0 ≤ 30 * r + a ∧ 30 * r + a < 180 := by
  have e : 0 ≤ 30 * r + a ∧ 30 * r + a < 180 := by grind
  exact ⟨show _ < (180 : Int32).toNatClampNeg from cl_lt e.1 e.2, e⟩
theorem cm_at (h : cmP C I Y) {r a : Int32} (hr : 0 ≤ r ∧ r ≤ 5) (ha : 0 ≤ a ∧ a < 30) : I (C + 20) (30 * r + a).toNatClampNeg = cmY Y r a := h.1 _ (ix_30 hr ha).1
theorem ce_markBy (hS : cS C K L R) {r a : Int32} (hr : 0 ≤ r ∧ r ≤ 5) (ha : 0 ≤ a ∧ a < 30) (hm : cmP C I Y) (hP : P (some (.int (cmY Y r a))) (n, t, K, L, I, R)) : a_does (d + 1) 30 [a_rf (C + 17), .int r, .int a] (n, t, K, L, I, R) P := by
  have e := (ix_30 hr ha).2
  rw [← cm_at hm hr ha] at hP
  have c : r * 30 = 30 * r := Int32.mul_comm _ _
  rw [a_enter1 (M := a_m30) rfl (a_cat_rf (a_cat_int (a_cat_int a_cat_nil))) (show 3 ≤ 4 by decide)]
  show a_at _ (a_xm a_m30) 0 [some (a_rf (C + 17)), some (.int r), some (.int a), none] [] _ _
  simp only [q30_0, q30_1, q30_3, q30_4, q30_5, q30_6, q30_7, q30_8, q30_11, q30_12, q30_13, q30_16, q30_17, q30_20, q30_21, q30_24, q30_25, q30_26, q30_29, q30_31, k_17 hS, z_17, r_17_3 hS, k_20 hS, l_20 hS, z_20, as_nil, as_i, as_r, Nat.reduceAdd, Nat.reduceLeDiff, z_eq0, z_eq1, z_or, z_em, Classical.not_not, not_false_eq_true, not_true_eq_false, true_and, and_true, false_and, and_false, and_self, true_implies, false_implies, implies_true, Option.toList_some, Option.toList_none, List.cons_append, List.nil_append, Nat.add_eq_zero_iff, a_nl_i, a_nl_r, a_nl_n, true_or, or_true, eq_self, a_isRA_22, a_isRA_24, a_isRA_32, a_isA_20, ok_4, ok_5, ok_6, ok_7, ok_9, ok_20, ok_21, ok_30, ok_50, ok_180, ok_192, ok_200, of_180, c]
  clear hm
  grind
theorem ce_areTwo (hS : cS C K L R) {r o a : Int32} (hr : 0 ≤ r ∧ r ≤ 5) (ho : 0 ≤ o ∧ o ≤ 5) (ha : 0 ≤ a ∧ a < 30) (hm : cmP C I Y) (h0 : ¬ (¬ o = r ∧ ¬ cmY Y r a = -9 ∧ ¬ cmY Y o a = -9) → P (some (.int 0)) (n, t, K, L, I, R)) (h1 : (¬ o = r ∧ ¬ cmY Y r a = -9 ∧ ¬ cmY Y o a = -9) → P (some (.int 1)) (n, t, K, L, I, R)) : a_does (d + 2) 29 [a_rf (C + 17), .int r, .int o, .int a] (n, t, K, L, I, R) P := by
  rw [a_enter1 (M := a_m29) rfl (a_cat_rf (a_cat_int (a_cat_int (a_cat_int a_cat_nil)))) (show 4 ≤ 4 by decide)]
  show a_at _ (a_xm a_m29) 0 [some (a_rf (C + 17)), some (.int r), some (.int o), some (.int a)] [] _ _
  repeat' first
    | with_reducible apply And.intro
    | with_reducible assumption
    | with_reducible intro _
    | refine ce_markBy hS hr ha hm ?_
    | refine ce_markBy hS ho ha hm ?_
    | refine h0 ?_
    | refine h1 ?_
    | simp only [q29_0, q29_1, q29_2, q29_5, q29_6, q29_7, q29_8, q29_11, q29_13, q29_16, q29_17, q29_18, q29_19, q29_22, q29_24, q29_27, q29_28, q29_31, q29_32, k_17 hS, z_17, as_nil, as_i, as_r, Nat.reduceAdd, Nat.reduceLeDiff, z_eq0, z_eq1, z_or, z_em, Classical.not_not, not_false_eq_true, not_true_eq_false, true_and, and_true, false_and, and_false, and_self, true_implies, false_implies, implies_true, Option.toList_some, Option.toList_none, List.cons_append, List.nil_append, Nat.add_eq_zero_iff, a_nl_i, a_nl_r, a_nl_n, true_or, or_true, eq_self, a_isRA_22, a_isRA_24, a_isRA_32, a_isA_20, ok_4, ok_5, ok_6, ok_7, ok_9, ok_20, ok_21, ok_30, ok_50, ok_180, ok_192, ok_200]
  all_goals ((try clear h0); (try clear h1); (try clear hm); (try clear hS); grind [ui_ap])
theorem le_habitOf_22 (hS : cS C K L R) (hm : cmP C I Y) {r a : Int32} (hr : 0 ≤ r ∧ r ≤ 5) (ha : 0 ≤ a ∧ a < 30) {V : Int32 × Int32} (hn : ∀ u, a_at (d + 2) (a_xm a_m28) 69 [some (a_rf (C + 17)), some (.int r), some (.int (V.1)), some (.int (V.2)), some (.int a), u] [] (n, t, K, L, I, R) P) : ∀ o : Int32, o ≤ 6 → ∀ s q, 0 ≤ o → fdI (cmY Y) hbS r a (6 - o.toNatClampNeg) o (s, q) = V → a_at (d + 2) (a_xm a_m28) 22 [some (a_rf (C + 17)), some (.int r), some (.int s), some (.int q), some (.int a), some (.int o)] [] (n, t, K, L, I, R) P := by
  refine up_ind 6 (fun o hk ih => ?_)
  intro s q h0 hV
  have hexit : ¬ o < 6 → a_at (d + 2) (a_xm a_m28) 69 [some (a_rf (C + 17)), some (.int r), some (.int s), some (.int q), some (.int a), some (.int o)] [] (n, t, K, L, I, R) P := fun w => by
    have : o = 6 := by clear ih hn hV hm hS; grind
    subst this
    have hc := hn (some (.int 6))
    rw [← hV] at hc
    exact hc
  have hst : o < 6 → ∀ p, (p = if ¬ o = r ∧ ¬ cmY Y r a = -9 ∧ ¬ cmY Y o a = -9 then hbS (s, q) (cmY Y r a - cmY Y o a) else (s, q)) → a_at (d + 2) (a_xm a_m28) 22 [some (a_rf (C + 17)), some (.int r), some (.int (p.1)), some (.int (p.2)), some (.int a), some (.int (o + 1))] [] (n, t, K, L, I, R) P := fun c p hp => by
    have i3 : o.toNatClampNeg < 6 := show _ < (6 : Int32).toNatClampNeg from cl_lt h0 c
    have ei : (o + 1).toNatClampNeg = o.toNatClampNeg + 1 := cl_up h0 (by clear ih hn hV hm hp hS; grind)
    refine ih c p.1 p.2 (by clear ih hn hV hm hp hS; grind) ?_
    rw [← hV, ei, show 6 - o.toNatClampNeg = (6 - (o.toNatClampNeg + 1)) + 1 by omega]
    conv => rhs; unfold fdI
    rw [← hp]
  have h29 : o < 6 → a_at (d + 2) (a_xm a_m28) 29 [some (a_rf (C + 17)), some (.int r), some (.int s), some (.int q), some (.int a), some (.int o)] [] (n, t, K, L, I, R) P := fun c => by
    have ho : 0 ≤ o ∧ o ≤ 5 := by clear ih hn hV hm hst hS; grind
    have hst := hst c
    simp only [q28_29, q28_30, q28_31, q28_33, q28_35, k_17 hS, z_17, as_nil, as_i, as_r, Nat.reduceAdd, Nat.reduceLeDiff, z_eq0, z_eq1, z_or, z_em, Classical.not_not, not_false_eq_true, not_true_eq_false, true_and, and_true, false_and, and_false, and_self, true_implies, false_implies, implies_true, Option.toList_some, Option.toList_none, List.cons_append, List.nil_append, Nat.add_eq_zero_iff, a_nl_i, a_nl_r, a_nl_n, true_or, or_true, eq_self, a_isRA_22, a_isRA_24, a_isRA_32, a_isA_20, ok_4, ok_5, ok_6, ok_7, ok_9, ok_20, ok_21, ok_30, ok_50, ok_180, ok_192, ok_200]
    refine ce_areTwo hS hr ho ha hm (fun w => ?_) (fun w => ?_)
    · have hg := hst (s, q) (by rw [if_neg w])
      simp only [q28_38, q28_63, q28_66, as_nil, as_i, as_r, Nat.reduceAdd, Nat.reduceLeDiff, z_eq0, z_eq1, z_or, z_em, Classical.not_not, not_false_eq_true, not_true_eq_false, true_and, and_true, false_and, and_false, and_self, true_implies, false_implies, implies_true, Option.toList_some, Option.toList_none, List.cons_append, List.nil_append, Nat.add_eq_zero_iff, a_nl_i, a_nl_r, a_nl_n, true_or, or_true, eq_self, a_isRA_22, a_isRA_24, a_isRA_32, a_isA_20, ok_4, ok_5, ok_6, ok_7, ok_9, ok_20, ok_21, ok_30, ok_50, ok_180, ok_192, ok_200]
      first
        | exact hg
        | exact ⟨fun _ => hg, fun z => absurd rfl z⟩
    · have hg := hst (hbS (s, q) (cmY Y r a - cmY Y o a)) (by rw [if_pos w])
      have n1 : ¬ (1 : Int32) = 0 := by decide
      simp only [q28_38, q28_41, q28_42, q28_43, q28_44, q28_46, k_17 hS, z_17, as_nil, as_i, as_r, Nat.reduceAdd, Nat.reduceLeDiff, z_eq0, z_eq1, z_or, z_em, Classical.not_not, not_false_eq_true, not_true_eq_false, true_and, and_true, false_and, and_false, and_self, true_implies, false_implies, implies_true, Option.toList_some, Option.toList_none, List.cons_append, List.nil_append, Nat.add_eq_zero_iff, a_nl_i, a_nl_r, a_nl_n, true_or, or_true, eq_self, a_isRA_22, a_isRA_24, a_isRA_32, a_isA_20, ok_4, ok_5, ok_6, ok_7, ok_9, ok_20, ok_21, ok_30, ok_50, ok_180, ok_192, ok_200, n1]
      try simp only [true_and, and_true, true_implies, false_implies, implies_true, not_true_eq_false, not_false_eq_true]
      refine ce_markBy hS hr ha hm ?_
      simp only [q28_49, q28_50, q28_52, q28_54, k_17 hS, z_17, as_nil, as_i, as_r, Nat.reduceAdd, Nat.reduceLeDiff, z_eq0, z_eq1, z_or, z_em, Classical.not_not, not_false_eq_true, not_true_eq_false, true_and, and_true, false_and, and_false, and_self, true_implies, false_implies, implies_true, Option.toList_some, Option.toList_none, List.cons_append, List.nil_append, Nat.add_eq_zero_iff, a_nl_i, a_nl_r, a_nl_n, true_or, or_true, eq_self, a_isRA_22, a_isRA_24, a_isRA_32, a_isA_20, ok_4, ok_5, ok_6, ok_7, ok_9, ok_20, ok_21, ok_30, ok_50, ok_180, ok_192, ok_200]
      refine ce_markBy hS ho ha hm ?_
      simp only [q28_57, q28_58, q28_59, q28_60, q28_63, q28_66, as_nil, as_i, as_r, Nat.reduceAdd, Nat.reduceLeDiff, z_eq0, z_eq1, z_or, z_em, Classical.not_not, not_false_eq_true, not_true_eq_false, true_and, and_true, false_and, and_false, and_self, true_implies, false_implies, implies_true, Option.toList_some, Option.toList_none, List.cons_append, List.nil_append, Nat.add_eq_zero_iff, a_nl_i, a_nl_r, a_nl_n, true_or, or_true, eq_self, a_isRA_22, a_isRA_24, a_isRA_32, a_isA_20, ok_4, ok_5, ok_6, ok_7, ok_9, ok_20, ok_21, ok_30, ok_50, ok_180, ok_192, ok_200]
      exact hg
  clear ih hn hV hst hm
  rw [q28_22]
  repeat' first
    | with_reducible apply And.intro
    | with_reducible assumption
    | with_reducible intro _
    | refine hexit ?_
    | refine h29 ?_
    | simp only [q28_24, q28_26, as_nil, as_i, as_r, Nat.reduceAdd, Nat.reduceLeDiff, z_eq0, z_eq1, z_or, z_em, Classical.not_not, not_false_eq_true, not_true_eq_false, true_and, and_true, false_and, and_false, and_self, true_implies, false_implies, implies_true, Option.toList_some, Option.toList_none, List.cons_append, List.nil_append, Nat.add_eq_zero_iff, a_nl_i, a_nl_r, a_nl_n, true_or, or_true, eq_self, a_isRA_22, a_isRA_24, a_isRA_32, a_isA_20, ok_4, ok_5, ok_6, ok_7, ok_9, ok_20, ok_21, ok_30, ok_50, ok_180, ok_192, ok_200]
  all_goals ((try clear hexit); (try clear h29); (try clear hS); grind [ui_ap])
theorem le_habitOf_7 (hT : cT C K L I R) (hm : cmP C I Y) {r : Int32} (hr : 0 ≤ r ∧ r ≤ 5) {V : Int32 × Int32} (hn : ∀ a u, a_at (d + 2) (a_xm a_m28) 75 [some (a_rf (C + 17)), some (.int r), some (.int (V.1)), some (.int (V.2)), some (.int a), u] [] (n, t, K, L, I, R) P) : ∀ a : Int32, a ≤ 30 → ∀ s q u, 0 ≤ a → a ≤ Y 0 17 → fdO (cmY Y) hbS r ((Y 0 17).toNatClampNeg - a.toNatClampNeg) a (s, q) = V → a_at (d + 2) (a_xm a_m28) 7 [some (a_rf (C + 17)), some (.int r), some (.int s), some (.int q), some (.int a), u] [] (n, t, K, L, I, R) P := by
  have hS := hT.s
  have gc := hT.g_asks
  have e17 := hm.2
  rw [e17] at gc
  refine up_ind 30 (fun a ha ih => ?_)
  intro s q u h0 h1 hV
  have hexit : ¬ a < Y 0 17 → a_at (d + 2) (a_xm a_m28) 75 [some (a_rf (C + 17)), some (.int r), some (.int s), some (.int q), some (.int a), u] [] (n, t, K, L, I, R) P := fun w => by
    have ea : a = Y 0 17 := by clear ih hn hV hm hT hS; grind
    have hc := hn a u
    rw [ea, Nat.sub_self] at hV
    rw [← hV] at hc
    exact hc
  have hgo : a < Y 0 17 → a_at (d + 2) (a_xm a_m28) 22 [some (a_rf (C + 17)), some (.int r), some (.int s), some (.int q), some (.int a), some (.int 0)] [] (n, t, K, L, I, R) P := fun c => by
    have i3 := cl_lt h0 c
    have a30 : a < 30 := by clear ih hn hV hm hexit hT hS; grind
    have ei : (a + 1).toNatClampNeg = a.toNatClampNeg + 1 := cl_up h0 (by clear ih hn hV hm hexit hT hS; grind)
    refine le_habitOf_22 hS hm hr ⟨h0, a30⟩ (V := fdI (cmY Y) hbS r a 6 0 (s, q)) (fun u => ?_) 0 (by decide) s q (by decide) rfl
    simp only [q28_69, q28_72, as_nil, as_i, as_r, Nat.reduceAdd, Nat.reduceLeDiff, z_eq0, z_eq1, z_or, z_em, Classical.not_not, not_false_eq_true, not_true_eq_false, true_and, and_true, false_and, and_false, and_self, true_implies, false_implies, implies_true, Option.toList_some, Option.toList_none, List.cons_append, List.nil_append, Nat.add_eq_zero_iff, a_nl_i, a_nl_r, a_nl_n, true_or, or_true, eq_self, a_isRA_22, a_isRA_24, a_isRA_32, a_isA_20, ok_4, ok_5, ok_6, ok_7, ok_9, ok_20, ok_21, ok_30, ok_50, ok_180, ok_192, ok_200]
    refine ih a30 _ _ _ (by clear ih hn hV hm hexit hT hS; grind) (by clear ih hn hV hm hexit hT hS; grind) ?_
    rw [← hV, ei, show (Y 0 17).toNatClampNeg - a.toNatClampNeg = ((Y 0 17).toNatClampNeg - (a.toNatClampNeg + 1)) + 1 by omega]
    rfl
  clear ih hn hV hm
  rw [q28_7]
  repeat' first
    | with_reducible apply And.intro
    | with_reducible assumption
    | with_reducible intro _
    | refine hexit ?_
    | refine hgo ?_
    | simp only [q28_9, q28_10, q28_13, q28_16, q28_19, q28_20, k_17 hS, z_17, r_17_0 hS, k_14 hS, z_14, as_nil, as_i, as_r, Nat.reduceAdd, Nat.reduceLeDiff, z_eq0, z_eq1, z_or, z_em, Classical.not_not, not_false_eq_true, not_true_eq_false, true_and, and_true, false_and, and_false, and_self, true_implies, false_implies, implies_true, Option.toList_some, Option.toList_none, List.cons_append, List.nil_append, Nat.add_eq_zero_iff, a_nl_i, a_nl_r, a_nl_n, true_or, or_true, eq_self, a_isRA_22, a_isRA_24, a_isRA_32, a_isA_20, ok_4, ok_5, ok_6, ok_7, ok_9, ok_20, ok_21, ok_30, ok_50, ok_180, ok_192, ok_200, e17]
  all_goals ((try clear hexit); (try clear hgo); (try clear hT); (try clear hS); grind [ui_ap])
end YB
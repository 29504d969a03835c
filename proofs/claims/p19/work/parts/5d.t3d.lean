/-! the class: habits, doubts, the joint mark -/
section YD
variable {d n t C : Nat} {K L : Nat → Nat} {I I0 J J0 J1 J2 : Nat → Nat → Int32} {R : Nat → Nat → Nat} {P : Option Value → AH → Prop}
variable {Y : Nat → Nat → Int32}
theorem ce_floorDiv {a b : Int32} {h : AH} (hb : 0 < b) (h3 : b ≤ 1000) (h1 : -100000 ≤ a) (hP : P (some (.int (if 0 ≤ a then a / b else -((b - 1 - a) / b)))) h) : a_does (d + 1) 31 [.int a, .int b] h P := by
  have hx := in_xor (a := a) (b := b)
  have nb : ¬ b < 0 := by clear hx hP; grind
  have b0 : ¬ b = 0 := by clear hx hP; grind
  rw [a_enter1 (M := a_m31) rfl (a_cat_int (a_cat_int a_cat_nil)) (show 2 ≤ 3 by decide)]
  show a_at _ (a_xm a_m31) 0 [some (.int a), some (.int b), none] [] _ _
  by_cases c : 0 ≤ a
  · rw [if_pos c] at hP
    have hx2 : ¬ (a ^^^ b) < 0 := by
      rw [hx]
      clear hx hP
      grind
    simp only [q31_0, q31_1, q31_2, q31_3, q31_4, q31_5, q31_6, q31_7, q31_10, q31_11, q31_12, q31_13, q31_14, q31_17, q31_18, q31_19, q31_20, q31_21, q31_22, as_nil, as_i, as_r, Nat.reduceAdd, Nat.reduceLeDiff, z_eq0, z_eq1, z_or, z_em, Classical.not_not, not_false_eq_true, not_true_eq_false, true_and, and_true, false_and, and_false, and_self, true_implies, false_implies, implies_true, Option.toList_some, Option.toList_none, List.cons_append, List.nil_append, Nat.add_eq_zero_iff, a_nl_i, a_nl_r, a_nl_n, true_or, or_true, eq_self, b0]
    clear hx
    grind
  · rw [if_neg c] at hP
    have c2 : a < 0 := Int32.not_le.mp c
    have hx2 : (a ^^^ b) < 0 := by
      rw [hx]
      exact Or.inl ⟨c2, nb⟩
    have hf := in_fd c2 h1 hb h3
    rw [← hf] at hP
    clear hf hx
    by_cases e : a / b * b = a
    · rw [if_pos e] at hP
      simp only [q31_0, q31_1, q31_2, q31_3, q31_4, q31_5, q31_6, q31_7, q31_10, q31_11, q31_12, q31_13, q31_14, q31_17, q31_18, q31_19, q31_20, q31_21, q31_22, as_nil, as_i, as_r, Nat.reduceAdd, Nat.reduceLeDiff, z_eq0, z_eq1, z_or, z_em, Classical.not_not, not_false_eq_true, not_true_eq_false, true_and, and_true, false_and, and_false, and_self, true_implies, false_implies, implies_true, Option.toList_some, Option.toList_none, List.cons_append, List.nil_append, Nat.add_eq_zero_iff, a_nl_i, a_nl_r, a_nl_n, true_or, or_true, eq_self, b0, e]
      grind
    · rw [if_neg e] at hP
      simp only [q31_0, q31_1, q31_2, q31_3, q31_4, q31_5, q31_6, q31_7, q31_10, q31_11, q31_12, q31_13, q31_14, q31_17, q31_18, q31_19, q31_20, q31_21, q31_22, as_nil, as_i, as_r, Nat.reduceAdd, Nat.reduceLeDiff, z_eq0, z_eq1, z_or, z_em, Classical.not_not, not_false_eq_true, not_true_eq_false, true_and, and_true, false_and, and_false, and_self, true_implies, false_implies, implies_true, Option.toList_some, Option.toList_none, List.cons_append, List.nil_append, Nat.add_eq_zero_iff, a_nl_i, a_nl_r, a_nl_n, true_or, or_true, eq_self, b0, e]
      grind
theorem ce_habitOf (hT : cT C K L I R) (hm : cmP C I Y) (hY : mkP Y) {r : Int32} (hr : 0 ≤ r ∧ r ≤ 5) (hP : P (some (.int (hbY (cmY Y) (Y 0 17) r))) (n, t, K, L, I, R)) : a_does (d + 3) 28 [a_rf (C + 17), .int r] (n, t, K, L, I, R) P := by
  have hS := hT.s
  have gc := hT.g_asks
  rw [hm.2] at gc
  have n30 : (Y 0 17).toNatClampNeg ≤ 30 := cl_le gc.1 gc.2
  have hsm := hb_small (gb_cm hY) (r := r) n30
  have hl := le_habitOf_7 (d := d) (n := n) (t := t) (P := P) hT hm hr (V := fdO (cmY Y) hbS r (Y 0 17).toNatClampNeg 0 (0, 0)) (fun a u => by
    unfold hbY at hP
    generalize fdO (cmY Y) hbS r (Y 0 17).toNatClampNeg 0 (0, 0) = W at hP hsm ⊢
    simp only [q28_75, q28_76, q28_79, q28_80, q28_83, q28_84, q28_85, q28_88, as_nil, as_i, as_r, Nat.reduceAdd, Nat.reduceLeDiff, z_eq0, z_eq1, z_or, z_em, Classical.not_not, not_false_eq_true, not_true_eq_false, true_and, and_true, false_and, and_false, and_self, true_implies, false_implies, implies_true, Option.toList_some, Option.toList_none, List.cons_append, List.nil_append, Nat.add_eq_zero_iff, a_nl_i, a_nl_r, a_nl_n, true_or, or_true, eq_self, a_isRA_22, a_isRA_24, a_isRA_32, a_isA_20, ok_4, ok_5, ok_6, ok_7, ok_9, ok_20, ok_21, ok_30, ok_50, ok_180, ok_192, ok_200]
    by_cases c0 : W.2 = 0
    · rw [if_pos c0] at hP
      simp only [c0]
      clear hsm hm hT hS
      grind
    · rw [if_neg c0] at hP
      simp only [c0]
      try simp only [false_implies, true_implies, not_false_eq_true, true_and, and_true, implies_true]
      obtain ⟨s1, s2, s3, s4⟩ := hsm
      have w0 : (0 : Int32).toInt = 0 := rfl
      have w1 : (-100000 : Int32).toInt = -100000 := rfl
      have w2 : (1000 : Int32).toInt = 1000 := rfl
      have wn : W.2.toInt ≠ 0 := fun q => c0 (Int32.toInt_inj.mp (by rw [q]; rfl))
      refine ce_floorDiv (Int32.lt_iff_toInt_lt.mpr (by omega)) (Int32.le_iff_toInt_le.mpr (by omega)) (Int32.le_iff_toInt_le.mpr (by omega)) ?_
      simp only [q28_88, as_nil, as_i, as_r, Nat.reduceAdd, Nat.reduceLeDiff, z_eq0, z_eq1, z_or, z_em, Classical.not_not, not_false_eq_true, not_true_eq_false, true_and, and_true, false_and, and_false, and_self, true_implies, false_implies, implies_true, Option.toList_some, Option.toList_none, List.cons_append, List.nil_append, Nat.add_eq_zero_iff, a_nl_i, a_nl_r, a_nl_n, true_or, or_true, eq_self, a_isRA_22, a_isRA_24, a_isRA_32, a_isA_20, ok_4, ok_5, ok_6, ok_7, ok_9, ok_20, ok_21, ok_30, ok_50, ok_180, ok_192, ok_200]
      exact hP) 0 (by decide) 0 0 none (by decide) gc.1 (by rw [show (0 : Int32).toNatClampNeg = 0 from rfl, Nat.sub_zero])
  rw [a_enter1 (M := a_m28) rfl (a_cat_rf (a_cat_int a_cat_nil)) (show 2 ≤ 6 by decide)]
  show a_at _ (a_xm a_m28) 0 [some (a_rf (C + 17)), some (.int r), none, none, none, none] [] _ _
  repeat' first
    | with_reducible apply And.intro
    | with_reducible assumption
    | with_reducible intro _
    | with_reducible apply hl
    | simp only [q28_0, q28_1, q28_2, q28_3, q28_4, q28_5, as_nil, as_i, as_r, Nat.reduceAdd, Nat.reduceLeDiff, z_eq0, z_eq1, z_or, z_em, Classical.not_not, not_false_eq_true, not_true_eq_false, true_and, and_true, false_and, and_false, and_self, true_implies, false_implies, implies_true, Option.toList_some, Option.toList_none, List.cons_append, List.nil_append, Nat.add_eq_zero_iff, a_nl_i, a_nl_r, a_nl_n, true_or, or_true, eq_self, a_isRA_22, a_isRA_24, a_isRA_32, a_isA_20, ok_4, ok_5, ok_6, ok_7, ok_9, ok_20, ok_21, ok_30, ok_50, ok_180, ok_192, ok_200]
  all_goals grind [ui_ap]
theorem le_doubtOf_24 (hS : cS C K L R) (hm : cmP C I Y) {r a : Int32} (hr : 0 ≤ r ∧ r ≤ 5) (ha : 0 ≤ a ∧ a < 30) {V : Int32 × Int32} (hn : ∀ u v, a_at (d + 2) (a_xm a_m98) 81 [some (a_rf (C + 17)), some (.int r), some (.int (V.1)), some (.int (V.2)), some (.int a), u, v] [] (n, t, K, L, I, R) P) : ∀ o : Int32, o ≤ 6 → ∀ s q v, 0 ≤ o → fdI (cmY Y) dbS r a (6 - o.toNatClampNeg) o (s, q) = V → a_at (d + 2) (a_xm a_m98) 24 [some (a_rf (C + 17)), some (.int r), some (.int s), some (.int q), some (.int a), some (.int o), v] [] (n, t, K, L, I, R) P := by
  refine up_ind 6 (fun o hk ih => ?_)
  intro s q v h0 hV
  have hexit : ¬ o < 6 → a_at (d + 2) (a_xm a_m98) 81 [some (a_rf (C + 17)), some (.int r), some (.int s), some (.int q), some (.int a), some (.int o), v] [] (n, t, K, L, I, R) P := fun w => by
    have : o = 6 := by clear ih hn hV hm hS; grind
    subst this
    have hc := hn (some (.int 6)) v
    rw [← hV] at hc
    exact hc
  have hst : o < 6 → ∀ p v, (p = if ¬ o = r ∧ ¬ cmY Y r a = -9 ∧ ¬ cmY Y o a = -9 then dbS (s, q) (cmY Y r a - cmY Y o a) else (s, q)) → a_at (d + 2) (a_xm a_m98) 24 [some (a_rf (C + 17)), some (.int r), some (.int (p.1)), some (.int (p.2)), some (.int a), some (.int (o + 1)), v] [] (n, t, K, L, I, R) P := fun c p v hp => by
    have i3 : o.toNatClampNeg < 6 := show _ < (6 : Int32).toNatClampNeg from cl_lt h0 c
    have ei : (o + 1).toNatClampNeg = o.toNatClampNeg + 1 := cl_up h0 (by clear ih hn hV hm hp hS; grind)
    refine ih c p.1 p.2 v (by clear ih hn hV hm hp hS; grind) ?_
    rw [← hV, ei, show 6 - o.toNatClampNeg = (6 - (o.toNatClampNeg + 1)) + 1 by omega]
    conv => rhs; unfold fdI
    rw [← hp]
  have h31 : o < 6 → a_at (d + 2) (a_xm a_m98) 31 [some (a_rf (C + 17)), some (.int r), some (.int s), some (.int q), some (.int a), some (.int o), v] [] (n, t, K, L, I, R) P := fun c => by
    have ho : 0 ≤ o ∧ o ≤ 5 := by clear ih hn hV hm hst hS; grind
    have hst := hst c
    simp only [q98_31, q98_32, q98_33, q98_35, q98_37, k_17 hS, z_17, as_nil, as_i, as_r, Nat.reduceAdd, Nat.reduceLeDiff, z_eq0, z_eq1, z_or, z_em, Classical.not_not, not_false_eq_true, not_true_eq_false, true_and, and_true, false_and, and_false, and_self, true_implies, false_implies, implies_true, Option.toList_some, Option.toList_none, List.cons_append, List.nil_append, Nat.add_eq_zero_iff, a_nl_i, a_nl_r, a_nl_n, true_or, or_true, eq_self, a_isRA_22, a_isRA_24, a_isRA_32, a_isA_20, ok_4, ok_5, ok_6, ok_7, ok_9, ok_20, ok_21, ok_30, ok_50, ok_180, ok_192, ok_200]
    refine ce_areTwo hS hr ho ha hm (fun w => ?_) (fun w => ?_)
    · have hg := hst (s, q) v (by rw [if_neg w])
      simp only [q98_40, q98_75, q98_78, as_nil, as_i, as_r, Nat.reduceAdd, Nat.reduceLeDiff, z_eq0, z_eq1, z_or, z_em, Classical.not_not, not_false_eq_true, not_true_eq_false, true_and, and_true, false_and, and_false, and_self, true_implies, false_implies, implies_true, Option.toList_some, Option.toList_none, List.cons_append, List.nil_append, Nat.add_eq_zero_iff, a_nl_i, a_nl_r, a_nl_n, true_or, or_true, eq_self, a_isRA_22, a_isRA_24, a_isRA_32, a_isA_20, ok_4, ok_5, ok_6, ok_7, ok_9, ok_20, ok_21, ok_30, ok_50, ok_180, ok_192, ok_200]
      first
        | exact hg
        | exact ⟨fun _ => hg, fun z => absurd rfl z⟩
    · have hg := fun v => hst (dbS (s, q) (cmY Y r a - cmY Y o a)) v (by rw [if_pos w])
      unfold dbS at hg
      have n1 : ¬ (1 : Int32) = 0 := by decide
      simp only [q98_40, q98_43, q98_44, q98_45, q98_47, k_17 hS, z_17, as_nil, as_i, as_r, Nat.reduceAdd, Nat.reduceLeDiff, z_eq0, z_eq1, z_or, z_em, Classical.not_not, not_false_eq_true, not_true_eq_false, true_and, and_true, false_and, and_false, and_self, true_implies, false_implies, implies_true, Option.toList_some, Option.toList_none, List.cons_append, List.nil_append, Nat.add_eq_zero_iff, a_nl_i, a_nl_r, a_nl_n, true_or, or_true, eq_self, a_isRA_22, a_isRA_24, a_isRA_32, a_isA_20, ok_4, ok_5, ok_6, ok_7, ok_9, ok_20, ok_21, ok_30, ok_50, ok_180, ok_192, ok_200, n1]
      try simp only [true_and, and_true, true_implies, false_implies, implies_true, not_true_eq_false, not_false_eq_true]
      refine ce_markBy hS hr ha hm ?_
      simp only [q98_50, q98_51, q98_53, q98_55, k_17 hS, z_17, as_nil, as_i, as_r, Nat.reduceAdd, Nat.reduceLeDiff, z_eq0, z_eq1, z_or, z_em, Classical.not_not, not_false_eq_true, not_true_eq_false, true_and, and_true, false_and, and_false, and_self, true_implies, false_implies, implies_true, Option.toList_some, Option.toList_none, List.cons_append, List.nil_append, Nat.add_eq_zero_iff, a_nl_i, a_nl_r, a_nl_n, true_or, or_true, eq_self, a_isRA_22, a_isRA_24, a_isRA_32, a_isA_20, ok_4, ok_5, ok_6, ok_7, ok_9, ok_20, ok_21, ok_30, ok_50, ok_180, ok_192, ok_200]
      refine ce_markBy hS ho ha hm ?_
      have hg := hg (some (.int (cmY Y r a - cmY Y o a)))
      generalize cmY Y r a - cmY Y o a = D at hg ⊢
      dsimp only at hg
      clear hn ih hV hm hst
      repeat' first
        | with_reducible apply And.intro
        | with_reducible assumption
        | with_reducible intro _
        | simp only [q98_58, q98_59, q98_61, q98_62, q98_64, q98_67, q98_68, q98_69, q98_71, q98_74, q98_75, q98_78, sp_min, sp_max, as_nil, as_i, as_r, Nat.reduceAdd, Nat.reduceLeDiff, z_eq0, z_eq1, z_or, z_em, Classical.not_not, not_false_eq_true, not_true_eq_false, true_and, and_true, false_and, and_false, and_self, true_implies, false_implies, implies_true, Option.toList_some, Option.toList_none, List.cons_append, List.nil_append, Nat.add_eq_zero_iff, a_nl_i, a_nl_r, a_nl_n, true_or, or_true, eq_self, a_isRA_22, a_isRA_24, a_isRA_32, a_isA_20, ok_4, ok_5, ok_6, ok_7, ok_9, ok_20, ok_21, ok_30, ok_50, ok_180, ok_192, ok_200]
      all_goals (try clear hS);  grind [ui_ap]
  clear ih hn hV hst hm
  rw [q98_24]
  repeat' first
    | with_reducible apply And.intro
    | with_reducible assumption
    | with_reducible intro _
    | refine hexit ?_
    | refine h31 ?_
    | simp only [q98_26, q98_28, as_nil, as_i, as_r, Nat.reduceAdd, Nat.reduceLeDiff, z_eq0, z_eq1, z_or, z_em, Classical.not_not, not_false_eq_true, not_true_eq_false, true_and, and_true, false_and, and_false, and_self, true_implies, false_implies, implies_true, Option.toList_some, Option.toList_none, List.cons_append, List.nil_append, Nat.add_eq_zero_iff, a_nl_i, a_nl_r, a_nl_n, true_or, or_true, eq_self, a_isRA_22, a_isRA_24, a_isRA_32, a_isA_20, ok_4, ok_5, ok_6, ok_7, ok_9, ok_20, ok_21, ok_30, ok_50, ok_180, ok_192, ok_200]
  all_goals ((try clear hexit); (try clear h31); (try clear hS); grind [ui_ap])
theorem le_doubtOf_9 (hT : cT C K L I R) (hm : cmP C I Y) {r : Int32} (hr : 0 ≤ r ∧ r ≤ 5) {V : Int32 × Int32} (hn : ∀ a u v, a_at (d + 2) (a_xm a_m98) 87 [some (a_rf (C + 17)), some (.int r), some (.int (V.1)), some (.int (V.2)), some (.int a), u, v] [] (n, t, K, L, I, R) P) : ∀ a : Int32, a ≤ 30 → ∀ s q u v, 0 ≤ a → a ≤ Y 0 17 → fdO (cmY Y) dbS r ((Y 0 17).toNatClampNeg - a.toNatClampNeg) a (s, q) = V → a_at (d + 2) (a_xm a_m98) 9 [some (a_rf (C + 17)), some (.int r), some (.int s), some (.int q), some (.int a), u, v] [] (n, t, K, L, I, R) P := by
  have hS := hT.s
  have gc := hT.g_asks
  have e17 := hm.2
  rw [e17] at gc
  refine up_ind 30 (fun a ha ih => ?_)
  intro s q u v h0 h1 hV
  have hexit : ¬ a < Y 0 17 → a_at (d + 2) (a_xm a_m98) 87 [some (a_rf (C + 17)), some (.int r), some (.int s), some (.int q), some (.int a), u, v] [] (n, t, K, L, I, R) P := fun w => by
    have ea : a = Y 0 17 := by clear ih hn hV hm hT hS; grind
    have hc := hn a u v
    rw [ea, Nat.sub_self] at hV
    rw [← hV] at hc
    exact hc
  have hgo : a < Y 0 17 → a_at (d + 2) (a_xm a_m98) 24 [some (a_rf (C + 17)), some (.int r), some (.int s), some (.int q), some (.int a), some (.int 0), v] [] (n, t, K, L, I, R) P := fun c => by
    have i3 := cl_lt h0 c
    have a30 : a < 30 := by clear ih hn hV hm hexit hT hS; grind
    have ei : (a + 1).toNatClampNeg = a.toNatClampNeg + 1 := cl_up h0 (by clear ih hn hV hm hexit hT hS; grind)
    refine le_doubtOf_24 hS hm hr ⟨h0, a30⟩ (V := fdI (cmY Y) dbS r a 6 0 (s, q)) (fun u v => ?_) 0 (by decide) s q v (by decide) rfl
    simp only [q98_81, q98_84, as_nil, as_i, as_r, Nat.reduceAdd, Nat.reduceLeDiff, z_eq0, z_eq1, z_or, z_em, Classical.not_not, not_false_eq_true, not_true_eq_false, true_and, and_true, false_and, and_false, and_self, true_implies, false_implies, implies_true, Option.toList_some, Option.toList_none, List.cons_append, List.nil_append, Nat.add_eq_zero_iff, a_nl_i, a_nl_r, a_nl_n, true_or, or_true, eq_self, a_isRA_22, a_isRA_24, a_isRA_32, a_isA_20, ok_4, ok_5, ok_6, ok_7, ok_9, ok_20, ok_21, ok_30, ok_50, ok_180, ok_192, ok_200]
    refine ih a30 _ _ _ _ (by clear ih hn hV hm hexit hT hS; grind) (by clear ih hn hV hm hexit hT hS; grind) ?_
    rw [← hV, ei, show (Y 0 17).toNatClampNeg - a.toNatClampNeg = ((Y 0 17).toNatClampNeg - (a.toNatClampNeg + 1)) + 1 by omega]
    rfl
  clear ih hn hV hm
  rw [q98_9]
  repeat' first
    | with_reducible apply And.intro
    | with_reducible assumption
    | with_reducible intro _
    | refine hexit ?_
    | refine hgo ?_
    | simp only [q98_11, q98_12, q98_15, q98_18, q98_21, q98_22, k_17 hS, z_17, r_17_0 hS, k_14 hS, z_14, as_nil, as_i, as_r, Nat.reduceAdd, Nat.reduceLeDiff, z_eq0, z_eq1, z_or, z_em, Classical.not_not, not_false_eq_true, not_true_eq_false, true_and, and_true, false_and, and_false, and_self, true_implies, false_implies, implies_true, Option.toList_some, Option.toList_none, List.cons_append, List.nil_append, Nat.add_eq_zero_iff, a_nl_i, a_nl_r, a_nl_n, true_or, or_true, eq_self, a_isRA_22, a_isRA_24, a_isRA_32, a_isA_20, ok_4, ok_5, ok_6, ok_7, ok_9, ok_20, ok_21, ok_30, ok_50, ok_180, ok_192, ok_200, e17]
  all_goals ((try clear hexit); (try clear hgo); (try clear hT); (try clear hS); grind [ui_ap])
theorem ce_doubtOf (hT : cT C K L I R) (hm : cmP C I Y) (hY : mkP Y) {r : Int32} (hr : 0 ≤ r ∧ r ≤ 5) (hP : P (some (.int (dbY (cmY Y) (Y 0 17) r))) (n, t, K, L, I, R)) : a_does (d + 3) 98 [a_rf (C + 17), .int r] (n, t, K, L, I, R) P := by
  have hS := hT.s
  have gc := hT.g_asks
  rw [hm.2] at gc
  have hl := le_doubtOf_9 (d := d) (n := n) (t := t) (P := P) hT hm hr (V := fdO (cmY Y) dbS r (Y 0 17).toNatClampNeg 0 (101, -101)) (fun a u v => by
    have hsm := db_same (gb_cm hY) (r := r) (n := Y 0 17) (w := fdO (cmY Y) dbS r (Y 0 17).toNatClampNeg 0 (101, -101)) rfl
    generalize dbY (cmY Y) (Y 0 17) r = X at hP hsm
    generalize fdO (cmY Y) dbS r (Y 0 17).toNatClampNeg 0 (101, -101) = W at hsm ⊢
    simp only [q98_87, q98_88, q98_89, q98_90, q98_91, sp_max, as_nil, as_i, as_r, Nat.reduceAdd, Nat.reduceLeDiff, z_eq0, z_eq1, z_or, z_em, Classical.not_not, not_false_eq_true, not_true_eq_false, true_and, and_true, false_and, and_false, and_self, true_implies, false_implies, implies_true, Option.toList_some, Option.toList_none, List.cons_append, List.nil_append, Nat.add_eq_zero_iff, a_nl_i, a_nl_r, a_nl_n, true_or, or_true, eq_self, a_isRA_22, a_isRA_24, a_isRA_32, a_isA_20, ok_4, ok_5, ok_6, ok_7, ok_9, ok_20, ok_21, ok_30, ok_50, ok_180, ok_192, ok_200]
    refine ⟨fun q => ?_, fun q => ?_⟩
    · rw [hsm.1 q]
      simp only [q98_94, as_nil, as_i, as_r, Nat.reduceAdd, Nat.reduceLeDiff, z_eq0, z_eq1, z_or, z_em, Classical.not_not, not_false_eq_true, not_true_eq_false, true_and, and_true, false_and, and_false, and_self, true_implies, false_implies, implies_true, Option.toList_some, Option.toList_none, List.cons_append, List.nil_append, Nat.add_eq_zero_iff, a_nl_i, a_nl_r, a_nl_n, true_or, or_true, eq_self, a_isRA_22, a_isRA_24, a_isRA_32, a_isA_20, ok_4, ok_5, ok_6, ok_7, ok_9, ok_20, ok_21, ok_30, ok_50, ok_180, ok_192, ok_200]
      exact hP
    · rw [hsm.2 q]
      simp only [q98_94, as_nil, as_i, as_r, Nat.reduceAdd, Nat.reduceLeDiff, z_eq0, z_eq1, z_or, z_em, Classical.not_not, not_false_eq_true, not_true_eq_false, true_and, and_true, false_and, and_false, and_self, true_implies, false_implies, implies_true, Option.toList_some, Option.toList_none, List.cons_append, List.nil_append, Nat.add_eq_zero_iff, a_nl_i, a_nl_r, a_nl_n, true_or, or_true, eq_self, a_isRA_22, a_isRA_24, a_isRA_32, a_isA_20, ok_4, ok_5, ok_6, ok_7, ok_9, ok_20, ok_21, ok_30, ok_50, ok_180, ok_192, ok_200]
      exact hP) 0 (by decide) 101 (-101) none none (by decide) gc.1 (by rw [show (0 : Int32).toNatClampNeg = 0 from rfl, Nat.sub_zero])
  rw [a_enter1 (M := a_m98) rfl (a_cat_rf (a_cat_int a_cat_nil)) (show 2 ≤ 7 by decide)]
  show a_at _ (a_xm a_m98) 0 [some (a_rf (C + 17)), some (.int r), none, none, none, none, none] [] _ _
  repeat' first
    | with_reducible apply And.intro
    | with_reducible assumption
    | with_reducible intro _
    | with_reducible apply hl
    | simp only [q98_0, q98_2, q98_3, q98_5, q98_6, q98_7, as_nil, as_i, as_r, Nat.reduceAdd, Nat.reduceLeDiff, z_eq0, z_eq1, z_or, z_em, Classical.not_not, not_false_eq_true, not_true_eq_false, true_and, and_true, false_and, and_false, and_self, true_implies, false_implies, implies_true, Option.toList_some, Option.toList_none, List.cons_append, List.nil_append, Nat.add_eq_zero_iff, a_nl_i, a_nl_r, a_nl_n, true_or, or_true, eq_self, a_isRA_22, a_isRA_24, a_isRA_32, a_isA_20, ok_4, ok_5, ok_6, ok_7, ok_9, ok_20, ok_21, ok_30, ok_50, ok_180, ok_192, ok_200]
  all_goals grind [ui_ap]
theorem le_joinedMark_7 (hS : cS C K L R) (hm : cmP C I Y) {hb : Int32 → Int32} (hh : ∀ r : Int32, 0 ≤ r → r ≤ 5 → I (C + 21) r.toNatClampNeg = hb r) {a : Int32} (ha : 0 ≤ a ∧ a < 30) {V : Int32 × Int32} (hn : ∀ r, a_at (d + 1) (a_xm a_m33) 53 [some (a_rf (C + 17)), some (.int a), some (.int (V.1)), some (.int (V.2)), some (.int r)] [] (n, t, K, L, I, R) P) : ∀ r : Int32, r ≤ 6 → ∀ s q, 0 ≤ r → mfI (cmY Y) hb a (6 - r.toNatClampNeg) r (s, q) = V → a_at (d + 1) (a_xm a_m33) 7 [some (a_rf (C + 17)), some (.int a), some (.int s), some (.int q), some (.int r)] [] (n, t, K, L, I, R) P := by
  refine up_ind 6 (fun r hk ih => ?_)
  intro s q h0 hV
  have hexit : ¬ r < 6 → a_at (d + 1) (a_xm a_m33) 53 [some (a_rf (C + 17)), some (.int a), some (.int s), some (.int q), some (.int r)] [] (n, t, K, L, I, R) P := fun w => by
    have : r = 6 := by clear ih hn hV hm hS hh; grind
    subst this
    have hc := hn 6
    rw [← hV] at hc
    exact hc
  have hst : r < 6 → ∀ p, (p = if cmY Y r a = -9 then (s, q) else (s + (cmY Y r a - hb r), q + 1)) → a_at (d + 1) (a_xm a_m33) 7 [some (a_rf (C + 17)), some (.int a), some (.int (p.1)), some (.int (p.2)), some (.int (r + 1))] [] (n, t, K, L, I, R) P := fun c p hp => by
    have i3 : r.toNatClampNeg < 6 := show _ < (6 : Int32).toNatClampNeg from cl_lt h0 c
    have ei : (r + 1).toNatClampNeg = r.toNatClampNeg + 1 := cl_up h0 (by clear ih hn hV hm hp hS hh; grind)
    refine ih c p.1 p.2 (by clear ih hn hV hm hp hS hh; grind) ?_
    rw [← hV, ei, show 6 - r.toNatClampNeg = (6 - (r.toNatClampNeg + 1)) + 1 by omega]
    conv => rhs; unfold mfI
    rw [← hp]
  have h14 : r < 6 → a_at (d + 1) (a_xm a_m33) 14 [some (a_rf (C + 17)), some (.int a), some (.int s), some (.int q), some (.int r)] [] (n, t, K, L, I, R) P := fun c => by
    have hr : 0 ≤ r ∧ r ≤ 5 := by clear ih hn hV hm hst hS hh; grind
    have hst := hst c
    have hh := hh r hr.1 hr.2
    simp only [q33_14, q33_15, q33_17, q33_18, k_17 hS, z_17, as_nil, as_i, as_r, Nat.reduceAdd, Nat.reduceLeDiff, z_eq0, z_eq1, z_or, z_em, Classical.not_not, not_false_eq_true, not_true_eq_false, true_and, and_true, false_and, and_false, and_self, true_implies, false_implies, implies_true, Option.toList_some, Option.toList_none, List.cons_append, List.nil_append, Nat.add_eq_zero_iff, a_nl_i, a_nl_r, a_nl_n, true_or, or_true, eq_self, a_isRA_22, a_isRA_24, a_isRA_32, a_isA_20, ok_4, ok_5, ok_6, ok_7, ok_9, ok_20, ok_21, ok_30, ok_50, ok_180, ok_192, ok_200]
    refine ce_markBy hS hr ha hm ?_
    by_cases cc : cmY Y r a = -9
    · have hg := hst (s, q) (by rw [if_pos cc])
      simp only [q33_21, q33_23, q33_47, q33_50, as_nil, as_i, as_r, Nat.reduceAdd, Nat.reduceLeDiff, z_eq0, z_eq1, z_or, z_em, Classical.not_not, not_false_eq_true, not_true_eq_false, true_and, and_true, false_and, and_false, and_self, true_implies, false_implies, implies_true, Option.toList_some, Option.toList_none, List.cons_append, List.nil_append, Nat.add_eq_zero_iff, a_nl_i, a_nl_r, a_nl_n, true_or, or_true, eq_self, a_isRA_22, a_isRA_24, a_isRA_32, a_isA_20, ok_4, ok_5, ok_6, ok_7, ok_9, ok_20, ok_21, ok_30, ok_50, ok_180, ok_192, ok_200, cc]
      first
        | exact hg
        | exact ⟨fun _ => hg, fun z => absurd rfl z⟩
    · have hg := hst (s + (cmY Y r a - hb r), q + 1) (by rw [if_neg cc])
      simp only [q33_21, q33_23, q33_26, q33_27, q33_28, q33_30, q33_31, k_17 hS, z_17, as_nil, as_i, as_r, Nat.reduceAdd, Nat.reduceLeDiff, z_eq0, z_eq1, z_or, z_em, Classical.not_not, not_false_eq_true, not_true_eq_false, true_and, and_true, false_and, and_false, and_self, true_implies, false_implies, implies_true, Option.toList_some, Option.toList_none, List.cons_append, List.nil_append, Nat.add_eq_zero_iff, a_nl_i, a_nl_r, a_nl_n, true_or, or_true, eq_self, a_isRA_22, a_isRA_24, a_isRA_32, a_isA_20, ok_4, ok_5, ok_6, ok_7, ok_9, ok_20, ok_21, ok_30, ok_50, ok_180, ok_192, ok_200, cc]
      try simp only [true_and, and_true, true_implies, false_implies, implies_true, not_true_eq_false, not_false_eq_true]
      refine ce_markBy hS hr ha hm ?_
      rw [← hh] at hg
      clear hn ih hV hm hst hh
      repeat' first
        | with_reducible apply And.intro
        | with_reducible assumption
        | with_reducible intro _
        | with_reducible apply hg
        | simp only [q33_34, q33_35, q33_38, q33_40, q33_41, q33_42, q33_43, q33_44, q33_47, q33_50, k_17 hS, z_17, r_17_4 hS, k_21 hS, l_21 hS, z_21, as_nil, as_i, as_r, Nat.reduceAdd, Nat.reduceLeDiff, z_eq0, z_eq1, z_or, z_em, Classical.not_not, not_false_eq_true, not_true_eq_false, true_and, and_true, false_and, and_false, and_self, true_implies, false_implies, implies_true, Option.toList_some, Option.toList_none, List.cons_append, List.nil_append, Nat.add_eq_zero_iff, a_nl_i, a_nl_r, a_nl_n, true_or, or_true, eq_self, a_isRA_22, a_isRA_24, a_isRA_32, a_isA_20, ok_4, ok_5, ok_6, ok_7, ok_9, ok_20, ok_21, ok_30, ok_50, ok_180, ok_192, ok_200]
      all_goals grind [ui_ap]
  clear ih hn hV hst hm hh
  rw [q33_7]
  repeat' first
    | with_reducible apply And.intro
    | with_reducible assumption
    | with_reducible intro _
    | refine hexit ?_
    | refine h14 ?_
    | simp only [q33_9, q33_11, as_nil, as_i, as_r, Nat.reduceAdd, Nat.reduceLeDiff, z_eq0, z_eq1, z_or, z_em, Classical.not_not, not_false_eq_true, not_true_eq_false, true_and, and_true, false_and, and_false, and_self, true_implies, false_implies, implies_true, Option.toList_some, Option.toList_none, List.cons_append, List.nil_append, Nat.add_eq_zero_iff, a_nl_i, a_nl_r, a_nl_n, true_or, or_true, eq_self, a_isRA_22, a_isRA_24, a_isRA_32, a_isA_20, ok_4, ok_5, ok_6, ok_7, ok_9, ok_20, ok_21, ok_30, ok_50, ok_180, ok_192, ok_200]
  all_goals ((try clear hexit); (try clear h14); (try clear hS); grind [ui_ap])
theorem ce_joinedMark (hS : cS C K L R) (hm : cmP C I Y) {hb : Int32 → Int32} (hh : ∀ r : Int32, 0 ≤ r → r ≤ 5 → I (C + 21) r.toNatClampNeg = hb r) {a : Int32} (ha : 0 ≤ a ∧ a < 30) (hP : P (some (.int (mkY (cmY Y) hb a))) (n, t, K, L, I, R)) : a_does (d + 2) 33 [a_rf (C + 17), .int a] (n, t, K, L, I, R) P := by
  have hl := le_joinedMark_7 (d := d) (n := n) (t := t) (P := P) hS hm hh ha (V := mfI (cmY Y) hb a 6 0 (0, 0)) (fun r => by
    unfold mkY at hP
    generalize mfI (cmY Y) hb a 6 0 (0, 0) = W at hP ⊢
    clear hm hh
    by_cases c0 : W.2 = 0
    · rw [if_pos c0] at hP
      repeat' first
        | with_reducible apply And.intro
        | with_reducible assumption
        | with_reducible intro _
        | with_reducible apply hP
        | simp only [q33_53, q33_54, q33_57, q33_59, q33_62, q33_63, q33_65, q33_66, q33_67, q33_68, q33_71, q33_74, sp_min, sp_max, as_nil, as_i, as_r, Nat.reduceAdd, Nat.reduceLeDiff, z_eq0, z_eq1, z_or, z_em, Classical.not_not, not_false_eq_true, not_true_eq_false, true_and, and_true, false_and, and_false, and_self, true_implies, false_implies, implies_true, Option.toList_some, Option.toList_none, List.cons_append, List.nil_append, Nat.add_eq_zero_iff, a_nl_i, a_nl_r, a_nl_n, true_or, or_true, eq_self, a_isRA_22, a_isRA_24, a_isRA_32, a_isA_20, ok_4, ok_5, ok_6, ok_7, ok_9, ok_20, ok_21, ok_30, ok_50, ok_180, ok_192, ok_200, c0]
      all_goals grind [ui_ap]
    · rw [if_neg c0] at hP
      by_cases c1 : W.1 / W.2 < 0
      · rw [if_pos c1] at hP
        repeat' first
          | with_reducible apply And.intro
          | with_reducible assumption
          | with_reducible intro _
          | with_reducible apply hP
          | simp only [q33_53, q33_54, q33_57, q33_59, q33_62, q33_63, q33_65, q33_66, q33_67, q33_68, q33_71, q33_74, sp_min, sp_max, as_nil, as_i, as_r, Nat.reduceAdd, Nat.reduceLeDiff, z_eq0, z_eq1, z_or, z_em, Classical.not_not, not_false_eq_true, not_true_eq_false, true_and, and_true, false_and, and_false, and_self, true_implies, false_implies, implies_true, Option.toList_some, Option.toList_none, List.cons_append, List.nil_append, Nat.add_eq_zero_iff, a_nl_i, a_nl_r, a_nl_n, true_or, or_true, eq_self, a_isRA_22, a_isRA_24, a_isRA_32, a_isA_20, ok_4, ok_5, ok_6, ok_7, ok_9, ok_20, ok_21, ok_30, ok_50, ok_180, ok_192, ok_200, c0]
        all_goals grind [ui_ap]
      · rw [if_neg c1] at hP
        by_cases c2 : 100 < W.1 / W.2
        · rw [if_pos c2] at hP
          repeat' first
            | with_reducible apply And.intro
            | with_reducible assumption
            | with_reducible intro _
            | with_reducible apply hP
            | simp only [q33_53, q33_54, q33_57, q33_59, q33_62, q33_63, q33_65, q33_66, q33_67, q33_68, q33_71, q33_74, sp_min, sp_max, as_nil, as_i, as_r, Nat.reduceAdd, Nat.reduceLeDiff, z_eq0, z_eq1, z_or, z_em, Classical.not_not, not_false_eq_true, not_true_eq_false, true_and, and_true, false_and, and_false, and_self, true_implies, false_implies, implies_true, Option.toList_some, Option.toList_none, List.cons_append, List.nil_append, Nat.add_eq_zero_iff, a_nl_i, a_nl_r, a_nl_n, true_or, or_true, eq_self, a_isRA_22, a_isRA_24, a_isRA_32, a_isA_20, ok_4, ok_5, ok_6, ok_7, ok_9, ok_20, ok_21, ok_30, ok_50, ok_180, ok_192, ok_200, c0]
          all_goals grind [ui_ap]
        · rw [if_neg c2] at hP
          repeat' first
            | with_reducible apply And.intro
            | with_reducible assumption
            | with_reducible intro _
            | with_reducible apply hP
            | simp only [q33_53, q33_54, q33_57, q33_59, q33_62, q33_63, q33_65, q33_66, q33_67, q33_68, q33_71, q33_74, sp_min, sp_max, as_nil, as_i, as_r, Nat.reduceAdd, Nat.reduceLeDiff, z_eq0, z_eq1, z_or, z_em, Classical.not_not, not_false_eq_true, not_true_eq_false, true_and, and_true, false_and, and_false, and_self, true_implies, false_implies, implies_true, Option.toList_some, Option.toList_none, List.cons_append, List.nil_append, Nat.add_eq_zero_iff, a_nl_i, a_nl_r, a_nl_n, true_or, or_true, eq_self, a_isRA_22, a_isRA_24, a_isRA_32, a_isA_20, ok_4, ok_5, ok_6, ok_7, ok_9, ok_20, ok_21, ok_30, ok_50, ok_180, ok_192, ok_200, c0]
          all_goals grind [ui_ap]) 0 (by decide) 0 0 (by decide) rfl
  rw [a_enter1 (M := a_m33) rfl (a_cat_rf (a_cat_int a_cat_nil)) (show 2 ≤ 5 by decide)]
  show a_at _ (a_xm a_m33) 0 [some (a_rf (C + 17)), some (.int a), none, none, none] [] _ _
  repeat' first
    | with_reducible apply And.intro
    | with_reducible assumption
    | with_reducible intro _
    | with_reducible apply hl
    | simp only [q33_0, q33_1, q33_2, q33_3, q33_4, q33_5, as_nil, as_i, as_r, Nat.reduceAdd, Nat.reduceLeDiff, z_eq0, z_eq1, z_or, z_em, Classical.not_not, not_false_eq_true, not_true_eq_false, true_and, and_true, false_and, and_false, and_self, true_implies, false_implies, implies_true, Option.toList_some, Option.toList_none, List.cons_append, List.nil_append, Nat.add_eq_zero_iff, a_nl_i, a_nl_r, a_nl_n, true_or, or_true, eq_self, a_isRA_22, a_isRA_24, a_isRA_32, a_isA_20, ok_4, ok_5, ok_6, ok_7, ok_9, ok_20, ok_21, ok_30, ok_50, ok_180, ok_192, ok_200]
  all_goals grind [ui_ap]
end YD
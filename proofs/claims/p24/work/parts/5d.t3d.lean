/-! the class: habits, doubts, the joint mark -/
section YD
variable {d n t C : Nat} {K L : Nat → Nat} {I I0 J J0 J1 J2 : Nat → Nat → Int32} {R : Nat → Nat → Nat} {P : Option Value → AH → Prop}
variable {Y : Nat → Nat → Int32}
theorem ce_floorDiv {a b : Int32} {h : AH} (hb : 0 < b) (h3 : b ≤ 1000) (h1 : -100000 ≤ a) (hP : P (some (.int (if 0 ≤ a then a / b else -((b - 1 - a) / b)))) h) : a_does (d + 1) 31 [.int a, .int b] h P := by
  have hx := in_xor (a := a) (b := b)
  have nb : ¬ b < 0 := by clear hx hP; grind
  have b0 : ¬ b = 0 := by clear hx hP; grind
  rw [a_enter1 (M := a_m31) rfl (a_cat_int (a_cat_int a_cat_nil)) (show 2 ≤ 3 by decide)]
  show a_at _ (a_xm a_m31) 0 [some (.int a), some (.int b), none] [] _ _
  by_cases c : 0 ≤ a
  · rw [if_pos c] at hP
    have hx2 : ¬ (a ^^^ b) < 0 := by
      rw [hx]
      clear hx hP
      grind
    simp only [q31_0, q31_1, q31_2, q31_3, q31_4, q31_5, q31_6, q31_7, q31_10, q31_11, q31_12, q31_13, q31_14, q31_17, q31_18, q31_19, q31_20, q31_21, q31_22, as_nil, as_i, as_r, Nat.reduceAdd, Nat.reduceLeDiff, z_eq0, z_eq1, z_or, z_em, Classical.not_not, not_false_eq_true, not_true_eq_false, true_and, and_true, false_and, and_false, and_self, true_implies, false_implies, implies_true, Option.toList_some, Option.toList_none, List.cons_append, List.nil_append, Nat.add_eq_zero_iff, a_nl_i, a_nl_r, a_nl_n, true_or, or_true, eq_self, b0]
    clear hx
    grind
  · rw [if_neg c] at hP
    have c2 : a < 0 := Int32.not_le.mp c
    have hx2 : (a ^^^ b) < 0 := by
      rw [hx]
      exact Or.inl ⟨c2, nb⟩
    have hf := in_fd c2 h1 hb h3
    rw [← hf] at hP
    clear hf hx
    by_cases e : a / b * b = a
    · rw [if_pos e] at hP
      simp only [q31_0, q31_1, q31_2, q31_3, q31_4, q31_5, q31_6, q31_7, q31_10, q31_11, q31_12, q31_13, q31_14, q31_17, q31_18, q31_19, q31_20, q31_21, q31_22, as_nil, as_i, as_r, Nat.reduceAdd, Nat.reduceLeDiff, z_eq0, z_eq1, z_or, z_em, Classical.not_not, not_false_eq_true, not_true_eq_false, true_and, and_true, false_and, and_false, and_self, true_implies, false_implies, implies_true, Option.toList_some, Option.toList_none, List.cons_append, List.nil_append, Nat.add_eq_zero_iff, a_nl_i, a_nl_r, a_nl_n, true_or, or_true, eq_self, b0, e]
      grind
    · rw [if_neg e] at hP
      simp only [q31_0, q31_1, q31_2, q31_3, q31_4, q31_5, q31_6, q31_7, q31_10, q31_11, q31_12, q31_13, q31_14, q31_17, q31_18, q31_19, q31_20, q31_21, q31_22, as_nil, as_i, as_r, Nat.reduceAdd, Nat.reduceLeDiff, z_eq0, z_eq1, z_or, z_em, Classical.not_not, not_false_eq_true, not_true_eq_false, true_and, and_true, false_and, and_false, and_self, true_implies, false_implies, implies_true, Option.toList_some, Option.toList_none, List.cons_append, List.nil_append, Nat.add_eq_zero_iff, a_nl_i, a_nl_r, a_nl_n, true_or, or_true, eq_self, b0, e]
      grind
theorem ce_habitOf (hT : cT C K L I R) (hm : cmP C I Y) (hY : mkP Y) {r : Int32} (hr : 0 ≤ r ∧ r ≤ 5) (hP : P (some (.int (hbY (cmY Y) (Y 0 17) r))) (n, t, K, L, I, R)) : a_does (d + 3) 28 [a_rf (C + 17), .int r] (n, t, K, L, I, R) P := by
  have hS := hT.s
  have gc := hT.g_asks
  rw [hm.2] at gc
  have n30 : (Y 0 17).toNatClampNeg ≤ 30 := cl_le gc.1 gc.2
  have hsm := hb_small (gb_cm hY) (r := r) n30
  have hl := le_habitOf_7 (d := d) (n := n) (t := t) (P := P) hT hm hr (V := fdO (cmY Y) hbS r (Y 0 17).toNatClampNeg 0 (0, 0)) (fun a u => by
    unfold hbY at hP
    generalize fdO (cmY Y) hbS r (Y 0 17).toNatClampNeg 0 (0, 0) = W at hP hsm ⊢
    simp only [q28_75, q28_76, q28_79, q28_80, q28_83, q28_84, q28_85, q28_88, as_nil, as_i, as_r, Nat.reduceAdd, Nat.reduceLeDiff, z_eq0, z_eq1, z_or, z_em, Classical.not_not, not_false_eq_true, not_true_eq_false, true_and, and_true, false_and, and_false, and_self, true_implies, false_implies, implies_true, Option.toList_some, Option.toList_none, List.cons_append, List.nil_append, Nat.add_eq_zero_iff, a_nl_i, a_nl_r, a_nl_n, true_or, or_true, eq_self, a_isRA_22, a_isRA_24, a_isRA_32, a_isA_20, ok_4, ok_5, ok_6, ok_7, ok_9, ok_20, ok_21, ok_30, ok_50, ok_180, ok_192, ok_200]
    by_cases c0 : W.2 = 0
    · rw [if_pos c0] at hP
      simp only [c0]
      clear hsm hm hT hS
      grind
    · rw [if_neg c0] at hP
      simp only [c0]
      try simp only [false_implies, true_implies, not_false_eq_true, true_and, and_true, implies_true]
      obtain ⟨s1, s2, s3, s4⟩ := hsm
      have w0 : (0 : Int32).toInt = 0 := rfl
      have w1 : (-100000 : Int32).toInt = -100000 := rfl
      have w2 : (1000 : Int32).toInt = 1000 := rfl
      have wn : W.2.toInt ≠ 0 := fun q => c0 (Int32.toInt_inj.mp (by rw [q]; rfl))
      refine ce_floorDiv (Int32.lt_iff_toInt_lt.mpr (by omega)) (Int32.le_iff_toInt_le.mpr (by omega)) (Int32.le_iff_toInt_le.mpr (by omega)) ?_
      simp only [q28_88, as_nil, as_i, as_r, Nat.reduceAdd, Nat.reduceLeDiff, z_eq0, z_eq1, z_or, z_em, Classical.not_not, not_false_eq_true, not_true_eq_false, true_and, and_true, false_and, and_false, and_self, true_implies, false_implies, implies_true, Option.toList_some, Option.toList_none, List.cons_append, List.nil_append, Nat.add_eq_zero_iff, a_nl_i, a_nl_r, a_nl_n, true_or, or_true, eq_self, a_isRA_22, a_isRA_24, a_isRA_32, a_isA_20, ok_4, ok_5, ok_6, ok_7, ok_9, ok_20, ok_21, ok_30, ok_50, ok_180, ok_192, ok_200]
      exact hP) 0 (by decide) 0 0 none (by decide) gc.1 (by rw [show (0 : Int32).toNatClampNeg = 0 from rfl, Nat.sub_zero])
  rw [a_enter1 (M := a_m28) rfl (a_cat_rf (a_cat_int a_cat_nil)) (show 2 ≤ 6 by decide)]
  show a_at _ (a_xm a_m28) 0 [some (a_rf (C + 17)), some (.int r), none, none, none, none] [] _ _
  repeat' first
    | with_reducible apply And.intro
    | with_reducible assumption
    | with_reducible intro _
    | with_reducible apply hl
    | simp only [q28_0, q28_1, q28_2, q28_3, q28_4, q28_5, as_nil, as_i, as_r, Nat.reduceAdd, Nat.reduceLeDiff, z_eq0, z_eq1, z_or, z_em, Classical.not_not, not_false_eq_true, not_true_eq_false, true_and, and_true, false_and, and_false, and_self, true_implies, false_implies, implies_true, Option.toList_some, Option.toList_none, List.cons_append, List.nil_append, Nat.add_eq_zero_iff, a_nl_i, a_nl_r, a_nl_n, true_or, or_true, eq_self, a_isRA_22, a_isRA_24, a_isRA_32, a_isA_20, ok_4, ok_5, ok_6, ok_7, ok_9, ok_20, ok_21, ok_30, ok_50, ok_180, ok_192, ok_200]
  all_goals grind [ui_ap]
theorem le_joinedMark_7 (hS : cS C K L R) (hm : cmP C I Y) {hb : Int32 → Int32} (hh : ∀ r : Int32, 0 ≤ r → r ≤ 5 → I (C + 21) r.toNatClampNeg = hb r) {a : Int32} (ha : 0 ≤ a ∧ a < 30) {V : Int32 × Int32} (hn : ∀ r, a_at (d + 1) (a_xm a_m33) 53 [some (a_rf (C + 17)), some (.int a), some (.int (V.1)), some (.int (V.2)), some (.int r)] [] (n, t, K, L, I, R) P) : ∀ r : Int32, r ≤ 6 → ∀ s q, 0 ≤ r → mfI (cmY Y) hb a (6 - r.toNatClampNeg) r (s, q) = V → a_at (d + 1) (a_xm a_m33) 7 [some (a_rf (C + 17)), some (.int a), some (.int s), some (.int q), some (.int r)] [] (n, t, K, L, I, R) P := by
  refine up_ind 6 (fun r hk ih => ?_)
  intro s q h0 hV
  have hexit : ¬ r < 6 → a_at (d + 1) (a_xm a_m33) 53 [some (a_rf (C + 17)), some (.int a), some (.int s), some (.int q), some (.int r)] [] (n, t, K, L, I, R) P := fun w => by
    have : r = 6 := by clear ih hn hV hm hS hh; grind
    subst this
    have hc := hn 6
    rw [← hV] at hc
    exact hc
  have hst : r < 6 → ∀ p, (p = if cmY Y r a = -9 then (s, q) else (s + (cmY Y r a - hb r), q + 1)) → a_at (d + 1) (a_xm a_m33) 7 [some (a_rf (C + 17)), some (.int a), some (.int (p.1)), some (.int (p.2)), some (.int (r + 1))] [] (n, t, K, L, I, R) P := fun c p hp => by
    have i3 : r.toNatClampNeg < 6 := show _ < (6 : Int32).toNatClampNeg from cl_lt h0 c
    have ei : (r + 1).toNatClampNeg = r.toNatClampNeg + 1 := cl_up h0 (by clear ih hn hV hm hp hS hh; grind)
    refine ih c p.1 p.2 (by clear ih hn hV hm hp hS hh; grind) ?_
    rw [← hV, ei, show 6 - r.toNatClampNeg = (6 - (r.toNatClampNeg + 1)) + 1 by omega]
    conv => rhs; unfold mfI
    rw [← hp]
  have h14 : r < 6 → a_at (d + 1) (a_xm a_m33) 14 [some (a_rf (C + 17)), some (.int a), some (.int s), some (.int q), some (.int r)] [] (n, t, K, L, I, R) P := fun c => by
    have hr : 0 ≤ r ∧ r ≤ 5 := by clear ih hn hV hm hst hS hh; grind
    have hst := hst c
    have hh := hh r hr.1 hr.2
    simp only [q33_14, q33_15, q33_17, q33_18, k_17 hS, z_17, as_nil, as_i, as_r, Nat.reduceAdd, Nat.reduceLeDiff, z_eq0, z_eq1, z_or, z_em, Classical.not_not, not_false_eq_true, not_true_eq_false, true_and, and_true, false_and, and_false, and_self, true_implies, false_implies, implies_true, Option.toList_some, Option.toList_none, List.cons_append, List.nil_append, Nat.add_eq_zero_iff, a_nl_i, a_nl_r, a_nl_n, true_or, or_true, eq_self, a_isRA_22, a_isRA_24, a_isRA_32, a_isA_20, ok_4, ok_5, ok_6, ok_7, ok_9, ok_20, ok_21, ok_30, ok_50, ok_180, ok_192, ok_200]
    refine ce_markBy hS hr ha hm ?_
    by_cases cc : cmY Y r a = -9
    · have hg := hst (s, q) (by rw [if_pos cc])
      simp only [q33_21, q33_23, q33_47, q33_50, as_nil, as_i, as_r, Nat.reduceAdd, Nat.reduceLeDiff, z_eq0, z_eq1, z_or, z_em, Classical.not_not, not_false_eq_true, not_true_eq_false, true_and, and_true, false_and, and_false, and_self, true_implies, false_implies, implies_true, Option.toList_some, Option.toList_none, List.cons_append, List.nil_append, Nat.add_eq_zero_iff, a_nl_i, a_nl_r, a_nl_n, true_or, or_true, eq_self, a_isRA_22, a_isRA_24, a_isRA_32, a_isA_20, ok_4, ok_5, ok_6, ok_7, ok_9, ok_20, ok_21, ok_30, ok_50, ok_180, ok_192, ok_200, cc]
      first
        | exact hg
        | exact ⟨fun _ => hg, fun z => absurd rfl z⟩
    · have hg := hst (s + (cmY Y r a - hb r), q + 1) (by rw [if_neg cc])
      simp only [q33_21, q33_23, q33_26, q33_27, q33_28, q33_30, q33_31, k_17 hS, z_17, as_nil, as_i, as_r, Nat.reduceAdd, Nat.reduceLeDiff, z_eq0, z_eq1, z_or, z_em, Classical.not_not, not_false_eq_true, not_true_eq_false, true_and, and_true, false_and, and_false, and_self, true_implies, false_implies, implies_true, Option.toList_some, Option.toList_none, List.cons_append, List.nil_append, Nat.add_eq_zero_iff, a_nl_i, a_nl_r, a_nl_n, true_or, or_true, eq_self, a_isRA_22, a_isRA_24, a_isRA_32, a_isA_20, ok_4, ok_5, ok_6, ok_7, ok_9, ok_20, ok_21, ok_30, ok_50, ok_180, ok_192, ok_200, cc]
      try simp only [true_and, and_true, true_implies, false_implies, implies_true, not_true_eq_false, not_false_eq_true]
      refine ce_markBy hS hr ha hm ?_
      rw [← hh] at hg
      clear hn ih hV hm hst hh
      repeat' first
        | with_reducible apply And.intro
        | with_reducible assumption
        | with_reducible intro _
        | with_reducible apply hg
        | simp only [q33_34, q33_35, q33_38, q33_40, q33_41, q33_42, q33_43, q33_44, q33_47, q33_50, k_17 hS, z_17, r_17_4 hS, k_21 hS, l_21 hS, z_21, as_nil, as_i, as_r, Nat.reduceAdd, Nat.reduceLeDiff, z_eq0, z_eq1, z_or, z_em, Classical.not_not, not_false_eq_true, not_true_eq_false, true_and, and_true, false_and, and_false, and_self, true_implies, false_implies, implies_true, Option.toList_some, Option.toList_none, List.cons_append, List.nil_append, Nat.add_eq_zero_iff, a_nl_i, a_nl_r, a_nl_n, true_or, or_true, eq_self, a_isRA_22, a_isRA_24, a_isRA_32, a_isA_20, ok_4, ok_5, ok_6, ok_7, ok_9, ok_20, ok_21, ok_30, ok_50, ok_180, ok_192, ok_200]
      all_goals grind [ui_ap]
  clear ih hn hV hst hm hh
  rw [q33_7]
  repeat' first
    | with_reducible apply And.intro
    | with_reducible assumption
    | with_reducible intro _
    | refine hexit ?_
    | refine h14 ?_
    | simp only [q33_9, q33_11, as_nil, as_i, as_r, Nat.reduceAdd, Nat.reduceLeDiff, z_eq0, z_eq1, z_or, z_em, Classical.not_not, not_false_eq_true, not_true_eq_false, true_and, and_true, false_and, and_false, and_self, true_implies, false_implies, implies_true, Option.toList_some, Option.toList_none, List.cons_append, List.nil_append, Nat.add_eq_zero_iff, a_nl_i, a_nl_r, a_nl_n, true_or, or_true, eq_self, a_isRA_22, a_isRA_24, a_isRA_32, a_isA_20, ok_4, ok_5, ok_6, ok_7, ok_9, ok_20, ok_21, ok_30, ok_50, ok_180, ok_192, ok_200]
  all_goals ((try clear hexit); (try clear h14); (try clear hS); grind [ui_ap])
theorem ce_joinedMark (hS : cS C K L R) (hm : cmP C I Y) {hb : Int32 → Int32} (hh : ∀ r : Int32, 0 ≤ r → r ≤ 5 → I (C + 21) r.toNatClampNeg = hb r) {a : Int32} (ha : 0 ≤ a ∧ a < 30) (hP : P (some (.int (mkY (cmY Y) hb a))) (n, t, K, L, I, R)) : a_does (d + 2) 33 [a_rf (C + 17), .int a] (n, t, K, L, I, R) P := by
  have hl := le_joinedMark_7 (d := d) (n := n) (t := t) (P := P) hS hm hh ha (V := mfI (cmY Y) hb a 6 0 (0, 0)) (fun r => by
    unfold mkY at hP
    generalize mfI (cmY Y) hb a 6 0 (0, 0) = W at hP ⊢
    clear hm hh
    by_cases c0 : W.2 = 0
    · rw [if_pos c0] at hP
      repeat' first
        | with_reducible apply And.intro
        | with_reducible assumption
        | with_reducible intro _
        | with_reducible apply hP
        | simp only [q33_53, q33_54, q33_57, q33_59, q33_62, q33_63, q33_65, q33_66, q33_67, q33_68, q33_71, q33_74, sp_min, sp_max, as_nil, as_i, as_r, Nat.reduceAdd, Nat.reduceLeDiff, z_eq0, z_eq1, z_or, z_em, Classical.not_not, not_false_eq_true, not_true_eq_false, true_and, and_true, false_and, and_false, and_self, true_implies, false_implies, implies_true, Option.toList_some, Option.toList_none, List.cons_append, List.nil_append, Nat.add_eq_zero_iff, a_nl_i, a_nl_r, a_nl_n, true_or, or_true, eq_self, a_isRA_22, a_isRA_24, a_isRA_32, a_isA_20, ok_4, ok_5, ok_6, ok_7, ok_9, ok_20, ok_21, ok_30, ok_50, ok_180, ok_192, ok_200, c0]
      all_goals grind [ui_ap]
    · rw [if_neg c0] at hP
      by_cases c1 : W.1 / W.2 < 0
      · rw [if_pos c1] at hP
        repeat' first
          | with_reducible apply And.intro
          | with_reducible assumption
          | with_reducible intro _
          | with_reducible apply hP
          | simp only [q33_53, q33_54, q33_57, q33_59, q33_62, q33_63, q33_65, q33_66, q33_67, q33_68, q33_71, q33_74, sp_min, sp_max, as_nil, as_i, as_r, Nat.reduceAdd, Nat.reduceLeDiff, z_eq0, z_eq1, z_or, z_em, Classical.not_not, not_false_eq_true, not_true_eq_false, true_and, and_true, false_and, and_false, and_self, true_implies, false_implies, implies_true, Option.toList_some, Option.toList_none, List.cons_append, List.nil_append, Nat.add_eq_zero_iff, a_nl_i, a_nl_r, a_nl_n, true_or, or_true, eq_self, a_isRA_22, a_isRA_24, a_isRA_32, a_isA_20, ok_4, ok_5, ok_6, ok_7, ok_9, ok_20, ok_21, ok_30, ok_50, ok_180, ok_192, ok_200, c0]
        all_goals grind [ui_ap]
      · rw [if_neg c1] at hP
        by_cases c2 : 100 < W.1 / W.2
        · rw [if_pos c2] at hP
          repeat' first
            | with_reducible apply And.intro
            | with_reducible assumption
            | with_reducible intro _
            | with_reducible apply hP
            | simp only [q33_53, q33_54, q33_57, q33_59, q33_62, q33_63, q33_65, q33_66, q33_67, q33_68, q33_71, q33_74, sp_min, sp_max, as_nil, as_i, as_r, Nat.reduceAdd, Nat.reduceLeDiff, z_eq0, z_eq1, z_or, z_em, Classical.not_not, not_false_eq_true, not_true_eq_false, true_and, and_true, false_and, and_false, and_self, true_implies, false_implies, implies_true, Option.toList_some, Option.toList_none, List.cons_append, List.nil_append, Nat.add_eq_zero_iff, a_nl_i, a_nl_r, a_nl_n, true_or, or_true, eq_self, a_isRA_22, a_isRA_24, a_isRA_32, a_isA_20, ok_4, ok_5, ok_6, ok_7, ok_9, ok_20, ok_21, ok_30, ok_50, ok_180, ok_192, ok_200, c0]
          all_goals grind [ui_ap]
        · rw [if_neg c2] at hP
          repeat' first
            | with_reducible apply And.intro
            | with_reducible assumption
            | with_reducible intro _
            | with_reducible apply hP
            | simp only [q33_53, q33_54, q33_57, q33_59, q33_62, q33_63, q33_65, q33_66, q33_67, q33_68, q33_71, q33_74, sp_min, sp_max, as_nil, as_i, as_r, Nat.reduceAdd, Nat.reduceLeDiff, z_eq0, z_eq1, z_or, z_em, Classical.not_not, not_false_eq_true, not_true_eq_false, true_and, and_true, false_and, and_false, and_self, true_implies, false_implies, implies_true, Option.toList_some, Option.toList_none, List.cons_append, List.nil_append, Nat.add_eq_zero_iff, a_nl_i, a_nl_r, a_nl_n, true_or, or_true, eq_self, a_isRA_22, a_isRA_24, a_isRA_32, a_isA_20, ok_4, ok_5, ok_6, ok_7, ok_9, ok_20, ok_21, ok_30, ok_50, ok_180, ok_192, ok_200, c0]
          all_goals grind [ui_ap]) 0 (by decide) 0 0 (by decide) rfl
  rw [a_enter1 (M := a_m33) rfl (a_cat_rf (a_cat_int a_cat_nil)) (show 2 ≤ 5 by decide)]
  show a_at _ (a_xm a_m33) 0 [some (a_rf (C + 17)), some (.int a), none, none, none] [] _ _
  repeat' first
    | with_reducible apply And.intro
    | with_reducible assumption
    | with_reducible intro _
    | with_reducible apply hl
    | simp only [q33_0, q33_1, q33_2, q33_3, q33_4, q33_5, as_nil, as_i, as_r, Nat.reduceAdd, Nat.reduceLeDiff, z_eq0, z_eq1, z_or, z_em, Classical.not_not, not_false_eq_true, not_true_eq_false, true_and, and_true, false_and, and_false, and_self, true_implies, false_implies, implies_true, Option.toList_some, Option.toList_none, List.cons_append, List.nil_append, Nat.add_eq_zero_iff, a_nl_i, a_nl_r, a_nl_n, true_or, or_true, eq_self, a_isRA_22, a_isRA_24, a_isRA_32, a_isA_20, ok_4, ok_5, ok_6, ok_7, ok_9, ok_20, ok_21, ok_30, ok_50, ok_180, ok_192, ok_200]
  all_goals grind [ui_ap]
end YD

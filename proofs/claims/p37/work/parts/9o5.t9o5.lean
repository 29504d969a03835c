/-! what was had: had, lead, check, told -/
/-- who is known of a SHIFT on an hour, in a bench -/
def kwF (I : Nat → Nat → Int32) (R : Nat → Nat → Nat) (b : Nat) (s k : Int32) : Int32 := if I (R b 4) s.toNatClampNeg ≤ k then I (R b 2) s.toNatClampNeg else pqF (I (R b 5)) s k (I b 6).toNatClampNeg 0
/-- the first of some that is otherwise -/
def fwF (g f : Nat → Int32) : Nat → Nat → Int32
  | 0, _ => -9
  | m + 1, i => if g i = f i then fwF g f m (i + 1) else Int32.ofNat i
def ckW (Y : Nat → Nat → Int32) (hd : Int32 → Int32 → Int32 → Int32) (b a k : Int32) : Int32 := if ¬ ((0 ≤ b ∧ b < Y 0 6) ∧ (0 ≤ a ∧ a < 200) ∧ a + Y 0 79 ≤ 200) then -1 else if k < 0 then -4 else if Y 0 0 < k then -6 else fwF (fun j => hd b (a + Int32.ofNat j) k) (Y 52) (Y 0 79).toNatClampNeg 0
section HL0
variable {g f g' f' : Nat → Int32}
theorem fw_s {m i : Nat} : fwF g f (m + 1) i = if g i = f i then fwF g f m (i + 1) else Int32.ofNat i := rfl
theorem fw_cg : ∀ (m i : Nat), (∀ j, i ≤ j → j < i + m → g' j = g j ∧ f' j = f j) → fwF g' f' m i = fwF g f m i := by
  intro m
  induction m with
  | zero => intro i _; rfl
  | succ m ih =>
    intro i h
    rw [fw_s, fw_s, (h i (Nat.le_refl _) (by omega)).1, (h i (Nat.le_refl _) (by omega)).2, ih (i + 1) (fun j h1 h2 => h j (by omega) (by omega))]
end HL0
section HL1
variable {d n t C : Nat} {K L : Nat → Nat} {I I0 J J0 J1 J2 : Nat → Nat → Int32} {R : Nat → Nat → Nat} {P : Option Value → AH → Prop}
theorem lv_knownOn_19 {b : Nat} (hb : K b = 3) (hT : cT C K L I R) {s k V : Int32} (hP : P (some (.int V)) (n, t, K, L, I, R)) : ∀ i : Int32, i ≤ 16384 → ∀ u, 0 ≤ i → i ≤ I b 6 → pqF (I (R b 5)) s k ((I b 6).toNatClampNeg - i.toNatClampNeg) i.toNatClampNeg = V → a_at d (a_xm a_m161) 19 [some (a_rf b), some (.int s), some (.int k), some (.int i), u] [] (n, t, K, L, I, R) P := by
  have hS := hT.s
  obtain ⟨b1, ⟨w1, w2, w3⟩, ⟨s1, s2, s3⟩, ⟨h1, h2, h3⟩, ⟨p1, p2, p3⟩, q1⟩ := hT.g_bnc b hb
  have b0 : (b = 0) = False := eq_false (by omega)
  have w0 : (R b 2 = 0) = False := eq_false (by omega)
  have s0 : (R b 3 = 0) = False := eq_false (by omega)
  have h0 : (R b 4 = 0) = False := eq_false (by omega)
  have p0 : (R b 5 = 0) = False := eq_false (by omega)
  refine up_ind 16384 (fun i hk ih => ?_)
  intro u q0 q9 hV
  have k0 : ¬ I b 6 ≤ i → a_ok (i * 5) (L (R b 5)) := fun h => past_ok0 q0 (Int32.not_le.mp h) q1.2.1 q1.2.2
  have k1 : ¬ I b 6 ≤ i → ∀ e, 0 ≤ e ∧ e ≤ 4 → a_ok (i * 5 + e) (L (R b 5)) := fun h e he => past_ok q0 (Int32.not_le.mp h) q1.2.1 q1.2.2 he
  rw [q161_19]
  simp only [q161_20, q161_21, q161_24, as_nil, as_i, as_r, Nat.reduceAdd, Nat.reduceLeDiff, z_eq0, z_eq1, z_or, z_em, Classical.not_not, not_false_eq_true, not_true_eq_false, true_and, and_true, false_and, and_false, and_self, true_implies, false_implies, implies_true, Option.toList_some, Option.toList_none, List.cons_append, List.nil_append, Nat.add_eq_zero_iff, a_nl_i, a_nl_r, a_nl_n, true_or, or_true, eq_self, a_isRA_22, a_isRA_24, a_isRA_32, a_isA_20, ok_4, ok_5, ok_6, ok_7, ok_9, ok_20, ok_21, ok_30, ok_50, ok_180, ok_192, ok_200, hb, b0, w0, w2, w3, s0, s2, s3, h0, h2, h3, p0, p2]
  refine ⟨fun c1 => ?_, fun c1 => ?_⟩
  · simp only [q161_98, q161_100, as_nil, as_i, as_r, Nat.reduceAdd, Nat.reduceLeDiff, z_eq0, z_eq1, z_or, z_em, Classical.not_not, not_false_eq_true, not_true_eq_false, true_and, and_true, false_and, and_false, and_self, true_implies, false_implies, implies_true, Option.toList_some, Option.toList_none, List.cons_append, List.nil_append, Nat.add_eq_zero_iff, a_nl_i, a_nl_r, a_nl_n, true_or, or_true, eq_self, a_isRA_22, a_isRA_24, a_isRA_32, a_isA_20, ok_4, ok_5, ok_6, ok_7, ok_9, ok_20, ok_21, ok_30, ok_50, ok_180, ok_192, ok_200]
    rw [(lp_end q9 (fun w => absurd (Int32.lt_of_lt_of_le w c1) Int32.lt_irrefl)).1] at hV
    rw [show (-9 : Int32) = V from hV]
    exact hP
  · have k0 := k0 c1
    have k1 := k1 c1
    have m1 := k1 1 (by decide)
    have m2 := k1 2 (by decide)
    have m3 := k1 3 (by decide)
    have m4 := k1 4 (by decide)
    have c1' : i < I b 6 := Int32.not_le.mp c1
    have i16 : i < 16384 := Int32.lt_of_lt_of_le c1' q1.2.1
    obtain ⟨s1, s2, s3, s4⟩ := lp_st q0 c1'
    obtain ⟨x0, x⟩ := past5 q0 i16
    have x1 := x 1 (by decide) (by decide)
    have x2 := x 2 (by decide) (by decide)
    have x3 := x 3 (by decide) (by decide)
    have x4 := x 4 (by decide) (by decide)
    rw [show (1 : Int32).toNatClampNeg = 1 from rfl] at x1
    rw [show (2 : Int32).toNatClampNeg = 2 from rfl] at x2
    rw [show (3 : Int32).toNatClampNeg = 3 from rfl] at x3
    rw [show (4 : Int32).toNatClampNeg = 4 from rfl] at x4
    rw [s1, pq_s] at hV
    have i1 : i + 1 ≤ 16384 := Int32.le_trans s3 q1.2.1
    by_cases c : I (R b 5) (5 * i.toNatClampNeg + 1) ≤ s ∧ s ≤ I (R b 5) (5 * i.toNatClampNeg + 2) ∧ I (R b 5) (5 * i.toNatClampNeg + 3) ≤ k ∧ k < I (R b 5) (5 * i.toNatClampNeg + 4)
    · rw [if_pos c] at hV
      rw [← hV] at hP
      obtain ⟨a0, a1, a2, a3⟩ := c
      have n0 := Int32.not_lt.mpr a0
      have n1 := Int32.not_lt.mpr a1
      have n2 := Int32.not_lt.mpr a2
      have n3 := Int32.not_le.mpr a3
      ((try clear ih); (try clear hV); (try clear k1); (try clear x); (try clear s1); (try clear s2); (try clear s3); (try clear s4))
      simp only [q161_27, q161_28, q161_29, q161_30, q161_32, q161_33, q161_36, q161_38, q161_39, q161_40, q161_41, q161_42, q161_45, q161_46, q161_47, q161_50, q161_52, q161_53, q161_54, q161_55, q161_58, q161_59, q161_62, q161_64, q161_65, q161_66, q161_67, q161_68, q161_71, q161_72, q161_73, q161_76, q161_78, q161_79, q161_80, q161_81, q161_84, q161_85, q161_88, q161_90, q161_91, as_nil, as_i, as_r, Nat.reduceAdd, Nat.reduceLeDiff, z_eq0, z_eq1, z_or, z_em, Classical.not_not, not_false_eq_true, not_true_eq_false, true_and, and_true, false_and, and_false, and_self, true_implies, false_implies, implies_true, Option.toList_some, Option.toList_none, List.cons_append, List.nil_append, Nat.add_eq_zero_iff, a_nl_i, a_nl_r, a_nl_n, true_or, or_true, eq_self, a_isRA_22, a_isRA_24, a_isRA_32, a_isA_20, ok_4, ok_5, ok_6, ok_7, ok_9, ok_20, ok_21, ok_30, ok_50, ok_180, ok_192, ok_200, hb, b0, w0, w2, w3, s0, s2, s3, h0, h2, h3, p0, p2, x0, x1, x2, x3, x4, k0, m1, m2, m3, m4, a0, a1, a2, a3, n0, n1, n2, n3]
      try simp only [true_and, and_true, true_implies, false_implies, implies_true, not_true_eq_false, not_false_eq_true]
      first
        | exact hP
        | grind
    · rw [if_neg c, ← s4] at hV
      have hg := fun u => ih i16 u s2 s3 hV
      replace hg := hg (some (.int (i * 5)))
      ((try clear ih); (try clear hV); (try clear k1); (try clear x); (try clear s1); (try clear s2); (try clear s3); (try clear s4); (try clear hP))
      by_cases a0 : I (R b 5) (5 * i.toNatClampNeg + 1) ≤ s
      · have n0 : ¬ s < I (R b 5) (5 * i.toNatClampNeg + 1) := Int32.not_lt.mpr a0
        by_cases a1 : s ≤ I (R b 5) (5 * i.toNatClampNeg + 2)
        · have n1 : ¬ I (R b 5) (5 * i.toNatClampNeg + 2) < s := Int32.not_lt.mpr a1
          by_cases a2 : I (R b 5) (5 * i.toNatClampNeg + 3) ≤ k
          · have n2 : ¬ k < I (R b 5) (5 * i.toNatClampNeg + 3) := Int32.not_lt.mpr a2
            have a3 : ¬ k < I (R b 5) (5 * i.toNatClampNeg + 4) := fun q => c ⟨a0, a1, a2, q⟩
            have n3 : I (R b 5) (5 * i.toNatClampNeg + 4) ≤ k := Int32.not_lt.mp a3
            ((try clear c))
            simp only [q161_27, q161_28, q161_29, q161_30, q161_32, q161_33, q161_36, q161_38, q161_39, q161_40, q161_41, q161_42, q161_45, q161_46, q161_47, q161_50, q161_52, q161_53, q161_54, q161_55, q161_58, q161_59, q161_62, q161_64, q161_65, q161_66, q161_67, q161_68, q161_71, q161_72, q161_73, q161_76, q161_78, q161_79, q161_80, q161_81, q161_92, q161_95, as_nil, as_i, as_r, Nat.reduceAdd, Nat.reduceLeDiff, z_eq0, z_eq1, z_or, z_em, Classical.not_not, not_false_eq_true, not_true_eq_false, true_and, and_true, false_and, and_false, and_self, true_implies, false_implies, implies_true, Option.toList_some, Option.toList_none, List.cons_append, List.nil_append, Nat.add_eq_zero_iff, a_nl_i, a_nl_r, a_nl_n, true_or, or_true, eq_self, a_isRA_22, a_isRA_24, a_isRA_32, a_isA_20, ok_4, ok_5, ok_6, ok_7, ok_9, ok_20, ok_21, ok_30, ok_50, ok_180, ok_192, ok_200, hb, b0, w0, w2, w3, s0, s2, s3, h0, h2, h3, p0, p2, x0, x1, x2, x3, x4, k0, m1, m2, m3, m4, a0, n0, a1, n1, a2, n2, a3, n3]
            try simp only [true_and, and_true, true_implies, false_implies, implies_true, not_true_eq_false, not_false_eq_true]
            first
              | exact hg
              | grind
          · have n2 : k < I (R b 5) (5 * i.toNatClampNeg + 3) := Int32.not_le.mp a2
            ((try clear c))
            simp only [q161_27, q161_28, q161_29, q161_30, q161_32, q161_33, q161_36, q161_38, q161_39, q161_40, q161_41, q161_42, q161_45, q161_46, q161_47, q161_50, q161_52, q161_53, q161_54, q161_55, q161_58, q161_59, q161_62, q161_64, q161_65, q161_66, q161_67, q161_68, q161_71, q161_72, q161_73, q161_76, q161_78, q161_79, q161_80, q161_81, q161_92, q161_95, as_nil, as_i, as_r, Nat.reduceAdd, Nat.reduceLeDiff, z_eq0, z_eq1, z_or, z_em, Classical.not_not, not_false_eq_true, not_true_eq_false, true_and, and_true, false_and, and_false, and_self, true_implies, false_implies, implies_true, Option.toList_some, Option.toList_none, List.cons_append, List.nil_append, Nat.add_eq_zero_iff, a_nl_i, a_nl_r, a_nl_n, true_or, or_true, eq_self, a_isRA_22, a_isRA_24, a_isRA_32, a_isA_20, ok_4, ok_5, ok_6, ok_7, ok_9, ok_20, ok_21, ok_30, ok_50, ok_180, ok_192, ok_200, hb, b0, w0, w2, w3, s0, s2, s3, h0, h2, h3, p0, p2, x0, x1, x2, x3, x4, k0, m1, m2, m3, m4, a0, n0, a1, n1, a2, n2]
            try simp only [true_and, and_true, true_implies, false_implies, implies_true, not_true_eq_false, not_false_eq_true]
            first
              | exact hg
              | grind
        · have n1 : I (R b 5) (5 * i.toNatClampNeg + 2) < s := Int32.not_le.mp a1
          ((try clear c))
          simp only [q161_27, q161_28, q161_29, q161_30, q161_32, q161_33, q161_36, q161_38, q161_39, q161_40, q161_41, q161_42, q161_45, q161_46, q161_47, q161_50, q161_52, q161_53, q161_54, q161_55, q161_58, q161_59, q161_62, q161_64, q161_65, q161_66, q161_67, q161_68, q161_71, q161_72, q161_73, q161_76, q161_78, q161_79, q161_80, q161_81, q161_92, q161_95, as_nil, as_i, as_r, Nat.reduceAdd, Nat.reduceLeDiff, z_eq0, z_eq1, z_or, z_em, Classical.not_not, not_false_eq_true, not_true_eq_false, true_and, and_true, false_and, and_false, and_self, true_implies, false_implies, implies_true, Option.toList_some, Option.toList_none, List.cons_append, List.nil_append, Nat.add_eq_zero_iff, a_nl_i, a_nl_r, a_nl_n, true_or, or_true, eq_self, a_isRA_22, a_isRA_24, a_isRA_32, a_isA_20, ok_4, ok_5, ok_6, ok_7, ok_9, ok_20, ok_21, ok_30, ok_50, ok_180, ok_192, ok_200, hb, b0, w0, w2, w3, s0, s2, s3, h0, h2, h3, p0, p2, x0, x1, x2, x3, x4, k0, m1, m2, m3, m4, a0, n0, a1, n1]
          try simp only [true_and, and_true, true_implies, false_implies, implies_true, not_true_eq_false, not_false_eq_true]
          first
            | exact hg
            | grind
      · have n0 : s < I (R b 5) (5 * i.toNatClampNeg + 1) := Int32.not_le.mp a0
        ((try clear c))
        simp only [q161_27, q161_28, q161_29, q161_30, q161_32, q161_33, q161_36, q161_38, q161_39, q161_40, q161_41, q161_42, q161_45, q161_46, q161_47, q161_50, q161_52, q161_53, q161_54, q161_55, q161_58, q161_59, q161_62, q161_64, q161_65, q161_66, q161_67, q161_68, q161_71, q161_72, q161_73, q161_76, q161_78, q161_79, q161_80, q161_81, q161_92, q161_95, as_nil, as_i, as_r, Nat.reduceAdd, Nat.reduceLeDiff, z_eq0, z_eq1, z_or, z_em, Classical.not_not, not_false_eq_true, not_true_eq_false, true_and, and_true, false_and, and_false, and_self, true_implies, false_implies, implies_true, Option.toList_some, Option.toList_none, List.cons_append, List.nil_append, Nat.add_eq_zero_iff, a_nl_i, a_nl_r, a_nl_n, true_or, or_true, eq_self, a_isRA_22, a_isRA_24, a_isRA_32, a_isA_20, ok_4, ok_5, ok_6, ok_7, ok_9, ok_20, ok_21, ok_30, ok_50, ok_180, ok_192, ok_200, hb, b0, w0, w2, w3, s0, s2, s3, h0, h2, h3, p0, p2, x0, x1, x2, x3, x4, k0, m1, m2, m3, m4, a0, n0]
        try simp only [true_and, and_true, true_implies, false_implies, implies_true, not_true_eq_false, not_false_eq_true]
        first
          | exact hg
          | grind
theorem cv_knownOn {b : Nat} (hb : K b = 3) (hT : cT C K L I R) {s k : Int32} (hs : 0 ≤ s ∧ s < 200) (hP : P (some (.int (kwF I R b s k))) (n, t, K, L, I, R)) : a_does (d + 1) 161 [a_rf b, .int s, .int k] (n, t, K, L, I, R) P := by
  have hS := hT.s
  obtain ⟨b1, ⟨w1, w2, w3⟩, ⟨s1, s2, s3⟩, ⟨h1, h2, h3⟩, ⟨p1, p2, p3⟩, q1⟩ := hT.g_bnc b hb
  have b0 : (b = 0) = False := eq_false (by omega)
  have w0 : (R b 2 = 0) = False := eq_false (by omega)
  have s0 : (R b 3 = 0) = False := eq_false (by omega)
  have h0 : (R b 4 = 0) = False := eq_false (by omega)
  have p0 : (R b 5 = 0) = False := eq_false (by omega)
  unfold kwF at hP
  by_cases c : I (R b 4) s.toNatClampNeg ≤ k
  · rw [if_pos c] at hP
    have c' := Int32.not_lt.mpr c
    rw [a_enter1 (M := a_m161) rfl (a_cat_rf (a_cat_int (a_cat_int a_cat_nil))) (show 3 ≤ 5 by decide)]
    show a_at _ (a_xm a_m161) 0 [some (a_rf b), some (.int s), some (.int k), none, none] [] _ _
    simp only [q161_0, q161_1, q161_4, q161_5, q161_6, q161_7, q161_10, q161_11, q161_14, q161_15, q161_16, as_nil, as_i, as_r, Nat.reduceAdd, Nat.reduceLeDiff, z_eq0, z_eq1, z_or, z_em, Classical.not_not, not_false_eq_true, not_true_eq_false, true_and, and_true, false_and, and_false, and_self, true_implies, false_implies, implies_true, Option.toList_some, Option.toList_none, List.cons_append, List.nil_append, Nat.add_eq_zero_iff, a_nl_i, a_nl_r, a_nl_n, true_or, or_true, eq_self, a_isRA_22, a_isRA_24, a_isRA_32, a_isA_20, ok_4, ok_5, ok_6, ok_7, ok_9, ok_20, ok_21, ok_30, ok_50, ok_180, ok_192, ok_200, hb, b0, w0, w2, w3, s0, s2, s3, h0, h2, h3, p0, p2, c, c', hs]
    try simp only [true_and, and_true, true_implies, false_implies, implies_true, not_true_eq_false, not_false_eq_true]
    first
      | exact hP
      | grind
  · rw [if_neg c] at hP
    have c' := Int32.not_le.mp c
    have hl : ∀ u, a_at d (a_xm a_m161) 19 [some (a_rf b), some (.int s), some (.int k), some (.int 0), u] [] (n, t, K, L, I, R) P := fun u => lv_knownOn_19 hb hT hP 0 (by decide) u (by decide) q1.1 (by rw [lp_0]; rfl)
    ((try clear hP))
    rw [a_enter1 (M := a_m161) rfl (a_cat_rf (a_cat_int (a_cat_int a_cat_nil))) (show 3 ≤ 5 by decide)]
    show a_at _ (a_xm a_m161) 0 [some (a_rf b), some (.int s), some (.int k), none, none] [] _ _
    simp only [q161_0, q161_1, q161_4, q161_5, q161_6, q161_7, q161_17, q161_18, as_nil, as_i, as_r, Nat.reduceAdd, Nat.reduceLeDiff, z_eq0, z_eq1, z_or, z_em, Classical.not_not, not_false_eq_true, not_true_eq_false, true_and, and_true, false_and, and_false, and_self, true_implies, false_implies, implies_true, Option.toList_some, Option.toList_none, List.cons_append, List.nil_append, Nat.add_eq_zero_iff, a_nl_i, a_nl_r, a_nl_n, true_or, or_true, eq_self, a_isRA_22, a_isRA_24, a_isRA_32, a_isA_20, ok_4, ok_5, ok_6, ok_7, ok_9, ok_20, ok_21, ok_30, ok_50, ok_180, ok_192, ok_200, hb, b0, w0, w2, w3, s0, s2, s3, h0, h2, h3, p0, p2, c, c', hs]
    try simp only [true_and, and_true, true_implies, false_implies, implies_true, not_true_eq_false, not_false_eq_true]
    first
      | exact hl _
      | grind
theorem lv_firstWrong_3 (hT : cT C K L I R) {b : Nat} (hb : K b = 3) {a k V : Int32} (ha : 0 ≤ a) (hr : a + I C 10 ≤ 200) (hr2 : a < 200) (hP : P (some (.int V)) (n, t, K, L, I, R)) : ∀ i : Int32, i ≤ 21 → 0 ≤ i → i ≤ I C 10 → fwF (fun j => kwF I R b (a + Int32.ofNat j) k) (I (C + 43)) ((I C 10).toNatClampNeg - i.toNatClampNeg) i.toNatClampNeg = V → a_at (d + 1) (a_xm a_m165) 3 [some (a_rf C), some (a_rf b), some (.int a), some (.int k), some (.int i)] [] (n, t, K, L, I, R) P := by
  have hS := hT.s
  have g := hT.g_row
  have b0 : (b = 0) = False := eq_false (by have := (hT.g_bnc b hb).1; omega)
  refine up_ind 21 (fun i hk ih => ?_)
  intro q0 q9 hV
  rw [q165_3]
  simp only [q165_5, q165_6, q165_9, k_0 hS, z_C hS, as_nil, as_i, as_r, Nat.reduceAdd, Nat.reduceLeDiff, z_eq0, z_eq1, z_or, z_em, Classical.not_not, not_false_eq_true, not_true_eq_false, true_and, and_true, false_and, and_false, and_self, true_implies, false_implies, implies_true, Option.toList_some, Option.toList_none, List.cons_append, List.nil_append, Nat.add_eq_zero_iff, a_nl_i, a_nl_r, a_nl_n, true_or, or_true, eq_self, a_isRA_22, a_isRA_24, a_isRA_32, a_isA_20, ok_4, ok_5, ok_6, ok_7, ok_9, ok_20, ok_21, ok_30, ok_50, ok_180, ok_192, ok_200]
  refine ⟨fun c1 => ?_, fun c1 => ?_⟩
  · simp only [q165_40, q165_42, as_nil, as_i, as_r, Nat.reduceAdd, Nat.reduceLeDiff, z_eq0, z_eq1, z_or, z_em, Classical.not_not, not_false_eq_true, not_true_eq_false, true_and, and_true, false_and, and_false, and_self, true_implies, false_implies, implies_true, Option.toList_some, Option.toList_none, List.cons_append, List.nil_append, Nat.add_eq_zero_iff, a_nl_i, a_nl_r, a_nl_n, true_or, or_true, eq_self, a_isRA_22, a_isRA_24, a_isRA_32, a_isA_20, ok_4, ok_5, ok_6, ok_7, ok_9, ok_20, ok_21, ok_30, ok_50, ok_180, ok_192, ok_200]
    rw [(lp_end q9 (fun w => absurd (Int32.lt_of_lt_of_le w c1) Int32.lt_irrefl)).1] at hV
    rw [show (-9 : Int32) = V from hV]
    exact hP
  · have c1' : i < I C 10 := Int32.not_le.mp c1
    obtain ⟨s1, s2, s3, s4⟩ := lp_st q0 c1'
    have i21 : i < 21 := Int32.lt_of_lt_of_le c1' g.2
    have i21' : 0 ≤ i ∧ i < 21 := ⟨q0, i21⟩
    have hs : 0 ≤ a + i ∧ a + i < 200 := by
      ((try clear ih); (try clear hV); (try clear hP); (try clear s1); (try clear s2); (try clear s3); (try clear s4))
      constructor
      · grind
      · grind
    rw [s1, fw_s, ← on_cl q0] at hV
    simp only [q165_12, q165_13, q165_14, q165_16, q165_17, q165_18, k_0 hS, z_C hS, as_nil, as_i, as_r, Nat.reduceAdd, Nat.reduceLeDiff, z_eq0, z_eq1, z_or, z_em, Classical.not_not, not_false_eq_true, not_true_eq_false, true_and, and_true, false_and, and_false, and_self, true_implies, false_implies, implies_true, Option.toList_some, Option.toList_none, List.cons_append, List.nil_append, Nat.add_eq_zero_iff, a_nl_i, a_nl_r, a_nl_n, true_or, or_true, eq_self, a_isRA_22, a_isRA_24, a_isRA_32, a_isA_20, ok_4, ok_5, ok_6, ok_7, ok_9, ok_20, ok_21, ok_30, ok_50, ok_180, ok_192, ok_200, hb, b0]
    refine cv_knownOn hb hT hs ?_
    by_cases c2 : kwF I R b (a + i) k = I (C + 43) i.toNatClampNeg
    · rw [if_pos c2, ← s4] at hV
      have hg := ih i21 s2 s3 hV
      ((try clear ih); (try clear hV); (try clear hP); (try clear s1); (try clear s2); (try clear s3); (try clear s4))
      simp only [q165_21, q165_22, q165_25, q165_27, q165_28, q165_31, q165_33, q165_34, q165_37, k_0 hS, z_C hS, r_0_9 hS, k_43 hS, l_43 hS, z_43, as_nil, as_i, as_r, Nat.reduceAdd, Nat.reduceLeDiff, z_eq0, z_eq1, z_or, z_em, Classical.not_not, not_false_eq_true, not_true_eq_false, true_and, and_true, false_and, and_false, and_self, true_implies, false_implies, implies_true, Option.toList_some, Option.toList_none, List.cons_append, List.nil_append, Nat.add_eq_zero_iff, a_nl_i, a_nl_r, a_nl_n, true_or, or_true, eq_self, a_isRA_22, a_isRA_24, a_isRA_32, a_isA_20, ok_4, ok_5, ok_6, ok_7, ok_9, ok_20, ok_21, ok_30, ok_50, ok_180, ok_192, ok_200, hb, b0, i21', c2]
      try simp only [true_and, and_true, true_implies, false_implies, implies_true, not_true_eq_false, not_false_eq_true]
      first
        | exact hg
        | grind
    · rw [if_neg c2] at hV
      rw [← hV] at hP
      have c2' : ¬ I (C + 43) i.toNatClampNeg = kwF I R b (a + i) k := fun q => c2 q.symm
      ((try clear ih); (try clear hV); (try clear s1); (try clear s2); (try clear s3); (try clear s4))
      simp only [q165_21, q165_22, q165_25, q165_27, q165_28, q165_31, q165_33, k_0 hS, z_C hS, r_0_9 hS, k_43 hS, l_43 hS, z_43, as_nil, as_i, as_r, Nat.reduceAdd, Nat.reduceLeDiff, z_eq0, z_eq1, z_or, z_em, Classical.not_not, not_false_eq_true, not_true_eq_false, true_and, and_true, false_and, and_false, and_self, true_implies, false_implies, implies_true, Option.toList_some, Option.toList_none, List.cons_append, List.nil_append, Nat.add_eq_zero_iff, a_nl_i, a_nl_r, a_nl_n, true_or, or_true, eq_self, a_isRA_22, a_isRA_24, a_isRA_32, a_isA_20, ok_4, ok_5, ok_6, ok_7, ok_9, ok_20, ok_21, ok_30, ok_50, ok_180, ok_192, ok_200, hb, b0, i21', c2, c2']
      try simp only [true_and, and_true, true_implies, false_implies, implies_true, not_true_eq_false, not_false_eq_true]
      first
        | exact hP
        | grind
theorem cv_firstWrong (hT : cT C K L I R) {b : Nat} (hb : K b = 3) {a k : Int32} (ha : 0 ≤ a) (hr : a + I C 10 ≤ 200) (hr2 : a < 200) (hP : P (some (.int (fwF (fun j => kwF I R b (a + Int32.ofNat j) k) (I (C + 43)) (I C 10).toNatClampNeg 0))) (n, t, K, L, I, R)) : a_does (d + 2) 165 [a_rf C, a_rf b, .int a, .int k] (n, t, K, L, I, R) P := by
  have g := hT.g_row
  have hl := lv_firstWrong_3 (d := d) hT hb ha hr hr2 hP 0 (by decide) (by decide) g.1 (by rw [lp_0]; rfl)
  ((try clear hP))
  rw [a_enter1 (M := a_m165) rfl (a_cat_rf (a_cat_rf (a_cat_int (a_cat_int a_cat_nil)))) (show 4 ≤ 5 by decide)]
  show a_at _ (a_xm a_m165) 0 [some (a_rf C), some (a_rf b), some (.int a), some (.int k), none] [] _ _
  simp only [q165_0, q165_1, as_nil, as_i, as_r, Nat.reduceAdd, Nat.reduceLeDiff, z_eq0, z_eq1, z_or, z_em, Classical.not_not, not_false_eq_true, not_true_eq_false, true_and, and_true, false_and, and_false, and_self, true_implies, false_implies, implies_true, Option.toList_some, Option.toList_none, List.cons_append, List.nil_append, Nat.add_eq_zero_iff, a_nl_i, a_nl_r, a_nl_n, true_or, or_true, eq_self, a_isRA_22, a_isRA_24, a_isRA_32, a_isA_20, ok_4, ok_5, ok_6, ok_7, ok_9, ok_20, ok_21, ok_30, ok_50, ok_180, ok_192, ok_200]
  exact hl
end HL1
section HL2
variable {d n t C c : Nat} {K L : Nat → Nat} {I I0 J J0 J1 J2 : Nat → Nat → Int32} {R : Nat → Nat → Nat} {P : Option Value → AH → Prop}
variable {Y Z W : Nat → Nat → Int32}
theorem cv_check (hH : cH C c (n + 1) t K L I R) (hu : cuP C K L I R Y) {b a k : Int32} (hP : ∀ J, P (some (.int (ckW Y (hdC C I R) b a k))) (n + 1, t, K, L, J, R)) : a_does (d + 70) 164 [a_rf C, .int b, .int a, .int k] (n + 1, t, K, L, I, R) P := by
  have hT := hH.1
  have hS := hT.s
  have gA := hT.g_asksR
  have gB := hT.g_benchesR
  have gX := hT.g_textsR
  have hc := hu.1
  have h17 := hc.2.2.2.2.2.2.2.2.1
  have e4 : I (C + 14) 4 = Y 0 17 := hc.2.2.1.1
  have h6 := hc.2.2.2.2.2.2.2.2.2.1
  have e5 : I (C + 14) 5 = Y 0 6 := hc.2.1.1
  have e0 : I (C + 1) 6 = Y 0 0 := hc.1.1
  have e10 : I C 10 = Y 0 79 := hu.2.2.1.2.1.2.2.1
  have er : ∀ j, j < (Y 0 79).toNatClampNeg → I (C + 43) j = Y 52 j := hu.2.2.1.2.1.2.2.2
  have gr := hT.g_row
  unfold ckW at hP
  have hr0 : ¬ ((0 ≤ b ∧ b < Y 0 6) ∧ (0 ≤ a ∧ a < 200) ∧ a + Y 0 79 ≤ 200) → ∀ x y, a_does (d + 69) 10 [a_rf C, .int (-1)] (n + 1, t, K, L, I, R) (fun r h' => a_at (d + 69) (a_xm a_m164) 39 [some (a_rf C), some (.int b), some (.int a), some (.int k), x, y] (r.toList ++ []) h' P) := fun q x y => by
    rw [if_pos q] at hP
    refine cr_refuse (d := d + 68) hH (fun J _ => ?_)
    have hp := hP J
    ((try clear hP); (try clear hc); (try clear hu))
    simp only [q164_39, as_nil, as_i, as_r, Nat.reduceAdd, Nat.reduceLeDiff, z_eq0, z_eq1, z_or, z_em, Classical.not_not, not_false_eq_true, not_true_eq_false, true_and, and_true, false_and, and_false, and_self, true_implies, false_implies, implies_true, Option.toList_some, Option.toList_none, List.cons_append, List.nil_append, Nat.add_eq_zero_iff, a_nl_i, a_nl_r, a_nl_n, true_or, or_true, eq_self, a_isRA_22, a_isRA_24, a_isRA_32, a_isA_20, ok_4, ok_5, ok_6, ok_7, ok_9, ok_20, ok_21, ok_30, ok_50, ok_180, ok_192, ok_200]
    exact hp
  by_cases c2 : 0 ≤ b ∧ b < Y 0 6
  · have hbc : 0 ≤ b ∧ b < I (C + 14) 5 ∧ b < 6 := ⟨c2.1, by rw [e5]; exact c2.2, Int32.lt_of_lt_of_le c2.2 h6.2⟩
    obtain ⟨kb, kb0, -⟩ := hc.2.1.2.2.1 b c2.1 c2.2
    have b0 : (R (C + 16) b.toNatClampNeg = 0) = False := eq_false kb0
    by_cases c3 : 0 ≤ a ∧ a < 200
    · by_cases c6 : a + Y 0 79 ≤ 200
      · have c6' : ¬ 200 < a + Y 0 79 := Int32.not_lt.mpr c6
        rw [if_neg (fun q => q ⟨c2, c3, c6⟩)] at hP
        ((try clear hr0))
        by_cases c4 : k < 0
        · have c4' : ¬ 0 ≤ k := Int32.not_le.mpr c4
          rw [if_pos c4] at hP
          have hr : ∀ y, a_does (d + 69) 10 [a_rf C, .int (-4)] (n + 1, t, K, L, I, R) (fun r h' => a_at (d + 69) (a_xm a_m164) 50 [some (a_rf C), some (.int b), some (.int a), some (.int k), some (a_rf (R (C + 16) b.toNatClampNeg)), y] (r.toList ++ []) h' P) := fun y => by
            refine cr_refuse (d := d + 68) hH (fun J _ => ?_)
            have hp := hP J
            ((try clear hP); (try clear hc); (try clear hu); (try clear er))
            simp only [q164_50, as_nil, as_i, as_r, Nat.reduceAdd, Nat.reduceLeDiff, z_eq0, z_eq1, z_or, z_em, Classical.not_not, not_false_eq_true, not_true_eq_false, true_and, and_true, false_and, and_false, and_self, true_implies, false_implies, implies_true, Option.toList_some, Option.toList_none, List.cons_append, List.nil_append, Nat.add_eq_zero_iff, a_nl_i, a_nl_r, a_nl_n, true_or, or_true, eq_self, a_isRA_22, a_isRA_24, a_isRA_32, a_isA_20, ok_4, ok_5, ok_6, ok_7, ok_9, ok_20, ok_21, ok_30, ok_50, ok_180, ok_192, ok_200]
            exact hp
          ((try clear hP); (try clear hc); (try clear hu); (try clear er))
          rw [a_enter1 (M := a_m164) rfl (a_cat_rf (a_cat_int (a_cat_int (a_cat_int a_cat_nil)))) (show 4 ≤ 6 by decide)]
          show a_at _ (a_xm a_m164) 0 [some (a_rf C), some (.int b), some (.int a), some (.int k), none, none] [] _ _
          simp only [q164_0, q164_1, q164_4, q164_5, q164_8, q164_10, q164_12, q164_15, q164_16, q164_19, q164_22, q164_23, q164_24, q164_27, q164_28, q164_31, q164_40, q164_41, q164_44, q164_45, q164_47, k_0 hS, z_C hS, r_0_4 hS, k_14 hS, z_14, sp_benchAt hS gB, sp_isShiftC, as_nil, as_i, as_r, Nat.reduceAdd, Nat.reduceLeDiff, z_eq0, z_eq1, z_or, z_em, Classical.not_not, not_false_eq_true, not_true_eq_false, true_and, and_true, false_and, and_false, and_self, true_implies, false_implies, implies_true, Option.toList_some, Option.toList_none, List.cons_append, List.nil_append, Nat.add_eq_zero_iff, a_nl_i, a_nl_r, a_nl_n, true_or, or_true, eq_self, a_isRA_22, a_isRA_24, a_isRA_32, a_isA_20, ok_4, ok_5, ok_6, ok_7, ok_9, ok_20, ok_21, ok_30, ok_50, ok_180, ok_192, ok_200, hbc, c3, b0, kb, e10, c6, c6', c4, c4']
          try simp only [true_and, and_true, true_implies, false_implies, implies_true, not_true_eq_false, not_false_eq_true]
          first
            | exact hr _
            | grind
        · have c4' : 0 ≤ k := Int32.not_lt.mp c4
          rw [if_neg c4] at hP
          by_cases c5 : Y 0 0 < k
          · have c5' : ¬ k ≤ Y 0 0 := Int32.not_le.mpr c5
            rw [if_pos c5] at hP
            have hr : ∀ y, a_does (d + 69) 10 [a_rf C, .int (-6)] (n + 1, t, K, L, I, R) (fun r h' => a_at (d + 69) (a_xm a_m164) 68 [some (a_rf C), some (.int b), some (.int a), some (.int k), some (a_rf (R (C + 16) b.toNatClampNeg)), y] (r.toList ++ []) h' P) := fun y => by
              refine cr_refuse (d := d + 68) hH (fun J _ => ?_)
              have hp := hP J
              ((try clear hP); (try clear hc); (try clear hu); (try clear er))
              simp only [q164_68, as_nil, as_i, as_r, Nat.reduceAdd, Nat.reduceLeDiff, z_eq0, z_eq1, z_or, z_em, Classical.not_not, not_false_eq_true, not_true_eq_false, true_and, and_true, false_and, and_false, and_self, true_implies, false_implies, implies_true, Option.toList_some, Option.toList_none, List.cons_append, List.nil_append, Nat.add_eq_zero_iff, a_nl_i, a_nl_r, a_nl_n, true_or, or_true, eq_self, a_isRA_22, a_isRA_24, a_isRA_32, a_isA_20, ok_4, ok_5, ok_6, ok_7, ok_9, ok_20, ok_21, ok_30, ok_50, ok_180, ok_192, ok_200]
              exact hp
            ((try clear hP); (try clear hc); (try clear hu); (try clear er))
            rw [a_enter1 (M := a_m164) rfl (a_cat_rf (a_cat_int (a_cat_int (a_cat_int a_cat_nil)))) (show 4 ≤ 6 by decide)]
            show a_at _ (a_xm a_m164) 0 [some (a_rf C), some (.int b), some (.int a), some (.int k), none, none] [] _ _
            simp only [q164_0, q164_1, q164_4, q164_5, q164_8, q164_10, q164_12, q164_15, q164_16, q164_19, q164_22, q164_23, q164_24, q164_27, q164_28, q164_31, q164_40, q164_41, q164_51, q164_52, q164_53, q164_56, q164_59, q164_62, q164_63, q164_65, k_0 hS, z_C hS, r_0_4 hS, k_14 hS, z_14, r_0_0 hS, k_1 hS, z_1, sp_benchAt hS gB, sp_isShiftC, as_nil, as_i, as_r, Nat.reduceAdd, Nat.reduceLeDiff, z_eq0, z_eq1, z_or, z_em, Classical.not_not, not_false_eq_true, not_true_eq_false, true_and, and_true, false_and, and_false, and_self, true_implies, false_implies, implies_true, Option.toList_some, Option.toList_none, List.cons_append, List.nil_append, Nat.add_eq_zero_iff, a_nl_i, a_nl_r, a_nl_n, true_or, or_true, eq_self, a_isRA_22, a_isRA_24, a_isRA_32, a_isA_20, ok_4, ok_5, ok_6, ok_7, ok_9, ok_20, ok_21, ok_30, ok_50, ok_180, ok_192, ok_200, hbc, c3, b0, kb, e10, c6, c6', c4, c4', e0, c5, c5']
            try simp only [true_and, and_true, true_implies, false_implies, implies_true, not_true_eq_false, not_false_eq_true]
            first
              | exact hr _
              | grind
          · have c5' : k ≤ Y 0 0 := Int32.not_lt.mp c5
            rw [if_neg c5] at hP
            have hV : fwF (fun j => kwF I R (R (C + 16) b.toNatClampNeg) (a + Int32.ofNat j) k) (I (C + 43)) (I C 10).toNatClampNeg 0 = fwF (fun j => hdC C I R b (a + Int32.ofNat j) k) (Y 52) (Y 0 79).toNatClampNeg 0 := by
              rw [e10]
              exact fw_cg _ _ (fun j _ hj => ⟨rfl, er j (by omega)⟩)
            have hk : ∀ u, a_at (d + 69) (a_xm a_m164) 69 [some (a_rf C), some (.int b), some (.int a), some (.int k), some (a_rf (R (C + 16) b.toNatClampNeg)), u] [] (n + 1, t, K, L, I, R) P := fun u => by
              simp only [q164_69, q164_70, q164_72, q164_73, q164_74, k_0 hS, z_C hS, as_nil, as_i, as_r, Nat.reduceAdd, Nat.reduceLeDiff, z_eq0, z_eq1, z_or, z_em, Classical.not_not, not_false_eq_true, not_true_eq_false, true_and, and_true, false_and, and_false, and_self, true_implies, false_implies, implies_true, Option.toList_some, Option.toList_none, List.cons_append, List.nil_append, Nat.add_eq_zero_iff, a_nl_i, a_nl_r, a_nl_n, true_or, or_true, eq_self, a_isRA_22, a_isRA_24, a_isRA_32, a_isA_20, ok_4, ok_5, ok_6, ok_7, ok_9, ok_20, ok_21, ok_30, ok_50, ok_180, ok_192, ok_200, kb, b0]
              refine cv_firstWrong hT kb c3.1 (by rw [e10]; exact c6) c3.2 ?_
              rw [hV]
              have hp := hP (a_ui I C 10 0)
              ((try clear hP); (try clear hc); (try clear hu); (try clear er); (try clear hV))
              simp only [q164_77, q164_79, q164_80, q164_81, q164_84, q164_86, k_0 hS, z_C hS, as_nil, as_i, as_r, Nat.reduceAdd, Nat.reduceLeDiff, z_eq0, z_eq1, z_or, z_em, Classical.not_not, not_false_eq_true, not_true_eq_false, true_and, and_true, false_and, and_false, and_self, true_implies, false_implies, implies_true, Option.toList_some, Option.toList_none, List.cons_append, List.nil_append, Nat.add_eq_zero_iff, a_nl_i, a_nl_r, a_nl_n, true_or, or_true, eq_self, a_isRA_22, a_isRA_24, a_isRA_32, a_isA_20, ok_4, ok_5, ok_6, ok_7, ok_9, ok_20, ok_21, ok_30, ok_50, ok_180, ok_192, ok_200]
              exact hp
            ((try clear hP); (try clear hc); (try clear hu); (try clear er); (try clear hV))
            rw [a_enter1 (M := a_m164) rfl (a_cat_rf (a_cat_int (a_cat_int (a_cat_int a_cat_nil)))) (show 4 ≤ 6 by decide)]
            show a_at _ (a_xm a_m164) 0 [some (a_rf C), some (.int b), some (.int a), some (.int k), none, none] [] _ _
            simp only [q164_0, q164_1, q164_4, q164_5, q164_8, q164_10, q164_12, q164_15, q164_16, q164_19, q164_22, q164_23, q164_24, q164_27, q164_28, q164_31, q164_40, q164_41, q164_51, q164_52, q164_53, q164_56, q164_59, q164_62, k_0 hS, z_C hS, r_0_4 hS, k_14 hS, z_14, r_0_0 hS, k_1 hS, z_1, sp_benchAt hS gB, sp_isShiftC, as_nil, as_i, as_r, Nat.reduceAdd, Nat.reduceLeDiff, z_eq0, z_eq1, z_or, z_em, Classical.not_not, not_false_eq_true, not_true_eq_false, true_and, and_true, false_and, and_false, and_self, true_implies, false_implies, implies_true, Option.toList_some, Option.toList_none, List.cons_append, List.nil_append, Nat.add_eq_zero_iff, a_nl_i, a_nl_r, a_nl_n, true_or, or_true, eq_self, a_isRA_22, a_isRA_24, a_isRA_32, a_isA_20, ok_4, ok_5, ok_6, ok_7, ok_9, ok_20, ok_21, ok_30, ok_50, ok_180, ok_192, ok_200, hbc, c3, b0, kb, e10, c6, c6', c4, c4', e0, c5, c5']
            try simp only [true_and, and_true, true_implies, false_implies, implies_true, not_true_eq_false, not_false_eq_true]
            first
              | exact hk _
              | grind
      · have hr := hr0 (fun q => c6 q.2.2)
        have c6' : 200 < a + Y 0 79 := Int32.not_le.mp c6
        ((try clear hP); (try clear hc); (try clear hu); (try clear er))
        rw [a_enter1 (M := a_m164) rfl (a_cat_rf (a_cat_int (a_cat_int (a_cat_int a_cat_nil)))) (show 4 ≤ 6 by decide)]
        show a_at _ (a_xm a_m164) 0 [some (a_rf C), some (.int b), some (.int a), some (.int k), none, none] [] _ _
        simp only [q164_0, q164_1, q164_4, q164_5, q164_8, q164_10, q164_12, q164_15, q164_16, q164_19, q164_22, q164_23, q164_24, q164_27, q164_28, q164_31, q164_34, q164_35, q164_36, k_0 hS, z_C hS, r_0_4 hS, k_14 hS, z_14, sp_benchAt hS gB, sp_isShiftC, as_nil, as_i, as_r, Nat.reduceAdd, Nat.reduceLeDiff, z_eq0, z_eq1, z_or, z_em, Classical.not_not, not_false_eq_true, not_true_eq_false, true_and, and_true, false_and, and_false, and_self, true_implies, false_implies, implies_true, Option.toList_some, Option.toList_none, List.cons_append, List.nil_append, Nat.add_eq_zero_iff, a_nl_i, a_nl_r, a_nl_n, true_or, or_true, eq_self, a_isRA_22, a_isRA_24, a_isRA_32, a_isA_20, ok_4, ok_5, ok_6, ok_7, ok_9, ok_20, ok_21, ok_30, ok_50, ok_180, ok_192, ok_200, hbc, c3, b0, kb, e10, c6, c6']
        try simp only [true_and, and_true, true_implies, false_implies, implies_true, not_true_eq_false, not_false_eq_true]
        first
          | exact hr _ _
          | grind
    · have hr := hr0 (fun q => c3 q.2.1)
      ((try clear hP); (try clear hc); (try clear hu); (try clear er))
      rw [a_enter1 (M := a_m164) rfl (a_cat_rf (a_cat_int (a_cat_int (a_cat_int a_cat_nil)))) (show 4 ≤ 6 by decide)]
      show a_at _ (a_xm a_m164) 0 [some (a_rf C), some (.int b), some (.int a), some (.int k), none, none] [] _ _
      simp only [q164_0, q164_1, q164_4, q164_5, q164_8, q164_10, q164_12, q164_15, q164_16, q164_19, q164_22, q164_23, q164_24, q164_27, q164_28, q164_31, q164_34, q164_35, q164_36, k_0 hS, z_C hS, r_0_4 hS, k_14 hS, z_14, sp_benchAt hS gB, sp_isShiftC, as_nil, as_i, as_r, Nat.reduceAdd, Nat.reduceLeDiff, z_eq0, z_eq1, z_or, z_em, Classical.not_not, not_false_eq_true, not_true_eq_false, true_and, and_true, false_and, and_false, and_self, true_implies, false_implies, implies_true, Option.toList_some, Option.toList_none, List.cons_append, List.nil_append, Nat.add_eq_zero_iff, a_nl_i, a_nl_r, a_nl_n, true_or, or_true, eq_self, a_isRA_22, a_isRA_24, a_isRA_32, a_isA_20, ok_4, ok_5, ok_6, ok_7, ok_9, ok_20, ok_21, ok_30, ok_50, ok_180, ok_192, ok_200, hbc, c3, b0, kb]
      try simp only [true_and, and_true, true_implies, false_implies, implies_true, not_true_eq_false, not_false_eq_true]
      first
        | exact hr _ _
        | grind
  · have hbc : ¬ (0 ≤ b ∧ b < I (C + 14) 5 ∧ b < 6) := fun q => c2 ⟨q.1, by rw [← e5]; exact q.2.1⟩
    have hr := hr0 (fun q => c2 q.1)
    ((try clear hP); (try clear hc); (try clear hu); (try clear er))
    rw [a_enter1 (M := a_m164) rfl (a_cat_rf (a_cat_int (a_cat_int (a_cat_int a_cat_nil)))) (show 4 ≤ 6 by decide)]
    show a_at _ (a_xm a_m164) 0 [some (a_rf C), some (.int b), some (.int a), some (.int k), none, none] [] _ _
    simp only [q164_0, q164_1, q164_4, q164_5, q164_8, q164_10, q164_12, q164_15, q164_16, q164_19, q164_22, q164_23, q164_24, q164_27, q164_28, q164_31, q164_34, q164_35, q164_36, k_0 hS, z_C hS, r_0_4 hS, k_14 hS, z_14, sp_benchAt hS gB, sp_isShiftC, as_nil, as_i, as_r, Nat.reduceAdd, Nat.reduceLeDiff, z_eq0, z_eq1, z_or, z_em, Classical.not_not, not_false_eq_true, not_true_eq_false, true_and, and_true, false_and, and_false, and_self, true_implies, false_implies, implies_true, Option.toList_some, Option.toList_none, List.cons_append, List.nil_append, Nat.add_eq_zero_iff, a_nl_i, a_nl_r, a_nl_n, true_or, or_true, eq_self, a_isRA_22, a_isRA_24, a_isRA_32, a_isA_20, ok_4, ok_5, ok_6, ok_7, ok_9, ok_20, ok_21, ok_30, ok_50, ok_180, ok_192, ok_200, hbc]
    try simp only [true_and, and_true, true_implies, false_implies, implies_true, not_true_eq_false, not_false_eq_true]
    first
      | exact hr _ _
      | grind
end HL2
section HL3
variable {d n t M : Nat} {K L : Nat → Nat} {I I0 J J0 J1 J2 : Nat → Nat → Int32} {R : Nat → Nat → Nat} {P : Option Value → AH → Prop} {f : Nat → Int32} {e : Int32}
variable {Y Z W : Nat → Nat → Int32}
theorem lv_hadAt_7 (hS : m_S M K L R) (hR : mR M I) {b s k : Int32} (hP : P (some (.int (hdM M I (200 * b + s) k))) (n, t, K, L, I, R)) : ∀ e : Int32, e ≤ 84000 → ∀ y, 0 ≤ e → e ≤ I M 35 → hvF (I (M + 24)) (I (M + 25)) (I (M + 26)) (200 * b + s) k e.toNatClampNeg = y → a_at d (a_xm a_m257) 7 [some (a_rf M), some (.int b), some (.int s), some (.int k), some (.int y), some (.int e)] [] (n, t, K, L, I, R) P := by
  refine up_ind 84000 (fun e he ih => ?_)
  intro y h0 h9 hV
  have g1 := rg_events hR
  rw [q257_7]
  simp only [q257_9, q257_10, q257_13, m_0 hS, m_K hS, as_nil, as_i, as_r, Nat.reduceAdd, Nat.reduceLeDiff, z_eq0, z_eq1, z_or, z_em, Classical.not_not, not_false_eq_true, not_true_eq_false, true_and, and_true, false_and, and_false, and_self, true_implies, false_implies, implies_true, Option.toList_some, Option.toList_none, List.cons_append, List.nil_append, Nat.add_eq_zero_iff, a_nl_i, a_nl_r, a_nl_n, true_or, or_true, eq_self, ok_4, ok_5, ok_6, ok_7, ok_9, ok_10, ok_20, ok_21, ok_24, ok_30, ok_48, ok_50, ok_60, ok_80, ok_120, ok_180, ok_192, ok_200, ok_900, ok_1000, ok_84000]
  refine ⟨fun c1 => ?_, fun c1 => ?_⟩
  · simp only [q257_64, q257_66, as_nil, as_i, as_r, Nat.reduceAdd, Nat.reduceLeDiff, z_eq0, z_eq1, z_or, z_em, Classical.not_not, not_false_eq_true, not_true_eq_false, true_and, and_true, false_and, and_false, and_self, true_implies, false_implies, implies_true, Option.toList_some, Option.toList_none, List.cons_append, List.nil_append, Nat.add_eq_zero_iff, a_nl_i, a_nl_r, a_nl_n, true_or, or_true, eq_self, ok_4, ok_5, ok_6, ok_7, ok_9, ok_10, ok_20, ok_21, ok_24, ok_30, ok_48, ok_50, ok_60, ok_80, ok_120, ok_180, ok_192, ok_200, ok_900, ok_1000, ok_84000]
    rw [(lp_end h9 (fun w => absurd (Int32.lt_of_lt_of_le w c1) Int32.lt_irrefl)).2] at hV
    rw [← hV]
    exact hP
  · have c1' : e < I M 35 := Int32.not_le.mp c1
    obtain ⟨s1, s2, s3, s4⟩ := lp_st h0 c1'
    have e84 : e < 84000 := Int32.lt_of_lt_of_le c1' g1.2
    have e84' : 0 ≤ e ∧ e < 84000 := ⟨h0, e84⟩
    by_cases c2 : I (M + 24) e.toNatClampNeg = (200 * b + s)
    · by_cases c3 : I (M + 25) e.toNatClampNeg ≤ k
      · have c3' := Int32.not_lt.mpr c3
        have hg := ih e84 (I (M + 26) e.toNatClampNeg) s2 s3 (by rw [s4, hv_s, if_pos ⟨c2, c3⟩])
        ((try clear ih); (try clear hP); (try clear hV); (try clear s1); (try clear s2); (try clear s3); (try clear s4))
        simp only [q257_16, q257_17, q257_20, q257_22, q257_23, q257_26, q257_27, q257_28, q257_29, q257_30, q257_33, q257_34, q257_37, q257_39, q257_40, q257_41, q257_44, q257_45, q257_48, q257_50, q257_51, q257_54, q257_56, q257_58, q257_61, m_0 hS, m_K hS, mR_eWhere hS, mK_eWhere hS, mL_eWhere hS, mR_eHour hS, mK_eHour hS, mL_eHour hS, mR_eAsk hS, mK_eAsk hS, mL_eAsk hS, as_nil, as_i, as_r, Nat.reduceAdd, Nat.reduceLeDiff, z_eq0, z_eq1, z_or, z_em, Classical.not_not, not_false_eq_true, not_true_eq_false, true_and, and_true, false_and, and_false, and_self, true_implies, false_implies, implies_true, Option.toList_some, Option.toList_none, List.cons_append, List.nil_append, Nat.add_eq_zero_iff, a_nl_i, a_nl_r, a_nl_n, true_or, or_true, eq_self, ok_4, ok_5, ok_6, ok_7, ok_9, ok_10, ok_20, ok_21, ok_24, ok_30, ok_48, ok_50, ok_60, ok_80, ok_120, ok_180, ok_192, ok_200, ok_900, ok_1000, ok_84000, e84', c2, c3, c3']
        try simp only [true_and, and_true, true_implies, false_implies, implies_true, not_true_eq_false, not_false_eq_true]
        first
          | exact hg
          | grind
      · have c3' := Int32.not_le.mp c3
        have hg := ih e84 y s2 s3 (by rw [s4, hv_s, if_neg (fun q => c3 q.2)]; exact hV)
        ((try clear ih); (try clear hP); (try clear hV); (try clear s1); (try clear s2); (try clear s3); (try clear s4))
        simp only [q257_16, q257_17, q257_20, q257_22, q257_23, q257_26, q257_27, q257_28, q257_29, q257_30, q257_33, q257_34, q257_37, q257_39, q257_40, q257_41, q257_44, q257_45, q257_48, q257_50, q257_51, q257_54, q257_56, q257_58, q257_61, m_0 hS, m_K hS, mR_eWhere hS, mK_eWhere hS, mL_eWhere hS, mR_eHour hS, mK_eHour hS, mL_eHour hS, mR_eAsk hS, mK_eAsk hS, mL_eAsk hS, as_nil, as_i, as_r, Nat.reduceAdd, Nat.reduceLeDiff, z_eq0, z_eq1, z_or, z_em, Classical.not_not, not_false_eq_true, not_true_eq_false, true_and, and_true, false_and, and_false, and_self, true_implies, false_implies, implies_true, Option.toList_some, Option.toList_none, List.cons_append, List.nil_append, Nat.add_eq_zero_iff, a_nl_i, a_nl_r, a_nl_n, true_or, or_true, eq_self, ok_4, ok_5, ok_6, ok_7, ok_9, ok_10, ok_20, ok_21, ok_24, ok_30, ok_48, ok_50, ok_60, ok_80, ok_120, ok_180, ok_192, ok_200, ok_900, ok_1000, ok_84000, e84', c2, c3, c3']
        try simp only [true_and, and_true, true_implies, false_implies, implies_true, not_true_eq_false, not_false_eq_true]
        first
          | exact hg
          | grind
    · have c2' : ¬ (200 * b + s) = I (M + 24) e.toNatClampNeg := fun q => c2 q.symm
      have hg := ih e84 y s2 s3 (by rw [s4, hv_s, if_neg (fun q => c2 q.1)]; exact hV)
      ((try clear ih); (try clear hP); (try clear hV); (try clear s1); (try clear s2); (try clear s3); (try clear s4))
      simp only [q257_16, q257_17, q257_20, q257_22, q257_23, q257_26, q257_27, q257_28, q257_29, q257_30, q257_33, q257_34, q257_37, q257_39, q257_40, q257_41, q257_44, q257_45, q257_48, q257_50, q257_51, q257_54, q257_56, q257_58, q257_61, m_0 hS, m_K hS, mR_eWhere hS, mK_eWhere hS, mL_eWhere hS, mR_eHour hS, mK_eHour hS, mL_eHour hS, mR_eAsk hS, mK_eAsk hS, mL_eAsk hS, as_nil, as_i, as_r, Nat.reduceAdd, Nat.reduceLeDiff, z_eq0, z_eq1, z_or, z_em, Classical.not_not, not_false_eq_true, not_true_eq_false, true_and, and_true, false_and, and_false, and_self, true_implies, false_implies, implies_true, Option.toList_some, Option.toList_none, List.cons_append, List.nil_append, Nat.add_eq_zero_iff, a_nl_i, a_nl_r, a_nl_n, true_or, or_true, eq_self, ok_4, ok_5, ok_6, ok_7, ok_9, ok_10, ok_20, ok_21, ok_24, ok_30, ok_48, ok_50, ok_60, ok_80, ok_120, ok_180, ok_192, ok_200, ok_900, ok_1000, ok_84000, e84', c2, c2']
      try simp only [true_and, and_true, true_implies, false_implies, implies_true, not_true_eq_false, not_false_eq_true]
      first
        | exact hg
        | grind
theorem xv_hadAt (hS : m_S M K L R) (hR : mR M I) {b s k : Int32} (hP : P (some (.int (hdM M I (200 * b + s) k))) (n, t, K, L, I, R)) : a_does (d + 1) 257 [a_rf M, .int b, .int s, .int k] (n, t, K, L, I, R) P := by
  have g1 := rg_events hR
  have hl := lv_hadAt_7 (d := d) hS hR hP 0 (by decide) (-9) (by decide) g1.1 rfl
  ((try clear hP))
  rw [a_enter1 (M := a_m257) rfl (a_cat_rf (a_cat_int (a_cat_int (a_cat_int a_cat_nil)))) (show 4 ≤ 6 by decide)]
  show a_at _ (a_xm a_m257) 0 [some (a_rf M), some (.int b), some (.int s), some (.int k), none, none] [] _ _
  simp only [q257_0, q257_2, q257_4, q257_5, as_nil, as_i, as_r, Nat.reduceAdd, Nat.reduceLeDiff, z_eq0, z_eq1, z_or, z_em, Classical.not_not, not_false_eq_true, not_true_eq_false, true_and, and_true, false_and, and_false, and_self, true_implies, false_implies, implies_true, Option.toList_some, Option.toList_none, List.cons_append, List.nil_append, Nat.add_eq_zero_iff, a_nl_i, a_nl_r, a_nl_n, true_or, or_true, eq_self, ok_4, ok_5, ok_6, ok_7, ok_9, ok_10, ok_20, ok_21, ok_24, ok_30, ok_48, ok_50, ok_60, ok_80, ok_120, ok_180, ok_192, ok_200, ok_900, ok_1000, ok_84000]
  exact hl
theorem lv_check_75 (hS : m_S M K L R) (hR : mR M I) {b a k m V : Int32} (hm : m ≤ 21) (hP : P (some (.int V)) (n, t, K, L, I, R)) : ∀ i : Int32, i ≤ 21 → 0 ≤ i → i ≤ m → fwF (fun j => hdR M I b (a + Int32.ofNat j) k) (I (M + 52)) (m.toNatClampNeg - i.toNatClampNeg) i.toNatClampNeg = V → a_at (d + 1) (a_xm a_m260) 75 [some (a_rf M), some (.int b), some (.int a), some (.int k), some (.int m), some (.int i)] [] (n, t, K, L, I, R) P := by
  refine up_ind 21 (fun i hi ih => ?_)
  intro h0 h9 hV
  rw [q260_75]
  simp only [q260_77, q260_79, as_nil, as_i, as_r, Nat.reduceAdd, Nat.reduceLeDiff, z_eq0, z_eq1, z_or, z_em, Classical.not_not, not_false_eq_true, not_true_eq_false, true_and, and_true, false_and, and_false, and_self, true_implies, false_implies, implies_true, Option.toList_some, Option.toList_none, List.cons_append, List.nil_append, Nat.add_eq_zero_iff, a_nl_i, a_nl_r, a_nl_n, true_or, or_true, eq_self, ok_4, ok_5, ok_6, ok_7, ok_9, ok_10, ok_20, ok_21, ok_24, ok_30, ok_48, ok_50, ok_60, ok_80, ok_120, ok_180, ok_192, ok_200, ok_900, ok_1000, ok_84000]
  refine ⟨fun c1 => ?_, fun c1 => ?_⟩
  · simp only [q260_111, q260_113, as_nil, as_i, as_r, Nat.reduceAdd, Nat.reduceLeDiff, z_eq0, z_eq1, z_or, z_em, Classical.not_not, not_false_eq_true, not_true_eq_false, true_and, and_true, false_and, and_false, and_self, true_implies, false_implies, implies_true, Option.toList_some, Option.toList_none, List.cons_append, List.nil_append, Nat.add_eq_zero_iff, a_nl_i, a_nl_r, a_nl_n, true_or, or_true, eq_self, ok_4, ok_5, ok_6, ok_7, ok_9, ok_10, ok_20, ok_21, ok_24, ok_30, ok_48, ok_50, ok_60, ok_80, ok_120, ok_180, ok_192, ok_200, ok_900, ok_1000, ok_84000]
    rw [(lp_end h9 (fun w => absurd (Int32.lt_of_lt_of_le w c1) Int32.lt_irrefl)).1] at hV
    rw [show (-9 : Int32) = V from hV]
    exact hP
  · have c1' : i < m := Int32.not_le.mp c1
    obtain ⟨s1, s2, s3, s4⟩ := lp_st h0 c1'
    have i21 : i < 21 := Int32.lt_of_lt_of_le c1' hm
    have i21' : 0 ≤ i ∧ i < 21 := ⟨h0, i21⟩
    rw [s1, fw_s, ← on_cl h0] at hV
    by_cases c2 : hdR M I b (a + i) k = I (M + 52) i.toNatClampNeg
    · rw [if_pos c2, ← s4] at hV
      have hg := ih i21 s2 s3 hV
      have c2 : hdM M I (200 * b + (a + i)) k = I (M + 52) i.toNatClampNeg := c2
      have hcl : a_does (d + 1) 257 [a_rf M, .int b, .int (a + i), .int k] (n, t, K, L, I, R) (fun r h' => a_at (d + 1) (a_xm a_m260) 99 [some (a_rf M), some (.int b), some (.int a), some (.int k), some (.int m), some (.int i)] (r.toList ++ [.int (I (M + 52) i.toNatClampNeg)]) h' P) := by
        refine xv_hadAt hS hR ?_
        ((try clear ih); (try clear hV); (try clear hP); (try clear s1); (try clear s2); (try clear s3); (try clear s4))
        simp only [q260_99, q260_102, q260_104, q260_105, q260_108, as_nil, as_i, as_r, Nat.reduceAdd, Nat.reduceLeDiff, z_eq0, z_eq1, z_or, z_em, Classical.not_not, not_false_eq_true, not_true_eq_false, true_and, and_true, false_and, and_false, and_self, true_implies, false_implies, implies_true, Option.toList_some, Option.toList_none, List.cons_append, List.nil_append, Nat.add_eq_zero_iff, a_nl_i, a_nl_r, a_nl_n, true_or, or_true, eq_self, ok_4, ok_5, ok_6, ok_7, ok_9, ok_10, ok_20, ok_21, ok_24, ok_30, ok_48, ok_50, ok_60, ok_80, ok_120, ok_180, ok_192, ok_200, ok_900, ok_1000, ok_84000, c2]
        try simp only [true_and, and_true, true_implies, false_implies, implies_true, not_true_eq_false, not_false_eq_true]
        first
          | exact hg
          | grind
      ((try clear ih); (try clear hV); (try clear hP); (try clear s1); (try clear s2); (try clear s3); (try clear s4); (try clear hg))
      simp only [q260_82, q260_83, q260_86, q260_88, q260_89, q260_90, q260_91, q260_92, q260_94, q260_95, q260_96, m_0 hS, m_K hS, mR_row hS, mK_row hS, mL_row hS, as_nil, as_i, as_r, Nat.reduceAdd, Nat.reduceLeDiff, z_eq0, z_eq1, z_or, z_em, Classical.not_not, not_false_eq_true, not_true_eq_false, true_and, and_true, false_and, and_false, and_self, true_implies, false_implies, implies_true, Option.toList_some, Option.toList_none, List.cons_append, List.nil_append, Nat.add_eq_zero_iff, a_nl_i, a_nl_r, a_nl_n, true_or, or_true, eq_self, ok_4, ok_5, ok_6, ok_7, ok_9, ok_10, ok_20, ok_21, ok_24, ok_30, ok_48, ok_50, ok_60, ok_80, ok_120, ok_180, ok_192, ok_200, ok_900, ok_1000, ok_84000, i21']
      try simp only [true_and, and_true, true_implies, false_implies, implies_true, not_true_eq_false, not_false_eq_true]
      first
        | exact hcl
        | grind
    · rw [if_neg c2] at hV
      rw [← hV] at hP
      have c2 : ¬ hdM M I (200 * b + (a + i)) k = I (M + 52) i.toNatClampNeg := c2
      have c2' : ¬ I (M + 52) i.toNatClampNeg = hdM M I (200 * b + (a + i)) k := fun q => c2 q.symm
      have hcl : a_does (d + 1) 257 [a_rf M, .int b, .int (a + i), .int k] (n, t, K, L, I, R) (fun r h' => a_at (d + 1) (a_xm a_m260) 99 [some (a_rf M), some (.int b), some (.int a), some (.int k), some (.int m), some (.int i)] (r.toList ++ [.int (I (M + 52) i.toNatClampNeg)]) h' P) := by
        refine xv_hadAt hS hR ?_
        ((try clear ih); (try clear hV); (try clear s1); (try clear s2); (try clear s3); (try clear s4))
        simp only [q260_99, q260_102, q260_104, as_nil, as_i, as_r, Nat.reduceAdd, Nat.reduceLeDiff, z_eq0, z_eq1, z_or, z_em, Classical.not_not, not_false_eq_true, not_true_eq_false, true_and, and_true, false_and, and_false, and_self, true_implies, false_implies, implies_true, Option.toList_some, Option.toList_none, List.cons_append, List.nil_append, Nat.add_eq_zero_iff, a_nl_i, a_nl_r, a_nl_n, true_or, or_true, eq_self, ok_4, ok_5, ok_6, ok_7, ok_9, ok_10, ok_20, ok_21, ok_24, ok_30, ok_48, ok_50, ok_60, ok_80, ok_120, ok_180, ok_192, ok_200, ok_900, ok_1000, ok_84000, c2, c2']
        try simp only [true_and, and_true, true_implies, false_implies, implies_true, not_true_eq_false, not_false_eq_true]
        first
          | exact hP
          | grind
      ((try clear ih); (try clear hV); (try clear hP); (try clear s1); (try clear s2); (try clear s3); (try clear s4))
      simp only [q260_82, q260_83, q260_86, q260_88, q260_89, q260_90, q260_91, q260_92, q260_94, q260_95, q260_96, m_0 hS, m_K hS, mR_row hS, mK_row hS, mL_row hS, as_nil, as_i, as_r, Nat.reduceAdd, Nat.reduceLeDiff, z_eq0, z_eq1, z_or, z_em, Classical.not_not, not_false_eq_true, not_true_eq_false, true_and, and_true, false_and, and_false, and_self, true_implies, false_implies, implies_true, Option.toList_some, Option.toList_none, List.cons_append, List.nil_append, Nat.add_eq_zero_iff, a_nl_i, a_nl_r, a_nl_n, true_or, or_true, eq_self, ok_4, ok_5, ok_6, ok_7, ok_9, ok_10, ok_20, ok_21, ok_24, ok_30, ok_48, ok_50, ok_60, ok_80, ok_120, ok_180, ok_192, ok_200, ok_900, ok_1000, ok_84000, i21']
      try simp only [true_and, and_true, true_implies, false_implies, implies_true, not_true_eq_false, not_false_eq_true]
      first
        | exact hcl
        | grind
theorem xv_check (hS : m_S M K L R) (hm : okY Y) (hg : gs M I0 I Y) {b a k : Int32} (hP : ∀ J, P (some (.int (ckW Y (hdR M I) b a k))) (n, t, K, L, J, R)) : a_does (d + 16) 260 [a_rf M, .int b, .int a, .int k] (n, t, K, L, I, R) P := by
  have hy := hm.1
  have hR := hg.1
  have h17 := hy.2.2.2.2.1
  have h10 := hy.2.1
  have h6 := hy.2.2.2.2.2.1
  have hl := hy.2.2.1
  have e17 : I M 17 = Y 0 17 := hg.2.2.1 0 17 (by unfold ps1; omega)
  have e6 : I M 6 = Y 0 6 := hg.2.2.1 0 6 (by unfold ps1; omega)
  have e0 : I M 0 = Y 0 0 := hg.2.2.1 0 0 (by unfold ps1; omega)
  have m17 : ∀ x : Int32, (x ≤ Y 0 17 - 1) = (x < Y 0 17) := fun x => le_m1 h17
  have m6 : ∀ x : Int32, (x ≤ Y 0 6 - 1) = (x < Y 0 6) := fun x => le_m1 ⟨h6.1, Int32.le_trans h6.2 (by decide)⟩
  have m199 : ∀ x : Int32, (x ≤ 199) = (x < 200) := le_199
  have e79 : I M 79 = Y 0 79 := hg.2.2.1 0 79 (by unfold ps1; omega)
  have g79 := rg_rowMany hR
  have er : I (M + 52) = Y 52 := funext (fun j => hg.2.2.1 52 j (by unfold ps1; omega))
  have m79 : (a + Y 0 79 - 1 ≤ 199) = (a + Y 0 79 ≤ 200) ∨ ¬ (0 ≤ a ∧ a < 200) := by
    by_cases c : 0 ≤ a ∧ a < 200
    · refine Or.inl ?_
      rw [e79] at g79
      ((try clear hP); (try clear hm); (try clear hy); (try clear hl); (try clear hg))
      exact propext (by constructor <;> grind)
    · exact Or.inr c
  have hR2 : mR M (a_ui I M 79 0) := sR_rowMany hR (by decide)
  have eR : hdR M (a_ui I M 79 0) = hdR M I := (hR_eq (fun x j q => by rw [ui_ap, if_neg (fun e => by unfold hC at q; omega)])).1
  have eQ : a_ui I M 79 0 (M + 52) = Y 52 := by rw [← er]; exact funext (fun j => by rw [ui_ap, if_neg (by omega)])
  unfold ckW at hP
  by_cases c : (0 ≤ b ∧ b < Y 0 6) ∧ (0 ≤ a ∧ a < 200) ∧ a + Y 0 79 ≤ 200
  · rw [if_neg (fun q => q c)] at hP
    have m79 := m79.resolve_right (fun q => q c.2.1)
    have c79 : a + Y 0 79 - 1 ≤ 199 := by rw [m79]; exact c.2.2
    have c79' : a + Y 0 79 - 1 < 200 := Int32.lt_of_le_of_lt c79 (by decide)
    by_cases c4 : k < 0
    · have c4' : ¬ 0 ≤ k := Int32.not_le.mpr c4
      rw [if_pos c4] at hP
      have hr := hP (a_ui I (M + 23) 4 (I (M + 23) 4 + 1))
      ((try clear hP); (try clear hm); (try clear hy); (try clear hl); (try clear hg); (try clear eR); (try clear eQ); (try clear er))
      rw [a_enter1 (M := a_m260) rfl (a_cat_rf (a_cat_int (a_cat_int (a_cat_int a_cat_nil)))) (show 4 ≤ 6 by decide)]
      show a_at _ (a_xm a_m260) 0 [some (a_rf M), some (.int b), some (.int a), some (.int k), none, none] [] _ _
      simp only [q260_0, q260_1, q260_2, q260_5, q260_8, q260_9, q260_12, q260_15, q260_16, q260_17, q260_20, q260_21, q260_22, q260_23, q260_26, q260_35, q260_36, q260_39, q260_40, q260_42, q260_45, m_0 hS, m_K hS, sp_isBench hS, sp_isShift, sp_refuse_1 hS, sp_refuse_2 hS, sp_refuse_3 hS, sp_refuse_4 hS, sp_refuse_5 hS, sp_refuse_6 hS, as_nil, as_i, as_r, Nat.reduceAdd, Nat.reduceLeDiff, z_eq0, z_eq1, z_or, z_em, Classical.not_not, not_false_eq_true, not_true_eq_false, true_and, and_true, false_and, and_false, and_self, true_implies, false_implies, implies_true, Option.toList_some, Option.toList_none, List.cons_append, List.nil_append, Nat.add_eq_zero_iff, a_nl_i, a_nl_r, a_nl_n, true_or, or_true, eq_self, ok_4, ok_5, ok_6, ok_7, ok_9, ok_10, ok_20, ok_21, ok_24, ok_30, ok_48, ok_50, ok_60, ok_80, ok_120, ok_180, ok_192, ok_200, ok_900, ok_1000, ok_84000, e6, m6, m199, e79, c79, c79', c, c4, c4']
      try simp only [true_and, and_true, true_implies, false_implies, implies_true, not_true_eq_false, not_false_eq_true]
      first
        | exact hr
        | grind
    · have c4' : 0 ≤ k := Int32.not_lt.mp c4
      rw [if_neg c4] at hP
      by_cases c5 : Y 0 0 < k
      · have c5' : ¬ k ≤ Y 0 0 := Int32.not_le.mpr c5
        rw [if_pos c5] at hP
        have hr := hP (a_ui I (M + 23) 6 (I (M + 23) 6 + 1))
        ((try clear hP); (try clear hm); (try clear hy); (try clear hl); (try clear hg); (try clear eR); (try clear eQ); (try clear er))
        rw [a_enter1 (M := a_m260) rfl (a_cat_rf (a_cat_int (a_cat_int (a_cat_int a_cat_nil)))) (show 4 ≤ 6 by decide)]
        show a_at _ (a_xm a_m260) 0 [some (a_rf M), some (.int b), some (.int a), some (.int k), none, none] [] _ _
        simp only [q260_0, q260_1, q260_2, q260_5, q260_8, q260_9, q260_12, q260_15, q260_16, q260_17, q260_20, q260_21, q260_22, q260_23, q260_26, q260_35, q260_36, q260_46, q260_47, q260_48, q260_51, q260_54, q260_55, q260_57, q260_60, m_0 hS, m_K hS, sp_isBench hS, sp_isShift, sp_refuse_1 hS, sp_refuse_2 hS, sp_refuse_3 hS, sp_refuse_4 hS, sp_refuse_5 hS, sp_refuse_6 hS, as_nil, as_i, as_r, Nat.reduceAdd, Nat.reduceLeDiff, z_eq0, z_eq1, z_or, z_em, Classical.not_not, not_false_eq_true, not_true_eq_false, true_and, and_true, false_and, and_false, and_self, true_implies, false_implies, implies_true, Option.toList_some, Option.toList_none, List.cons_append, List.nil_append, Nat.add_eq_zero_iff, a_nl_i, a_nl_r, a_nl_n, true_or, or_true, eq_self, ok_4, ok_5, ok_6, ok_7, ok_9, ok_10, ok_20, ok_21, ok_24, ok_30, ok_48, ok_50, ok_60, ok_80, ok_120, ok_180, ok_192, ok_200, ok_900, ok_1000, ok_84000, e6, m6, m199, e79, c79, c79', e0, c, c4, c4', c5, c5']
        try simp only [true_and, and_true, true_implies, false_implies, implies_true, not_true_eq_false, not_false_eq_true]
        first
          | exact hr
          | grind
      · have c5' : k ≤ Y 0 0 := Int32.not_lt.mp c5
        rw [if_neg c5] at hP
        have hcl : a_at (d + 15) (a_xm a_m260) 75 [some (a_rf M), some (.int b), some (.int a), some (.int k), some (.int (Y 0 79)), some (.int 0)] [] (n, t, K, L, (a_ui I M 79 0), R) P := by
          refine lv_check_75 (d := d + 14) hS hR2 (by rw [← e79]; exact g79.2) (hP (a_ui I M 79 0)) 0 (by decide) (by decide) (by rw [← e79]; exact g79.1) ?_
          rw [lp_0, eR, eQ]
          rfl
        ((try clear hP); (try clear hm); (try clear hy); (try clear hl); (try clear hg); (try clear eR); (try clear eQ); (try clear er))
        rw [a_enter1 (M := a_m260) rfl (a_cat_rf (a_cat_int (a_cat_int (a_cat_int a_cat_nil)))) (show 4 ≤ 6 by decide)]
        show a_at _ (a_xm a_m260) 0 [some (a_rf M), some (.int b), some (.int a), some (.int k), none, none] [] _ _
        simp only [q260_0, q260_1, q260_2, q260_5, q260_8, q260_9, q260_12, q260_15, q260_16, q260_17, q260_20, q260_21, q260_22, q260_23, q260_26, q260_35, q260_36, q260_46, q260_47, q260_48, q260_51, q260_61, q260_62, q260_65, q260_67, q260_68, q260_69, q260_72, q260_73, m_0 hS, m_K hS, sp_isBench hS, sp_isShift, as_nil, as_i, as_r, Nat.reduceAdd, Nat.reduceLeDiff, z_eq0, z_eq1, z_or, z_em, Classical.not_not, not_false_eq_true, not_true_eq_false, true_and, and_true, false_and, and_false, and_self, true_implies, false_implies, implies_true, Option.toList_some, Option.toList_none, List.cons_append, List.nil_append, Nat.add_eq_zero_iff, a_nl_i, a_nl_r, a_nl_n, true_or, or_true, eq_self, ok_4, ok_5, ok_6, ok_7, ok_9, ok_10, ok_20, ok_21, ok_24, ok_30, ok_48, ok_50, ok_60, ok_80, ok_120, ok_180, ok_192, ok_200, ok_900, ok_1000, ok_84000, e6, m6, m199, e79, c79, c79', e0, c, c4, c4', c5, c5']
        try simp only [true_and, and_true, true_implies, false_implies, implies_true, not_true_eq_false, not_false_eq_true]
        first
          | exact hcl
          | grind
  · rw [if_pos c] at hP
    have hr := hP (a_ui I (M + 23) 1 (I (M + 23) 1 + 1))
    ((try clear hP); (try clear hm); (try clear hy); (try clear hl); (try clear hg); (try clear eR); (try clear eQ); (try clear er))
    rw [a_enter1 (M := a_m260) rfl (a_cat_rf (a_cat_int (a_cat_int (a_cat_int a_cat_nil)))) (show 4 ≤ 6 by decide)]
    show a_at _ (a_xm a_m260) 0 [some (a_rf M), some (.int b), some (.int a), some (.int k), none, none] [] _ _
    simp only [q260_0, q260_1, q260_2, q260_5, q260_8, q260_9, q260_12, q260_15, q260_16, q260_17, q260_20, q260_21, q260_22, q260_23, q260_26, q260_29, q260_30, q260_31, q260_34, m_0 hS, m_K hS, sp_isBench hS, sp_isShift, sp_refuse_1 hS, sp_refuse_2 hS, sp_refuse_3 hS, sp_refuse_4 hS, sp_refuse_5 hS, sp_refuse_6 hS, as_nil, as_i, as_r, Nat.reduceAdd, Nat.reduceLeDiff, z_eq0, z_eq1, z_or, z_em, Classical.not_not, not_false_eq_true, not_true_eq_false, true_and, and_true, false_and, and_false, and_self, true_implies, false_implies, implies_true, Option.toList_some, Option.toList_none, List.cons_append, List.nil_append, Nat.add_eq_zero_iff, a_nl_i, a_nl_r, a_nl_n, true_or, or_true, eq_self, ok_4, ok_5, ok_6, ok_7, ok_9, ok_10, ok_20, ok_21, ok_24, ok_30, ok_48, ok_50, ok_60, ok_80, ok_120, ok_180, ok_192, ok_200, ok_900, ok_1000, ok_84000, e6, m6, m199, e79]
    try simp only [true_and, and_true, true_implies, false_implies, implies_true, not_true_eq_false, not_false_eq_true]
    by_cases q1 : 0 ≤ b ∧ b < Y 0 6
    · by_cases q3 : 0 ≤ a ∧ a < 200
      · have m79 := m79.resolve_right (fun q => q q3)
        have m79' : (a + Y 0 79 - 1 < 200) = (a + Y 0 79 ≤ 200) := by rw [← m199]; exact m79
        have q4 : ¬ a + Y 0 79 ≤ 200 := fun q => c ⟨q1, q3, q⟩
        simp only [q1, q3, m79, m79', q4]
        try simp only [true_and, and_true, true_implies, false_implies, implies_true, not_true_eq_false, not_false_eq_true]
        first
          | exact hr
          | grind
      · simp only [q1, q3]
        try simp only [true_and, and_true, true_implies, false_implies, implies_true, not_true_eq_false, not_false_eq_true]
        first
          | exact hr
          | grind
    · simp only [q1]
      try simp only [true_and, and_true, true_implies, false_implies, implies_true, not_true_eq_false, not_false_eq_true]
      first
        | exact hr
        | grind
end HL3
section HL4
variable {d n t C c : Nat} {K L : Nat → Nat} {I I0 J J0 J1 J2 : Nat → Nat → Int32} {R : Nat → Nat → Nat} {P : Option Value → AH → Prop}
variable {Y Z W : Nat → Nat → Int32} {b n' t' c' m m' : Nat} {K' L' : Nat → Nat} {R' R1 R2 : Nat → Nat → Nat}
theorem sh_in2 {a m : Int32} (ha : 0 ≤ a ∧ a < 200) (hm : 0 ≤ m ∧ m ≤ 21) (hs : a + m ≤ 200) {j : Nat} (hj : j < m.toNatClampNeg) : 0 ≤ a + Int32.ofNat j ∧ a + Int32.ofNat j < 200 := by
  have m21 := cl_le0 hm.1 hm.2
  rw [show (21 : Int32).toNatClampNeg = 21 from rfl] at m21
  obtain ⟨e1, e2⟩ := cl_on2 (m := j) (by omega)
  have z0 : (0 : Int32).toInt = 0 := rfl
  have z2 : (200 : Int32).toInt = 200 := rfl
  have z3 : (21 : Int32).toInt = 21 := rfl
  have a0 := Int32.le_iff_toInt_le.mp ha.1
  have a1 := Int32.lt_iff_toInt_lt.mp ha.2
  have b0 := Int32.le_iff_toInt_le.mp hm.1
  have b1 := Int32.le_iff_toInt_le.mp hm.2
  have s1 := Int32.le_iff_toInt_le.mp hs
  rw [ti_add (by omega)] at s1
  have hj : j < m.toInt.toNat := hj
  rw [Int32.le_iff_toInt_le, Int32.lt_iff_toInt_lt, ti_add (by omega)]
  omega
theorem ck_e (h : hcG C m J R Y) (h79 : 0 ≤ Y 0 79 ∧ Y 0 79 ≤ 21) {u1 u2 u3 : Int32} : ckW Y (hdC C J R) u1 u2 u3 = ckW Y (hdR (C + 44) J) u1 u2 u3 := by
  unfold ckW
  split
  · rfl
  · next c =>
    have c := Classical.not_not.mp c
    have e := fw_cg (g := fun j => hdR (C + 44) J u1 (u2 + Int32.ofNat j) u3) (g' := fun j => hdC C J R u1 (u2 + Int32.ofNat j) u3) (f := Y 52) (f' := Y 52) (Y 0 79).toNatClampNeg 0 (fun j _ hj => ⟨(h.2.2.2.1 u1 _ c.1 (sh_in2 c.2.1 h79 c.2.2 (by omega))).1 u3, rfl⟩)
    rw [e]
theorem ca9_check {u1 u2 u3 : Int32} (hb : b < C) (hc : 120 * c + 130 ≤ 62000) (h : lawH b C c n t K L J R) (hP : ∀ n2 t2 K2 L2 J2 R2, aNx b C c n2 t2 K2 L2 J2 R2 (yv (C + 44) J) (ckY (yv (C + 44) J) u1 u2 u3) → hcG C (30 * c + 30) J2 R2 (ckY (yv (C + 44) J) u1 u2 u3) → P (some (.int (ckW (yv (C + 44) J) (hdR (C + 44) J2) u1 u2 u3))) (n2 + 1, t2, K2, L2, J2, R2)) : a_does 700 164 [a_rf C, .int u1, .int u2, .int u3] (n + 1, t, K, L, J, R) P := by
  have h79 : 0 ≤ (yv (C + 44) J) 0 79 ∧ (yv (C + 44) J) 0 79 ≤ 21 := rg_rowMany h.1.2.2.1
  refine does_mono (does_and (does_and (cdh_check (P := fun _ h' => ∃ n2 t2 K2 L2 J2 R2, h' = (n2 + 1, t2, K2, L2, J2, R2) ∧ aNx b C c n2 t2 K2 L2 J2 R2 (yv (C + 44) J) (ckY (yv (C + 44) J) u1 u2 u3) ∧ hcG C (30 * c + 30) J2 R2 (ckY (yv (C + 44) J) u1 u2 u3)) hb hc h (fun _ n2 t2 K2 L2 J2 R2 hx g => ⟨n2, t2, K2, L2, J2, R2, rfl, hx, g⟩)) (kf_check h.1.1)) (cv_check (P := fun r _ => r = some (.int (ckW (yv (C + 44) J) (hdC C J R) u1 u2 u3))) h.1.1 h.1.2.2.2.2.2.1 (fun _ => rfl))) (fun r h' q => ?_)
  obtain ⟨⟨⟨n2, t2, K2, L2, J2, R2, e1, hx, g⟩, w⟩, e2⟩ := q
  rw [e1] at w ⊢
  rw [e2, ck_e h.2 h79, ← (mR_same (cF_in w).2.2.2).1]
  exact hP _ _ _ _ _ _ hx g
theorem ra9_check {u1 u2 u3 : Int32} (hx : aNx b C c n t K L J R Y (ckY Y u1 u2 u3)) (hc : 120 * c + 130 ≤ 62000) (g : hcG C (30 * c + 30) J R (ckY Y u1 u2 u3)) (hP : ∀ J3, lawH b C (c + 1) n t K L J3 R → P (some (.int (ckW Y (hdR (C + 44) J) u1 u2 u3))) (n + 1, t, K, L, J3, R)) : a_does 700 260 [a_rf (C + 44), .int u1, .int u2, .int u3] (n + 1, t, K, L, J, R) P := by
  refine does_mono (does_and (rdh_check (P := fun _ h' => ∃ J3, h' = (n + 1, t, K, L, J3, R) ∧ lawH b C (c + 1) n t K L J3 R) hx hc g (fun _ J3 hI => ⟨J3, rfl, hI⟩)) (xv_check (P := fun r _ => r = some (.int (ckW Y (hdR (C + 44) J) u1 u2 u3))) hx.1.2.1 hx.2.2.1 hx.2.1 (fun _ => rfl))) (fun r h' q => ?_)
  obtain ⟨⟨J3, e1, hI⟩, e2⟩ := q
  rw [e1, e2]
  exact hP _ hI
end HL4

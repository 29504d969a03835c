/-! what was had: had, lead, check, told -/
/-- who is known of a SHIFT on an hour, in a bench -/
def kwF (I : Nat → Nat → Int32) (R : Nat → Nat → Nat) (b : Nat) (s k : Int32) : Int32 := if I (R b 4) s.toNatClampNeg ≤ k then I (R b 2) s.toNatClampNeg else pqF (I (R b 5)) s k (I b 6).toNatClampNeg 0
def haW (Y : Nat → Nat → Int32) (hd : Int32 → Int32 → Int32 → Int32) (b s k : Int32) : Int32 := if ¬ ((0 ≤ b ∧ b < Y 0 6) ∧ (0 ≤ s ∧ s < 200)) then -1 else if k < 0 then -4 else if Y 0 0 < k then -6 else hd b s k
section HL0
variable {g f g' f' : Nat → Int32}
end HL0
section HL1
variable {d n t C : Nat} {K L : Nat → Nat} {I I0 J J0 J1 J2 : Nat → Nat → Int32} {R : Nat → Nat → Nat} {P : Option Value → AH → Prop}
theorem lv_knownOn_19 {b : Nat} (hb : K b = 3) (hT : cT C K L I R) {s k V : Int32} (hP : P (some (.int V)) (n, t, K, L, I, R)) : ∀ i : Int32, i ≤ 16384 → ∀ u, 0 ≤ i → i ≤ I b 6 → pqF (I (R b 5)) s k ((I b 6).toNatClampNeg - i.toNatClampNeg) i.toNatClampNeg = V → a_at d (a_xm a_m161) 19 [some (a_rf b), some (.int s), some (.int k), some (.int i), u] [] (n, t, K, L, I, R) P := by
  have hS := hT.s
  obtain ⟨b1, ⟨w1, w2, w3⟩, ⟨s1, s2, s3⟩, ⟨h1, h2, h3⟩, ⟨p1, p2, p3⟩, q1⟩ := hT.g_bnc b hb
  have b0 : (b = 0) = False := eq_false (by omega)
  have w0 : (R b 2 = 0) = False := eq_false (by omega)
  have s0 : (R b 3 = 0) = False := eq_false (by omega)
  have h0 : (R b 4 = 0) = False := eq_false (by omega)
  have p0 : (R b 5 = 0) = False := eq_false (by omega)
  refine up_ind 16384 (fun i hk ih => ?_)
  intro u q0 q9 hV
  have k0 : ¬ I b 6 ≤ i → a_ok (i * 5) (L (R b 5)) := fun h => past_ok0 q0 (Int32.not_le.mp h) q1.2.1 q1.2.2
  have k1 : ¬ I b 6 ≤ i → ∀ e, 0 ≤ e ∧ e ≤ 4 → a_ok (i * 5 + e) (L (R b 5)) := fun h e he => past_ok q0 (Int32.not_le.mp h) q1.2.1 q1.2.2 he
  rw [q161_19]
  simp only [q161_20, q161_21, q161_24, as_nil, as_i, as_r, Nat.reduceAdd, Nat.reduceLeDiff, z_eq0, z_eq1, z_or, z_em, Classical.not_not, not_false_eq_true, not_true_eq_false, true_and, and_true, false_and, and_false, and_self, true_implies, false_implies, implies_true, Option.toList_some, Option.toList_none, List.cons_append, List.nil_append, Nat.add_eq_zero_iff, a_nl_i, a_nl_r, a_nl_n, true_or, or_true, eq_self, a_isRA_22, a_isRA_24, a_isRA_32, a_isA_20, ok_4, ok_5, ok_6, ok_7, ok_9, ok_20, ok_21, ok_30, ok_50, ok_180, ok_192, ok_200, hb, b0, w0, w2, w3, s0, s2, s3, h0, h2, h3, p0, p2]
  refine ⟨fun c1 => ?_, fun c1 => ?_⟩
  · simp only [q161_98, q161_100, as_nil, as_i, as_r, Nat.reduceAdd, Nat.reduceLeDiff, z_eq0, z_eq1, z_or, z_em, Classical.not_not, not_false_eq_true, not_true_eq_false, true_and, and_true, false_and, and_false, and_self, true_implies, false_implies, implies_true, Option.toList_some, Option.toList_none, List.cons_append, List.nil_append, Nat.add_eq_zero_iff, a_nl_i, a_nl_r, a_nl_n, true_or, or_true, eq_self, a_isRA_22, a_isRA_24, a_isRA_32, a_isA_20, ok_4, ok_5, ok_6, ok_7, ok_9, ok_20, ok_21, ok_30, ok_50, ok_180, ok_192, ok_200]
    rw [(lp_end q9 (fun w => absurd (Int32.lt_of_lt_of_le w c1) Int32.lt_irrefl)).1] at hV
    rw [show (-9 : Int32) = V from hV]
    exact hP
  · have k0 := k0 c1
    have k1 := k1 c1
    have m1 := k1 1 (by decide)
    have m2 := k1 2 (by decide)
    have m3 := k1 3 (by decide)
    have m4 := k1 4 (by decide)
    have c1' : i < I b 6 := Int32.not_le.mp c1
    have i16 : i < 16384 := Int32.lt_of_lt_of_le c1' q1.2.1
    obtain ⟨s1, s2, s3, s4⟩ := lp_st q0 c1'
    obtain ⟨x0, x⟩ := past5 q0 i16
    have x1 := x 1 (by decide) (by decide)
    have x2 := x 2 (by decide) (by decide)
    have x3 := x 3 (by decide) (by decide)
    have x4 := x 4 (by decide) (by decide)
    rw [show (1 : Int32).toNatClampNeg = 1 from rfl] at x1
    rw [show (2 : Int32).toNatClampNeg = 2 from rfl] at x2
    rw [show (3 : Int32).toNatClampNeg = 3 from rfl] at x3
    rw [show (4 : Int32).toNatClampNeg = 4 from rfl] at x4
    rw [s1, pq_s] at hV
    have i1 : i + 1 ≤ 16384 := Int32.le_trans s3 q1.2.1
    by_cases c : I (R b 5) (5 * i.toNatClampNeg + 1) ≤ s ∧ s ≤ I (R b 5) (5 * i.toNatClampNeg + 2) ∧ I (R b 5) (5 * i.toNatClampNeg + 3) ≤ k ∧ k < I (R b 5) (5 * i.toNatClampNeg + 4)
    · rw [if_pos c] at hV
      rw [← hV] at hP
      obtain ⟨a0, a1, a2, a3⟩ := c
      have n0 := Int32.not_lt.mpr a0
      have n1 := Int32.not_lt.mpr a1
      have n2 := Int32.not_lt.mpr a2
      have n3 := Int32.not_le.mpr a3
      ((try clear ih); (try clear hV); (try clear k1); (try clear x); (try clear s1); (try clear s2); (try clear s3); (try clear s4))
      simp only [q161_27, q161_28, q161_29, q161_30, q161_32, q161_33, q161_36, q161_38, q161_39, q161_40, q161_41, q161_42, q161_45, q161_46, q161_47, q161_50, q161_52, q161_53, q161_54, q161_55, q161_58, q161_59, q161_62, q161_64, q161_65, q161_66, q161_67, q161_68, q161_71, q161_72, q161_73, q161_76, q161_78, q161_79, q161_80, q161_81, q161_84, q161_85, q161_88, q161_90, q161_91, as_nil, as_i, as_r, Nat.reduceAdd, Nat.reduceLeDiff, z_eq0, z_eq1, z_or, z_em, Classical.not_not, not_false_eq_true, not_true_eq_false, true_and, and_true, false_and, and_false, and_self, true_implies, false_implies, implies_true, Option.toList_some, Option.toList_none, List.cons_append, List.nil_append, Nat.add_eq_zero_iff, a_nl_i, a_nl_r, a_nl_n, true_or, or_true, eq_self, a_isRA_22, a_isRA_24, a_isRA_32, a_isA_20, ok_4, ok_5, ok_6, ok_7, ok_9, ok_20, ok_21, ok_30, ok_50, ok_180, ok_192, ok_200, hb, b0, w0, w2, w3, s0, s2, s3, h0, h2, h3, p0, p2, x0, x1, x2, x3, x4, k0, m1, m2, m3, m4, a0, a1, a2, a3, n0, n1, n2, n3]
      try simp only [true_and, and_true, true_implies, false_implies, implies_true, not_true_eq_false, not_false_eq_true]
      first
        | exact hP
        | grind
    · rw [if_neg c, ← s4] at hV
      have hg := fun u => ih i16 u s2 s3 hV
      replace hg := hg (some (.int (i * 5)))
      ((try clear ih); (try clear hV); (try clear k1); (try clear x); (try clear s1); (try clear s2); (try clear s3); (try clear s4); (try clear hP))
      by_cases a0 : I (R b 5) (5 * i.toNatClampNeg + 1) ≤ s
      · have n0 : ¬ s < I (R b 5) (5 * i.toNatClampNeg + 1) := Int32.not_lt.mpr a0
        by_cases a1 : s ≤ I (R b 5) (5 * i.toNatClampNeg + 2)
        · have n1 : ¬ I (R b 5) (5 * i.toNatClampNeg + 2) < s := Int32.not_lt.mpr a1
          by_cases a2 : I (R b 5) (5 * i.toNatClampNeg + 3) ≤ k
          · have n2 : ¬ k < I (R b 5) (5 * i.toNatClampNeg + 3) := Int32.not_lt.mpr a2
            have a3 : ¬ k < I (R b 5) (5 * i.toNatClampNeg + 4) := fun q => c ⟨a0, a1, a2, q⟩
            have n3 : I (R b 5) (5 * i.toNatClampNeg + 4) ≤ k := Int32.not_lt.mp a3
            ((try clear c))
            simp only [q161_27, q161_28, q161_29, q161_30, q161_32, q161_33, q161_36, q161_38, q161_39, q161_40, q161_41, q161_42, q161_45, q161_46, q161_47, q161_50, q161_52, q161_53, q161_54, q161_55, q161_58, q161_59, q161_62, q161_64, q161_65, q161_66, q161_67, q161_68, q161_71, q161_72, q161_73, q161_76, q161_78, q161_79, q161_80, q161_81, q161_92, q161_95, as_nil, as_i, as_r, Nat.reduceAdd, Nat.reduceLeDiff, z_eq0, z_eq1, z_or, z_em, Classical.not_not, not_false_eq_true, not_true_eq_false, true_and, and_true, false_and, and_false, and_self, true_implies, false_implies, implies_true, Option.toList_some, Option.toList_none, List.cons_append, List.nil_append, Nat.add_eq_zero_iff, a_nl_i, a_nl_r, a_nl_n, true_or, or_true, eq_self, a_isRA_22, a_isRA_24, a_isRA_32, a_isA_20, ok_4, ok_5, ok_6, ok_7, ok_9, ok_20, ok_21, ok_30, ok_50, ok_180, ok_192, ok_200, hb, b0, w0, w2, w3, s0, s2, s3, h0, h2, h3, p0, p2, x0, x1, x2, x3, x4, k0, m1, m2, m3, m4, a0, n0, a1, n1, a2, n2, a3, n3]
            try simp only [true_and, and_true, true_implies, false_implies, implies_true, not_true_eq_false, not_false_eq_true]
            first
              | exact hg
              | grind
          · have n2 : k < I (R b 5) (5 * i.toNatClampNeg + 3) := Int32.not_le.mp a2
            ((try clear c))
            simp only [q161_27, q161_28, q161_29, q161_30, q161_32, q161_33, q161_36, q161_38, q161_39, q161_40, q161_41, q161_42, q161_45, q161_46, q161_47, q161_50, q161_52, q161_53, q161_54, q161_55, q161_58, q161_59, q161_62, q161_64, q161_65, q161_66, q161_67, q161_68, q161_71, q161_72, q161_73, q161_76, q161_78, q161_79, q161_80, q161_81, q161_92, q161_95, as_nil, as_i, as_r, Nat.reduceAdd, Nat.reduceLeDiff, z_eq0, z_eq1, z_or, z_em, Classical.not_not, not_false_eq_true, not_true_eq_false, true_and, and_true, false_and, and_false, and_self, true_implies, false_implies, implies_true, Option.toList_some, Option.toList_none, List.cons_append, List.nil_append, Nat.add_eq_zero_iff, a_nl_i, a_nl_r, a_nl_n, true_or, or_true, eq_self, a_isRA_22, a_isRA_24, a_isRA_32, a_isA_20, ok_4, ok_5, ok_6, ok_7, ok_9, ok_20, ok_21, ok_30, ok_50, ok_180, ok_192, ok_200, hb, b0, w0, w2, w3, s0, s2, s3, h0, h2, h3, p0, p2, x0, x1, x2, x3, x4, k0, m1, m2, m3, m4, a0, n0, a1, n1, a2, n2]
            try simp only [true_and, and_true, true_implies, false_implies, implies_true, not_true_eq_false, not_false_eq_true]
            first
              | exact hg
              | grind
        · have n1 : I (R b 5) (5 * i.toNatClampNeg + 2) < s := Int32.not_le.mp a1
          ((try clear c))
          simp only [q161_27, q161_28, q161_29, q161_30, q161_32, q161_33, q161_36, q161_38, q161_39, q161_40, q161_41, q161_42, q161_45, q161_46, q161_47, q161_50, q161_52, q161_53, q161_54, q161_55, q161_58, q161_59, q161_62, q161_64, q161_65, q161_66, q161_67, q161_68, q161_71, q161_72, q161_73, q161_76, q161_78, q161_79, q161_80, q161_81, q161_92, q161_95, as_nil, as_i, as_r, Nat.reduceAdd, Nat.reduceLeDiff, z_eq0, z_eq1, z_or, z_em, Classical.not_not, not_false_eq_true, not_true_eq_false, true_and, and_true, false_and, and_false, and_self, true_implies, false_implies, implies_true, Option.toList_some, Option.toList_none, List.cons_append, List.nil_append, Nat.add_eq_zero_iff, a_nl_i, a_nl_r, a_nl_n, true_or, or_true, eq_self, a_isRA_22, a_isRA_24, a_isRA_32, a_isA_20, ok_4, ok_5, ok_6, ok_7, ok_9, ok_20, ok_21, ok_30, ok_50, ok_180, ok_192, ok_200, hb, b0, w0, w2, w3, s0, s2, s3, h0, h2, h3, p0, p2, x0, x1, x2, x3, x4, k0, m1, m2, m3, m4, a0, n0, a1, n1]
          try simp only [true_and, and_true, true_implies, false_implies, implies_true, not_true_eq_false, not_false_eq_true]
          first
            | exact hg
            | grind
      · have n0 : s < I (R b 5) (5 * i.toNatClampNeg + 1) := Int32.not_le.mp a0
        ((try clear c))
        simp only [q161_27, q161_28, q161_29, q161_30, q161_32, q161_33, q161_36, q161_38, q161_39, q161_40, q161_41, q161_42, q161_45, q161_46, q161_47, q161_50, q161_52, q161_53, q161_54, q161_55, q161_58, q161_59, q161_62, q161_64, q161_65, q161_66, q161_67, q161_68, q161_71, q161_72, q161_73, q161_76, q161_78, q161_79, q161_80, q161_81, q161_92, q161_95, as_nil, as_i, as_r, Nat.reduceAdd, Nat.reduceLeDiff, z_eq0, z_eq1, z_or, z_em, Classical.not_not, not_false_eq_true, not_true_eq_false, true_and, and_true, false_and, and_false, and_self, true_implies, false_implies, implies_true, Option.toList_some, Option.toList_none, List.cons_append, List.nil_append, Nat.add_eq_zero_iff, a_nl_i, a_nl_r, a_nl_n, true_or, or_true, eq_self, a_isRA_22, a_isRA_24, a_isRA_32, a_isA_20, ok_4, ok_5, ok_6, ok_7, ok_9, ok_20, ok_21, ok_30, ok_50, ok_180, ok_192, ok_200, hb, b0, w0, w2, w3, s0, s2, s3, h0, h2, h3, p0, p2, x0, x1, x2, x3, x4, k0, m1, m2, m3, m4, a0, n0]
        try simp only [true_and, and_true, true_implies, false_implies, implies_true, not_true_eq_false, not_false_eq_true]
        first
          | exact hg
          | grind
theorem cv_knownOn {b : Nat} (hb : K b = 3) (hT : cT C K L I R) {s k : Int32} (hs : 0 ≤ s ∧ s < 200) (hP : P (some (.int (kwF I R b s k))) (n, t, K, L, I, R)) : a_does (d + 1) 161 [a_rf b, .int s, .int k] (n, t, K, L, I, R) P := by
  have hS := hT.s
  obtain ⟨b1, ⟨w1, w2, w3⟩, ⟨s1, s2, s3⟩, ⟨h1, h2, h3⟩, ⟨p1, p2, p3⟩, q1⟩ := hT.g_bnc b hb
  have b0 : (b = 0) = False := eq_false (by omega)
  have w0 : (R b 2 = 0) = False := eq_false (by omega)
  have s0 : (R b 3 = 0) = False := eq_false (by omega)
  have h0 : (R b 4 = 0) = False := eq_false (by omega)
  have p0 : (R b 5 = 0) = False := eq_false (by omega)
  unfold kwF at hP
  by_cases c : I (R b 4) s.toNatClampNeg ≤ k
  · rw [if_pos c] at hP
    have c' := Int32.not_lt.mpr c
    rw [a_enter1 (M := a_m161) rfl (a_cat_rf (a_cat_int (a_cat_int a_cat_nil))) (show 3 ≤ 5 by decide)]
    show a_at _ (a_xm a_m161) 0 [some (a_rf b), some (.int s), some (.int k), none, none] [] _ _
    simp only [q161_0, q161_1, q161_4, q161_5, q161_6, q161_7, q161_10, q161_11, q161_14, q161_15, q161_16, as_nil, as_i, as_r, Nat.reduceAdd, Nat.reduceLeDiff, z_eq0, z_eq1, z_or, z_em, Classical.not_not, not_false_eq_true, not_true_eq_false, true_and, and_true, false_and, and_false, and_self, true_implies, false_implies, implies_true, Option.toList_some, Option.toList_none, List.cons_append, List.nil_append, Nat.add_eq_zero_iff, a_nl_i, a_nl_r, a_nl_n, true_or, or_true, eq_self, a_isRA_22, a_isRA_24, a_isRA_32, a_isA_20, ok_4, ok_5, ok_6, ok_7, ok_9, ok_20, ok_21, ok_30, ok_50, ok_180, ok_192, ok_200, hb, b0, w0, w2, w3, s0, s2, s3, h0, h2, h3, p0, p2, c, c', hs]
    try simp only [true_and, and_true, true_implies, false_implies, implies_true, not_true_eq_false, not_false_eq_true]
    first
      | exact hP
      | grind
  · rw [if_neg c] at hP
    have c' := Int32.not_le.mp c
    have hl : ∀ u, a_at d (a_xm a_m161) 19 [some (a_rf b), some (.int s), some (.int k), some (.int 0), u] [] (n, t, K, L, I, R) P := fun u => lv_knownOn_19 hb hT hP 0 (by decide) u (by decide) q1.1 (by rw [lp_0]; rfl)
    ((try clear hP))
    rw [a_enter1 (M := a_m161) rfl (a_cat_rf (a_cat_int (a_cat_int a_cat_nil))) (show 3 ≤ 5 by decide)]
    show a_at _ (a_xm a_m161) 0 [some (a_rf b), some (.int s), some (.int k), none, none] [] _ _
    simp only [q161_0, q161_1, q161_4, q161_5, q161_6, q161_7, q161_17, q161_18, as_nil, as_i, as_r, Nat.reduceAdd, Nat.reduceLeDiff, z_eq0, z_eq1, z_or, z_em, Classical.not_not, not_false_eq_true, not_true_eq_false, true_and, and_true, false_and, and_false, and_self, true_implies, false_implies, implies_true, Option.toList_some, Option.toList_none, List.cons_append, List.nil_append, Nat.add_eq_zero_iff, a_nl_i, a_nl_r, a_nl_n, true_or, or_true, eq_self, a_isRA_22, a_isRA_24, a_isRA_32, a_isA_20, ok_4, ok_5, ok_6, ok_7, ok_9, ok_20, ok_21, ok_30, ok_50, ok_180, ok_192, ok_200, hb, b0, w0, w2, w3, s0, s2, s3, h0, h2, h3, p0, p2, c, c', hs]
    try simp only [true_and, and_true, true_implies, false_implies, implies_true, not_true_eq_false, not_false_eq_true]
    first
      | exact hl _
      | grind
end HL1
section HL2
variable {d n t C c : Nat} {K L : Nat → Nat} {I I0 J J0 J1 J2 : Nat → Nat → Int32} {R : Nat → Nat → Nat} {P : Option Value → AH → Prop}
variable {Y Z W : Nat → Nat → Int32}
theorem cv_had (hH : cH C c (n + 1) t K L I R) (hu : cuP C K L I R Y) {b s k : Int32} (hP : ∀ J, P (some (.int (haW Y (hdC C I R) b s k))) (n + 1, t, K, L, J, R)) : a_does (d + 70) 160 [a_rf C, .int b, .int s, .int k] (n + 1, t, K, L, I, R) P := by
  have hT := hH.1
  have hS := hT.s
  have gA := hT.g_asksR
  have gB := hT.g_benchesR
  have gX := hT.g_textsR
  have hc := hu.1
  have h17 := hc.2.2.2.2.2.2.2.2.1
  have e4 : I (C + 14) 4 = Y 0 17 := hc.2.2.1.1
  have h6 := hc.2.2.2.2.2.2.2.2.2.1
  have e5 : I (C + 14) 5 = Y 0 6 := hc.2.1.1
  have e0 : I (C + 1) 6 = Y 0 0 := hc.1.1
  unfold haW at hP
  have hr0 : ¬ ((0 ≤ b ∧ b < Y 0 6) ∧ (0 ≤ s ∧ s < 200)) → ∀ x, a_does (d + 69) 10 [a_rf C, .int (-1)] (n + 1, t, K, L, I, R) (fun r h' => a_at (d + 69) (a_xm a_m160) 27 [some (a_rf C), some (.int b), some (.int s), some (.int k), x] (r.toList ++ []) h' P) := fun q x => by
    rw [if_pos q] at hP
    refine cr_refuse (d := d + 68) hH (fun J _ => ?_)
    have hp := hP J
    ((try clear hP); (try clear hc); (try clear hu))
    simp only [q160_27, as_nil, as_i, as_r, Nat.reduceAdd, Nat.reduceLeDiff, z_eq0, z_eq1, z_or, z_em, Classical.not_not, not_false_eq_true, not_true_eq_false, true_and, and_true, false_and, and_false, and_self, true_implies, false_implies, implies_true, Option.toList_some, Option.toList_none, List.cons_append, List.nil_append, Nat.add_eq_zero_iff, a_nl_i, a_nl_r, a_nl_n, true_or, or_true, eq_self, a_isRA_22, a_isRA_24, a_isRA_32, a_isA_20, ok_4, ok_5, ok_6, ok_7, ok_9, ok_20, ok_21, ok_30, ok_50, ok_180, ok_192, ok_200]
    exact hp
  by_cases c2 : 0 ≤ b ∧ b < Y 0 6
  · have hbc : 0 ≤ b ∧ b < I (C + 14) 5 ∧ b < 6 := ⟨c2.1, by rw [e5]; exact c2.2, Int32.lt_of_lt_of_le c2.2 h6.2⟩
    obtain ⟨kb, kb0, -⟩ := hc.2.1.2.2.1 b c2.1 c2.2
    have b0 : (R (C + 16) b.toNatClampNeg = 0) = False := eq_false kb0
    by_cases c3 : 0 ≤ s ∧ s < 200
    · rw [if_neg (fun q => q ⟨c2, c3⟩)] at hP
      ((try clear hr0))
      by_cases c4 : k < 0
      · have c4' : ¬ 0 ≤ k := Int32.not_le.mpr c4
        rw [if_pos c4] at hP
        have hr : a_does (d + 69) 10 [a_rf C, .int (-4)] (n + 1, t, K, L, I, R) (fun r h' => a_at (d + 69) (a_xm a_m160) 38 [some (a_rf C), some (.int b), some (.int s), some (.int k), some (a_rf (R (C + 16) b.toNatClampNeg))] (r.toList ++ []) h' P) := by
          refine cr_refuse (d := d + 68) hH (fun J _ => ?_)
          have hp := hP J
          ((try clear hP); (try clear hc); (try clear hu))
          simp only [q160_38, as_nil, as_i, as_r, Nat.reduceAdd, Nat.reduceLeDiff, z_eq0, z_eq1, z_or, z_em, Classical.not_not, not_false_eq_true, not_true_eq_false, true_and, and_true, false_and, and_false, and_self, true_implies, false_implies, implies_true, Option.toList_some, Option.toList_none, List.cons_append, List.nil_append, Nat.add_eq_zero_iff, a_nl_i, a_nl_r, a_nl_n, true_or, or_true, eq_self, a_isRA_22, a_isRA_24, a_isRA_32, a_isA_20, ok_4, ok_5, ok_6, ok_7, ok_9, ok_20, ok_21, ok_30, ok_50, ok_180, ok_192, ok_200]
          exact hp
        ((try clear hP); (try clear hc); (try clear hu))
        rw [a_enter1 (M := a_m160) rfl (a_cat_rf (a_cat_int (a_cat_int (a_cat_int a_cat_nil)))) (show 4 ≤ 5 by decide)]
        show a_at _ (a_xm a_m160) 0 [some (a_rf C), some (.int b), some (.int s), some (.int k), none] [] _ _
        simp only [q160_0, q160_1, q160_4, q160_5, q160_8, q160_10, q160_12, q160_15, q160_16, q160_19, q160_28, q160_29, q160_32, q160_33, q160_35, k_0 hS, z_C hS, r_0_4 hS, k_14 hS, z_14, sp_benchAt hS gB, sp_isShiftC, as_nil, as_i, as_r, Nat.reduceAdd, Nat.reduceLeDiff, z_eq0, z_eq1, z_or, z_em, Classical.not_not, not_false_eq_true, not_true_eq_false, true_and, and_true, false_and, and_false, and_self, true_implies, false_implies, implies_true, Option.toList_some, Option.toList_none, List.cons_append, List.nil_append, Nat.add_eq_zero_iff, a_nl_i, a_nl_r, a_nl_n, true_or, or_true, eq_self, a_isRA_22, a_isRA_24, a_isRA_32, a_isA_20, ok_4, ok_5, ok_6, ok_7, ok_9, ok_20, ok_21, ok_30, ok_50, ok_180, ok_192, ok_200, hbc, c3, b0, kb, c4, c4']
        try simp only [true_and, and_true, true_implies, false_implies, implies_true, not_true_eq_false, not_false_eq_true]
        first
          | exact hr
          | grind
      · have c4' : 0 ≤ k := Int32.not_lt.mp c4
        rw [if_neg c4] at hP
        by_cases c5 : Y 0 0 < k
        · have c5' : ¬ k ≤ Y 0 0 := Int32.not_le.mpr c5
          rw [if_pos c5] at hP
          have hr : a_does (d + 69) 10 [a_rf C, .int (-6)] (n + 1, t, K, L, I, R) (fun r h' => a_at (d + 69) (a_xm a_m160) 56 [some (a_rf C), some (.int b), some (.int s), some (.int k), some (a_rf (R (C + 16) b.toNatClampNeg))] (r.toList ++ []) h' P) := by
            refine cr_refuse (d := d + 68) hH (fun J _ => ?_)
            have hp := hP J
            ((try clear hP); (try clear hc); (try clear hu))
            simp only [q160_56, as_nil, as_i, as_r, Nat.reduceAdd, Nat.reduceLeDiff, z_eq0, z_eq1, z_or, z_em, Classical.not_not, not_false_eq_true, not_true_eq_false, true_and, and_true, false_and, and_false, and_self, true_implies, false_implies, implies_true, Option.toList_some, Option.toList_none, List.cons_append, List.nil_append, Nat.add_eq_zero_iff, a_nl_i, a_nl_r, a_nl_n, true_or, or_true, eq_self, a_isRA_22, a_isRA_24, a_isRA_32, a_isA_20, ok_4, ok_5, ok_6, ok_7, ok_9, ok_20, ok_21, ok_30, ok_50, ok_180, ok_192, ok_200]
            exact hp
          ((try clear hP); (try clear hc); (try clear hu))
          rw [a_enter1 (M := a_m160) rfl (a_cat_rf (a_cat_int (a_cat_int (a_cat_int a_cat_nil)))) (show 4 ≤ 5 by decide)]
          show a_at _ (a_xm a_m160) 0 [some (a_rf C), some (.int b), some (.int s), some (.int k), none] [] _ _
          simp only [q160_0, q160_1, q160_4, q160_5, q160_8, q160_10, q160_12, q160_15, q160_16, q160_19, q160_28, q160_29, q160_39, q160_40, q160_41, q160_44, q160_47, q160_50, q160_51, q160_53, k_0 hS, z_C hS, r_0_4 hS, k_14 hS, z_14, r_0_0 hS, k_1 hS, z_1, sp_benchAt hS gB, sp_isShiftC, as_nil, as_i, as_r, Nat.reduceAdd, Nat.reduceLeDiff, z_eq0, z_eq1, z_or, z_em, Classical.not_not, not_false_eq_true, not_true_eq_false, true_and, and_true, false_and, and_false, and_self, true_implies, false_implies, implies_true, Option.toList_some, Option.toList_none, List.cons_append, List.nil_append, Nat.add_eq_zero_iff, a_nl_i, a_nl_r, a_nl_n, true_or, or_true, eq_self, a_isRA_22, a_isRA_24, a_isRA_32, a_isA_20, ok_4, ok_5, ok_6, ok_7, ok_9, ok_20, ok_21, ok_30, ok_50, ok_180, ok_192, ok_200, hbc, c3, b0, kb, c4, c4', e0, c5, c5']
          try simp only [true_and, and_true, true_implies, false_implies, implies_true, not_true_eq_false, not_false_eq_true]
          first
            | exact hr
            | grind
        · have c5' : k ≤ Y 0 0 := Int32.not_lt.mp c5
          rw [if_neg c5] at hP
          have hk : a_does (d + 69) 161 [a_rf (R (C + 16) b.toNatClampNeg), .int s, .int k] (n + 1, t, K, L, I, R) (fun r h' => a_at (d + 69) (a_xm a_m160) 64 [some (a_rf C), some (.int b), some (.int s), some (.int k), some (a_rf (R (C + 16) b.toNatClampNeg))] (r.toList ++ []) h' P) := by
            refine cv_knownOn (d := d + 68) kb hT c3 ?_
            have hp := hP I
            ((try clear hP); (try clear hc); (try clear hu))
            simp only [q160_64, as_nil, as_i, as_r, Nat.reduceAdd, Nat.reduceLeDiff, z_eq0, z_eq1, z_or, z_em, Classical.not_not, not_false_eq_true, not_true_eq_false, true_and, and_true, false_and, and_false, and_self, true_implies, false_implies, implies_true, Option.toList_some, Option.toList_none, List.cons_append, List.nil_append, Nat.add_eq_zero_iff, a_nl_i, a_nl_r, a_nl_n, true_or, or_true, eq_self, a_isRA_22, a_isRA_24, a_isRA_32, a_isA_20, ok_4, ok_5, ok_6, ok_7, ok_9, ok_20, ok_21, ok_30, ok_50, ok_180, ok_192, ok_200]
            exact hp
          ((try clear hP); (try clear hc); (try clear hu))
          rw [a_enter1 (M := a_m160) rfl (a_cat_rf (a_cat_int (a_cat_int (a_cat_int a_cat_nil)))) (show 4 ≤ 5 by decide)]
          show a_at _ (a_xm a_m160) 0 [some (a_rf C), some (.int b), some (.int s), some (.int k), none] [] _ _
          simp only [q160_0, q160_1, q160_4, q160_5, q160_8, q160_10, q160_12, q160_15, q160_16, q160_19, q160_28, q160_29, q160_39, q160_40, q160_41, q160_44, q160_47, q160_57, q160_59, q160_60, q160_61, k_0 hS, z_C hS, r_0_4 hS, k_14 hS, z_14, r_0_0 hS, k_1 hS, z_1, sp_benchAt hS gB, sp_isShiftC, as_nil, as_i, as_r, Nat.reduceAdd, Nat.reduceLeDiff, z_eq0, z_eq1, z_or, z_em, Classical.not_not, not_false_eq_true, not_true_eq_false, true_and, and_true, false_and, and_false, and_self, true_implies, false_implies, implies_true, Option.toList_some, Option.toList_none, List.cons_append, List.nil_append, Nat.add_eq_zero_iff, a_nl_i, a_nl_r, a_nl_n, true_or, or_true, eq_self, a_isRA_22, a_isRA_24, a_isRA_32, a_isA_20, ok_4, ok_5, ok_6, ok_7, ok_9, ok_20, ok_21, ok_30, ok_50, ok_180, ok_192, ok_200, hbc, c3, b0, kb, c4, c4', e0, c5, c5']
          try simp only [true_and, and_true, true_implies, false_implies, implies_true, not_true_eq_false, not_false_eq_true]
          first
            | exact hk
            | grind
    · have hr := hr0 (fun q => c3 q.2)
      ((try clear hP); (try clear hc); (try clear hu))
      rw [a_enter1 (M := a_m160) rfl (a_cat_rf (a_cat_int (a_cat_int (a_cat_int a_cat_nil)))) (show 4 ≤ 5 by decide)]
      show a_at _ (a_xm a_m160) 0 [some (a_rf C), some (.int b), some (.int s), some (.int k), none] [] _ _
      simp only [q160_0, q160_1, q160_4, q160_5, q160_8, q160_10, q160_12, q160_15, q160_16, q160_19, q160_22, q160_23, q160_24, k_0 hS, z_C hS, r_0_4 hS, k_14 hS, z_14, sp_benchAt hS gB, sp_isShiftC, as_nil, as_i, as_r, Nat.reduceAdd, Nat.reduceLeDiff, z_eq0, z_eq1, z_or, z_em, Classical.not_not, not_false_eq_true, not_true_eq_false, true_and, and_true, false_and, and_false, and_self, true_implies, false_implies, implies_true, Option.toList_some, Option.toList_none, List.cons_append, List.nil_append, Nat.add_eq_zero_iff, a_nl_i, a_nl_r, a_nl_n, true_or, or_true, eq_self, a_isRA_22, a_isRA_24, a_isRA_32, a_isA_20, ok_4, ok_5, ok_6, ok_7, ok_9, ok_20, ok_21, ok_30, ok_50, ok_180, ok_192, ok_200, hbc, c3, b0, kb]
      try simp only [true_and, and_true, true_implies, false_implies, implies_true, not_true_eq_false, not_false_eq_true]
      first
        | exact hr _
        | grind
  · have hbc : ¬ (0 ≤ b ∧ b < I (C + 14) 5 ∧ b < 6) := fun q => c2 ⟨q.1, by rw [← e5]; exact q.2.1⟩
    have hr := hr0 (fun q => c2 q.1)
    ((try clear hP); (try clear hc); (try clear hu))
    rw [a_enter1 (M := a_m160) rfl (a_cat_rf (a_cat_int (a_cat_int (a_cat_int a_cat_nil)))) (show 4 ≤ 5 by decide)]
    show a_at _ (a_xm a_m160) 0 [some (a_rf C), some (.int b), some (.int s), some (.int k), none] [] _ _
    simp only [q160_0, q160_1, q160_4, q160_5, q160_8, q160_10, q160_12, q160_15, q160_16, q160_19, q160_22, q160_23, q160_24, k_0 hS, z_C hS, r_0_4 hS, k_14 hS, z_14, sp_benchAt hS gB, sp_isShiftC, as_nil, as_i, as_r, Nat.reduceAdd, Nat.reduceLeDiff, z_eq0, z_eq1, z_or, z_em, Classical.not_not, not_false_eq_true, not_true_eq_false, true_and, and_true, false_and, and_false, and_self, true_implies, false_implies, implies_true, Option.toList_some, Option.toList_none, List.cons_append, List.nil_append, Nat.add_eq_zero_iff, a_nl_i, a_nl_r, a_nl_n, true_or, or_true, eq_self, a_isRA_22, a_isRA_24, a_isRA_32, a_isA_20, ok_4, ok_5, ok_6, ok_7, ok_9, ok_20, ok_21, ok_30, ok_50, ok_180, ok_192, ok_200, hbc]
    try simp only [true_and, and_true, true_implies, false_implies, implies_true, not_true_eq_false, not_false_eq_true]
    first
      | exact hr _
      | grind
end HL2
section HL3
variable {d n t M : Nat} {K L : Nat → Nat} {I I0 J J0 J1 J2 : Nat → Nat → Int32} {R : Nat → Nat → Nat} {P : Option Value → AH → Prop} {f : Nat → Int32} {e : Int32}
variable {Y Z W : Nat → Nat → Int32}
theorem lv_hadAt_7 (hS : m_S M K L R) (hR : mR M I) {b s k : Int32} (hP : P (some (.int (hdM M I (200 * b + s) k))) (n, t, K, L, I, R)) : ∀ e : Int32, e ≤ 84000 → ∀ y, 0 ≤ e → e ≤ I M 35 → hvF (I (M + 24)) (I (M + 25)) (I (M + 26)) (200 * b + s) k e.toNatClampNeg = y → a_at d (a_xm a_m257) 7 [some (a_rf M), some (.int b), some (.int s), some (.int k), some (.int y), some (.int e)] [] (n, t, K, L, I, R) P := by
  refine up_ind 84000 (fun e he ih => ?_)
  intro y h0 h9 hV
  have g1 := rg_events hR
  rw [q257_7]
  simp only [q257_9, q257_10, q257_13, m_0 hS, m_K hS, as_nil, as_i, as_r, Nat.reduceAdd, Nat.reduceLeDiff, z_eq0, z_eq1, z_or, z_em, Classical.not_not, not_false_eq_true, not_true_eq_false, true_and, and_true, false_and, and_false, and_self, true_implies, false_implies, implies_true, Option.toList_some, Option.toList_none, List.cons_append, List.nil_append, Nat.add_eq_zero_iff, a_nl_i, a_nl_r, a_nl_n, true_or, or_true, eq_self, ok_4, ok_5, ok_6, ok_7, ok_9, ok_10, ok_20, ok_21, ok_24, ok_30, ok_48, ok_50, ok_60, ok_80, ok_120, ok_180, ok_192, ok_200, ok_900, ok_1000, ok_84000]
  refine ⟨fun c1 => ?_, fun c1 => ?_⟩
  · simp only [q257_64, q257_66, as_nil, as_i, as_r, Nat.reduceAdd, Nat.reduceLeDiff, z_eq0, z_eq1, z_or, z_em, Classical.not_not, not_false_eq_true, not_true_eq_false, true_and, and_true, false_and, and_false, and_self, true_implies, false_implies, implies_true, Option.toList_some, Option.toList_none, List.cons_append, List.nil_append, Nat.add_eq_zero_iff, a_nl_i, a_nl_r, a_nl_n, true_or, or_true, eq_self, ok_4, ok_5, ok_6, ok_7, ok_9, ok_10, ok_20, ok_21, ok_24, ok_30, ok_48, ok_50, ok_60, ok_80, ok_120, ok_180, ok_192, ok_200, ok_900, ok_1000, ok_84000]
    rw [(lp_end h9 (fun w => absurd (Int32.lt_of_lt_of_le w c1) Int32.lt_irrefl)).2] at hV
    rw [← hV]
    exact hP
  · have c1' : e < I M 35 := Int32.not_le.mp c1
    obtain ⟨s1, s2, s3, s4⟩ := lp_st h0 c1'
    have e84 : e < 84000 := Int32.lt_of_lt_of_le c1' g1.2
    have e84' : 0 ≤ e ∧ e < 84000 := ⟨h0, e84⟩
    by_cases c2 : I (M + 24) e.toNatClampNeg = (200 * b + s)
    · by_cases c3 : I (M + 25) e.toNatClampNeg ≤ k
      · have c3' := Int32.not_lt.mpr c3
        have hg := ih e84 (I (M + 26) e.toNatClampNeg) s2 s3 (by rw [s4, hv_s, if_pos ⟨c2, c3⟩])
        ((try clear ih); (try clear hP); (try clear hV); (try clear s1); (try clear s2); (try clear s3); (try clear s4))
        simp only [q257_16, q257_17, q257_20, q257_22, q257_23, q257_26, q257_27, q257_28, q257_29, q257_30, q257_33, q257_34, q257_37, q257_39, q257_40, q257_41, q257_44, q257_45, q257_48, q257_50, q257_51, q257_54, q257_56, q257_58, q257_61, m_0 hS, m_K hS, mR_eWhere hS, mK_eWhere hS, mL_eWhere hS, mR_eHour hS, mK_eHour hS, mL_eHour hS, mR_eAsk hS, mK_eAsk hS, mL_eAsk hS, as_nil, as_i, as_r, Nat.reduceAdd, Nat.reduceLeDiff, z_eq0, z_eq1, z_or, z_em, Classical.not_not, not_false_eq_true, not_true_eq_false, true_and, and_true, false_and, and_false, and_self, true_implies, false_implies, implies_true, Option.toList_some, Option.toList_none, List.cons_append, List.nil_append, Nat.add_eq_zero_iff, a_nl_i, a_nl_r, a_nl_n, true_or, or_true, eq_self, ok_4, ok_5, ok_6, ok_7, ok_9, ok_10, ok_20, ok_21, ok_24, ok_30, ok_48, ok_50, ok_60, ok_80, ok_120, ok_180, ok_192, ok_200, ok_900, ok_1000, ok_84000, e84', c2, c3, c3']
        try simp only [true_and, and_true, true_implies, false_implies, implies_true, not_true_eq_false, not_false_eq_true]
        first
          | exact hg
          | grind
      · have c3' := Int32.not_le.mp c3
        have hg := ih e84 y s2 s3 (by rw [s4, hv_s, if_neg (fun q => c3 q.2)]; exact hV)
        ((try clear ih); (try clear hP); (try clear hV); (try clear s1); (try clear s2); (try clear s3); (try clear s4))
        simp only [q257_16, q257_17, q257_20, q257_22, q257_23, q257_26, q257_27, q257_28, q257_29, q257_30, q257_33, q257_34, q257_37, q257_39, q257_40, q257_41, q257_44, q257_45, q257_48, q257_50, q257_51, q257_54, q257_56, q257_58, q257_61, m_0 hS, m_K hS, mR_eWhere hS, mK_eWhere hS, mL_eWhere hS, mR_eHour hS, mK_eHour hS, mL_eHour hS, mR_eAsk hS, mK_eAsk hS, mL_eAsk hS, as_nil, as_i, as_r, Nat.reduceAdd, Nat.reduceLeDiff, z_eq0, z_eq1, z_or, z_em, Classical.not_not, not_false_eq_true, not_true_eq_false, true_and, and_true, false_and, and_false, and_self, true_implies, false_implies, implies_true, Option.toList_some, Option.toList_none, List.cons_append, List.nil_append, Nat.add_eq_zero_iff, a_nl_i, a_nl_r, a_nl_n, true_or, or_true, eq_self, ok_4, ok_5, ok_6, ok_7, ok_9, ok_10, ok_20, ok_21, ok_24, ok_30, ok_48, ok_50, ok_60, ok_80, ok_120, ok_180, ok_192, ok_200, ok_900, ok_1000, ok_84000, e84', c2, c3, c3']
        try simp only [true_and, and_true, true_implies, false_implies, implies_true, not_true_eq_false, not_false_eq_true]
        first
          | exact hg
          | grind
    · have c2' : ¬ (200 * b + s) = I (M + 24) e.toNatClampNeg := fun q => c2 q.symm
      have hg := ih e84 y s2 s3 (by rw [s4, hv_s, if_neg (fun q => c2 q.1)]; exact hV)
      ((try clear ih); (try clear hP); (try clear hV); (try clear s1); (try clear s2); (try clear s3); (try clear s4))
      simp only [q257_16, q257_17, q257_20, q257_22, q257_23, q257_26, q257_27, q257_28, q257_29, q257_30, q257_33, q257_34, q257_37, q257_39, q257_40, q257_41, q257_44, q257_45, q257_48, q257_50, q257_51, q257_54, q257_56, q257_58, q257_61, m_0 hS, m_K hS, mR_eWhere hS, mK_eWhere hS, mL_eWhere hS, mR_eHour hS, mK_eHour hS, mL_eHour hS, mR_eAsk hS, mK_eAsk hS, mL_eAsk hS, as_nil, as_i, as_r, Nat.reduceAdd, Nat.reduceLeDiff, z_eq0, z_eq1, z_or, z_em, Classical.not_not, not_false_eq_true, not_true_eq_false, true_and, and_true, false_and, and_false, and_self, true_implies, false_implies, implies_true, Option.toList_some, Option.toList_none, List.cons_append, List.nil_append, Nat.add_eq_zero_iff, a_nl_i, a_nl_r, a_nl_n, true_or, or_true, eq_self, ok_4, ok_5, ok_6, ok_7, ok_9, ok_10, ok_20, ok_21, ok_24, ok_30, ok_48, ok_50, ok_60, ok_80, ok_120, ok_180, ok_192, ok_200, ok_900, ok_1000, ok_84000, e84', c2, c2']
      try simp only [true_and, and_true, true_implies, false_implies, implies_true, not_true_eq_false, not_false_eq_true]
      first
        | exact hg
        | grind
theorem xv_hadAt (hS : m_S M K L R) (hR : mR M I) {b s k : Int32} (hP : P (some (.int (hdM M I (200 * b + s) k))) (n, t, K, L, I, R)) : a_does (d + 1) 257 [a_rf M, .int b, .int s, .int k] (n, t, K, L, I, R) P := by
  have g1 := rg_events hR
  have hl := lv_hadAt_7 (d := d) hS hR hP 0 (by decide) (-9) (by decide) g1.1 rfl
  ((try clear hP))
  rw [a_enter1 (M := a_m257) rfl (a_cat_rf (a_cat_int (a_cat_int (a_cat_int a_cat_nil)))) (show 4 ≤ 6 by decide)]
  show a_at _ (a_xm a_m257) 0 [some (a_rf M), some (.int b), some (.int s), some (.int k), none, none] [] _ _
  simp only [q257_0, q257_2, q257_4, q257_5, as_nil, as_i, as_r, Nat.reduceAdd, Nat.reduceLeDiff, z_eq0, z_eq1, z_or, z_em, Classical.not_not, not_false_eq_true, not_true_eq_false, true_and, and_true, false_and, and_false, and_self, true_implies, false_implies, implies_true, Option.toList_some, Option.toList_none, List.cons_append, List.nil_append, Nat.add_eq_zero_iff, a_nl_i, a_nl_r, a_nl_n, true_or, or_true, eq_self, ok_4, ok_5, ok_6, ok_7, ok_9, ok_10, ok_20, ok_21, ok_24, ok_30, ok_48, ok_50, ok_60, ok_80, ok_120, ok_180, ok_192, ok_200, ok_900, ok_1000, ok_84000]
  exact hl
theorem xv_had (hS : m_S M K L R) (hm : okY Y) (hg : gs M I0 I Y) {b s k : Int32} (hP : ∀ J, P (some (.int (haW Y (hdR M I) b s k))) (n, t, K, L, J, R)) : a_does (d + 16) 256 [a_rf M, .int b, .int s, .int k] (n, t, K, L, I, R) P := by
  have hy := hm.1
  have hR := hg.1
  have h17 := hy.2.2.2.2.1
  have h10 := hy.2.1
  have h6 := hy.2.2.2.2.2.1
  have hl := hy.2.2.1
  have e17 : I M 17 = Y 0 17 := hg.2.2.1 0 17 (by unfold ps1; omega)
  have e6 : I M 6 = Y 0 6 := hg.2.2.1 0 6 (by unfold ps1; omega)
  have e0 : I M 0 = Y 0 0 := hg.2.2.1 0 0 (by unfold ps1; omega)
  have m17 : ∀ x : Int32, (x ≤ Y 0 17 - 1) = (x < Y 0 17) := fun x => le_m1 h17
  have m6 : ∀ x : Int32, (x ≤ Y 0 6 - 1) = (x < Y 0 6) := fun x => le_m1 ⟨h6.1, Int32.le_trans h6.2 (by decide)⟩
  have m199 : ∀ x : Int32, (x ≤ 199) = (x < 200) := le_199
  unfold haW at hP
  by_cases c : (0 ≤ b ∧ b < Y 0 6) ∧ (0 ≤ s ∧ s < 200)
  · rw [if_neg (fun q => q c)] at hP
    by_cases c4 : k < 0
    · have c4' : ¬ 0 ≤ k := Int32.not_le.mpr c4
      rw [if_pos c4] at hP
      have hr := hP (a_ui I (M + 23) 4 (I (M + 23) 4 + 1))
      ((try clear hP); (try clear hm); (try clear hy); (try clear hl); (try clear hg))
      rw [a_enter1 (M := a_m256) rfl (a_cat_rf (a_cat_int (a_cat_int (a_cat_int a_cat_nil)))) (show 4 ≤ 4 by decide)]
      show a_at _ (a_xm a_m256) 0 [some (a_rf M), some (.int b), some (.int s), some (.int k)] [] _ _
      simp only [q256_0, q256_1, q256_2, q256_5, q256_8, q256_9, q256_12, q256_21, q256_22, q256_25, q256_26, q256_28, q256_31, m_0 hS, m_K hS, sp_isBench hS, sp_isShift, sp_refuse_1 hS, sp_refuse_2 hS, sp_refuse_3 hS, sp_refuse_4 hS, sp_refuse_5 hS, sp_refuse_6 hS, as_nil, as_i, as_r, Nat.reduceAdd, Nat.reduceLeDiff, z_eq0, z_eq1, z_or, z_em, Classical.not_not, not_false_eq_true, not_true_eq_false, true_and, and_true, false_and, and_false, and_self, true_implies, false_implies, implies_true, Option.toList_some, Option.toList_none, List.cons_append, List.nil_append, Nat.add_eq_zero_iff, a_nl_i, a_nl_r, a_nl_n, true_or, or_true, eq_self, ok_4, ok_5, ok_6, ok_7, ok_9, ok_10, ok_20, ok_21, ok_24, ok_30, ok_48, ok_50, ok_60, ok_80, ok_120, ok_180, ok_192, ok_200, ok_900, ok_1000, ok_84000, e6, m6, m199, c, c4, c4']
      try simp only [true_and, and_true, true_implies, false_implies, implies_true, not_true_eq_false, not_false_eq_true]
      first
        | exact hr
        | grind
    · have c4' : 0 ≤ k := Int32.not_lt.mp c4
      rw [if_neg c4] at hP
      by_cases c5 : Y 0 0 < k
      · have c5' : ¬ k ≤ Y 0 0 := Int32.not_le.mpr c5
        rw [if_pos c5] at hP
        have hr := hP (a_ui I (M + 23) 6 (I (M + 23) 6 + 1))
        ((try clear hP); (try clear hm); (try clear hy); (try clear hl); (try clear hg))
        rw [a_enter1 (M := a_m256) rfl (a_cat_rf (a_cat_int (a_cat_int (a_cat_int a_cat_nil)))) (show 4 ≤ 4 by decide)]
        show a_at _ (a_xm a_m256) 0 [some (a_rf M), some (.int b), some (.int s), some (.int k)] [] _ _
        simp only [q256_0, q256_1, q256_2, q256_5, q256_8, q256_9, q256_12, q256_21, q256_22, q256_32, q256_33, q256_34, q256_37, q256_40, q256_41, q256_43, q256_46, q256_56, m_0 hS, m_K hS, sp_isBench hS, sp_isShift, sp_refuse_1 hS, sp_refuse_2 hS, sp_refuse_3 hS, sp_refuse_4 hS, sp_refuse_5 hS, sp_refuse_6 hS, as_nil, as_i, as_r, Nat.reduceAdd, Nat.reduceLeDiff, z_eq0, z_eq1, z_or, z_em, Classical.not_not, not_false_eq_true, not_true_eq_false, true_and, and_true, false_and, and_false, and_self, true_implies, false_implies, implies_true, Option.toList_some, Option.toList_none, List.cons_append, List.nil_append, Nat.add_eq_zero_iff, a_nl_i, a_nl_r, a_nl_n, true_or, or_true, eq_self, ok_4, ok_5, ok_6, ok_7, ok_9, ok_10, ok_20, ok_21, ok_24, ok_30, ok_48, ok_50, ok_60, ok_80, ok_120, ok_180, ok_192, ok_200, ok_900, ok_1000, ok_84000, e6, m6, m199, e0, c, c4, c4', c5, c5']
        try simp only [true_and, and_true, true_implies, false_implies, implies_true, not_true_eq_false, not_false_eq_true]
        first
          | exact hr
          | grind
      · have c5' : k ≤ Y 0 0 := Int32.not_lt.mp c5
        rw [if_neg c5] at hP
        have hcl : a_does (d + 15) 257 [a_rf M, .int b, .int s, .int k] (n, t, K, L, I, R) (fun r h' => a_at (d + 15) (a_xm a_m256) 56 [some (a_rf M), some (.int b), some (.int s), some (.int k)] (r.toList ++ []) h' P) := by
          refine xv_hadAt (d := d + 14) hS hR ?_
          have hp := hP I
          ((try clear hP); (try clear hm); (try clear hy); (try clear hl); (try clear hg))
          simp only [q256_56, as_nil, as_i, as_r, Nat.reduceAdd, Nat.reduceLeDiff, z_eq0, z_eq1, z_or, z_em, Classical.not_not, not_false_eq_true, not_true_eq_false, true_and, and_true, false_and, and_false, and_self, true_implies, false_implies, implies_true, Option.toList_some, Option.toList_none, List.cons_append, List.nil_append, Nat.add_eq_zero_iff, a_nl_i, a_nl_r, a_nl_n, true_or, or_true, eq_self, ok_4, ok_5, ok_6, ok_7, ok_9, ok_10, ok_20, ok_21, ok_24, ok_30, ok_48, ok_50, ok_60, ok_80, ok_120, ok_180, ok_192, ok_200, ok_900, ok_1000, ok_84000]
          exact hp
        ((try clear hP); (try clear hm); (try clear hy); (try clear hl); (try clear hg))
        rw [a_enter1 (M := a_m256) rfl (a_cat_rf (a_cat_int (a_cat_int (a_cat_int a_cat_nil)))) (show 4 ≤ 4 by decide)]
        show a_at _ (a_xm a_m256) 0 [some (a_rf M), some (.int b), some (.int s), some (.int k)] [] _ _
        simp only [q256_0, q256_1, q256_2, q256_5, q256_8, q256_9, q256_12, q256_21, q256_22, q256_32, q256_33, q256_34, q256_37, q256_49, q256_50, q256_51, q256_52, q256_53, m_0 hS, m_K hS, sp_isBench hS, sp_isShift, as_nil, as_i, as_r, Nat.reduceAdd, Nat.reduceLeDiff, z_eq0, z_eq1, z_or, z_em, Classical.not_not, not_false_eq_true, not_true_eq_false, true_and, and_true, false_and, and_false, and_self, true_implies, false_implies, implies_true, Option.toList_some, Option.toList_none, List.cons_append, List.nil_append, Nat.add_eq_zero_iff, a_nl_i, a_nl_r, a_nl_n, true_or, or_true, eq_self, ok_4, ok_5, ok_6, ok_7, ok_9, ok_10, ok_20, ok_21, ok_24, ok_30, ok_48, ok_50, ok_60, ok_80, ok_120, ok_180, ok_192, ok_200, ok_900, ok_1000, ok_84000, e6, m6, m199, e0, c, c4, c4', c5, c5']
        try simp only [true_and, and_true, true_implies, false_implies, implies_true, not_true_eq_false, not_false_eq_true]
        first
          | exact hcl
          | grind
  · rw [if_pos c] at hP
    have hr := hP (a_ui I (M + 23) 1 (I (M + 23) 1 + 1))
    ((try clear hP); (try clear hm); (try clear hy); (try clear hl); (try clear hg))
    rw [a_enter1 (M := a_m256) rfl (a_cat_rf (a_cat_int (a_cat_int (a_cat_int a_cat_nil)))) (show 4 ≤ 4 by decide)]
    show a_at _ (a_xm a_m256) 0 [some (a_rf M), some (.int b), some (.int s), some (.int k)] [] _ _
    simp only [q256_0, q256_1, q256_2, q256_5, q256_8, q256_9, q256_12, q256_15, q256_16, q256_17, q256_20, m_0 hS, m_K hS, sp_isBench hS, sp_isShift, sp_refuse_1 hS, sp_refuse_2 hS, sp_refuse_3 hS, sp_refuse_4 hS, sp_refuse_5 hS, sp_refuse_6 hS, as_nil, as_i, as_r, Nat.reduceAdd, Nat.reduceLeDiff, z_eq0, z_eq1, z_or, z_em, Classical.not_not, not_false_eq_true, not_true_eq_false, true_and, and_true, false_and, and_false, and_self, true_implies, false_implies, implies_true, Option.toList_some, Option.toList_none, List.cons_append, List.nil_append, Nat.add_eq_zero_iff, a_nl_i, a_nl_r, a_nl_n, true_or, or_true, eq_self, ok_4, ok_5, ok_6, ok_7, ok_9, ok_10, ok_20, ok_21, ok_24, ok_30, ok_48, ok_50, ok_60, ok_80, ok_120, ok_180, ok_192, ok_200, ok_900, ok_1000, ok_84000, e6, m6, m199]
    try simp only [true_and, and_true, true_implies, false_implies, implies_true, not_true_eq_false, not_false_eq_true]
    by_cases q1 : 0 ≤ b ∧ b < Y 0 6
    · have q3 : ¬ (0 ≤ s ∧ s < 200) := fun q => c ⟨q1, q⟩
      simp only [q1, q3]
      try simp only [true_and, and_true, true_implies, false_implies, implies_true, not_true_eq_false, not_false_eq_true]
      first
        | exact hr
        | grind
    · simp only [q1]
      try simp only [true_and, and_true, true_implies, false_implies, implies_true, not_true_eq_false, not_false_eq_true]
      first
        | exact hr
        | grind
end HL3
section HL4
variable {d n t C c : Nat} {K L : Nat → Nat} {I I0 J J0 J1 J2 : Nat → Nat → Int32} {R : Nat → Nat → Nat} {P : Option Value → AH → Prop}
variable {Y Z W : Nat → Nat → Int32} {b n' t' c' m m' : Nat} {K' L' : Nat → Nat} {R' R1 R2 : Nat → Nat → Nat}
theorem ha_e (h : hcG C m J R Y) {u1 u2 u3 : Int32} : haW Y (hdC C J R) u1 u2 u3 = haW Y (hdR (C + 44) J) u1 u2 u3 := by
  unfold haW
  split
  · rfl
  · next c =>
    have c := Classical.not_not.mp c
    rw [(h.2.2.2.1 u1 u2 c.1 c.2).1 u3]
theorem ca9_had {u1 u2 u3 : Int32} (hb : b < C) (hc : 120 * c + 130 ≤ 62000) (h : lawH b C c n t K L J R) (hP : ∀ n2 t2 K2 L2 J2 R2, aNx b C c n2 t2 K2 L2 J2 R2 (yv (C + 44) J) ((yv (C + 44) J)) → hcG C (30 * c + 30) J2 R2 ((yv (C + 44) J)) → P (some (.int (haW (yv (C + 44) J) (hdR (C + 44) J2) u1 u2 u3))) (n2 + 1, t2, K2, L2, J2, R2)) : a_does 700 160 [a_rf C, .int u1, .int u2, .int u3] (n + 1, t, K, L, J, R) P := by
  refine does_mono (does_and (does_and (cdh_had (P := fun _ h' => ∃ n2 t2 K2 L2 J2 R2, h' = (n2 + 1, t2, K2, L2, J2, R2) ∧ aNx b C c n2 t2 K2 L2 J2 R2 (yv (C + 44) J) ((yv (C + 44) J)) ∧ hcG C (30 * c + 30) J2 R2 ((yv (C + 44) J))) hb hc h (fun _ n2 t2 K2 L2 J2 R2 hx g => ⟨n2, t2, K2, L2, J2, R2, rfl, hx, g⟩)) (kf_had h.1.1)) (cv_had (P := fun r _ => r = some (.int (haW (yv (C + 44) J) (hdC C J R) u1 u2 u3))) h.1.1 h.1.2.2.2.2.2.1 (fun _ => rfl))) (fun r h' q => ?_)
  obtain ⟨⟨⟨n2, t2, K2, L2, J2, R2, e1, hx, g⟩, w⟩, e2⟩ := q
  rw [e1] at w ⊢
  rw [e2, ha_e h.2, ← (mR_same (cF_in w).2.2.2).1]
  exact hP _ _ _ _ _ _ hx g
theorem ra9_had {u1 u2 u3 : Int32} (hx : aNx b C c n t K L J R Y (Y)) (hc : 120 * c + 130 ≤ 62000) (g : hcG C (30 * c + 30) J R (Y)) (hP : ∀ J3, lawH b C (c + 1) n t K L J3 R → P (some (.int (haW Y (hdR (C + 44) J) u1 u2 u3))) (n + 1, t, K, L, J3, R)) : a_does 700 256 [a_rf (C + 44), .int u1, .int u2, .int u3] (n + 1, t, K, L, J, R) P := by
  refine does_mono (does_and (rdh_had (P := fun _ h' => ∃ J3, h' = (n + 1, t, K, L, J3, R) ∧ lawH b C (c + 1) n t K L J3 R) hx hc g (fun _ J3 hI => ⟨J3, rfl, hI⟩)) (xv_had (P := fun r _ => r = some (.int (haW Y (hdR (C + 44) J) u1 u2 u3))) hx.1.2.1 hx.2.2.1 hx.2.1 (fun _ => rfl))) (fun r h' q => ?_)
  obtain ⟨⟨J3, e1, hI⟩, e2⟩ := q
  rw [e1, e2]
  exact hP _ hI
end HL4

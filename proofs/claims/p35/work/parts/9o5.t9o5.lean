/-! what was had: had, lead, check, told -/
def leW (Y : Nat → Nat → Int32) (ld : Int32 → Int32 → Int32) (b s : Int32) : Int32 := if ¬ ((0 ≤ b ∧ b < Y 0 6) ∧ (0 ≤ s ∧ s < 200)) then -1 else ld b s
section HL0
variable {g f g' f' : Nat → Int32}
end HL0
section HL1
variable {d n t C : Nat} {K L : Nat → Nat} {I I0 J J0 J1 J2 : Nat → Nat → Int32} {R : Nat → Nat → Nat} {P : Option Value → AH → Prop}
end HL1
section HL2
variable {d n t C c : Nat} {K L : Nat → Nat} {I I0 J J0 J1 J2 : Nat → Nat → Int32} {R : Nat → Nat → Nat} {P : Option Value → AH → Prop}
variable {Y Z W : Nat → Nat → Int32}
theorem cv_lead (hH : cH C c (n + 1) t K L I R) (hu : cuP C K L I R Y) {b s : Int32} (hP : ∀ J, P (some (.int (leW Y (ldC C I R) b s))) (n + 1, t, K, L, J, R)) : a_does (d + 70) 162 [a_rf C, .int b, .int s] (n + 1, t, K, L, I, R) P := by
  have hT := hH.1
  have hS := hT.s
  have gA := hT.g_asksR
  have gB := hT.g_benchesR
  have gX := hT.g_textsR
  have hc := hu.1
  have h17 := hc.2.2.2.2.2.2.2.2.1
  have e4 : I (C + 14) 4 = Y 0 17 := hc.2.2.1.1
  have h6 := hc.2.2.2.2.2.2.2.2.2.1
  have e5 : I (C + 14) 5 = Y 0 6 := hc.2.1.1
  have e0 : I (C + 1) 6 = Y 0 0 := hc.1.1
  unfold leW at hP
  have hr0 : ¬ ((0 ≤ b ∧ b < Y 0 6) ∧ (0 ≤ s ∧ s < 200)) → ∀ x, a_does (d + 69) 10 [a_rf C, .int (-1)] (n + 1, t, K, L, I, R) (fun r h' => a_at (d + 69) (a_xm a_m162) 25 [some (a_rf C), some (.int b), some (.int s), x] (r.toList ++ []) h' P) := fun q x => by
    rw [if_pos q] at hP
    refine cr_refuse (d := d + 68) hH (fun J _ => ?_)
    have hp := hP J
    ((try clear hP); (try clear hc); (try clear hu))
    simp only [q162_25, as_nil, as_i, as_r, Nat.reduceAdd, Nat.reduceLeDiff, z_eq0, z_eq1, z_or, z_em, Classical.not_not, not_false_eq_true, not_true_eq_false, true_and, and_true, false_and, and_false, and_self, true_implies, false_implies, implies_true, Option.toList_some, Option.toList_none, List.cons_append, List.nil_append, Nat.add_eq_zero_iff, a_nl_i, a_nl_r, a_nl_n, true_or, or_true, eq_self, a_isRA_22, a_isRA_24, a_isRA_32, a_isA_20, ok_4, ok_5, ok_6, ok_7, ok_9, ok_20, ok_21, ok_30, ok_50, ok_180, ok_192, ok_200]
    exact hp
  by_cases c2 : 0 ≤ b ∧ b < Y 0 6
  · have hbc : 0 ≤ b ∧ b < I (C + 14) 5 ∧ b < 6 := ⟨c2.1, by rw [e5]; exact c2.2, Int32.lt_of_lt_of_le c2.2 h6.2⟩
    obtain ⟨kb, kb0, -⟩ := hc.2.1.2.2.1 b c2.1 c2.2
    have b0 : (R (C + 16) b.toNatClampNeg = 0) = False := eq_false kb0
    by_cases c3 : 0 ≤ s ∧ s < 200
    · rw [if_neg (fun q => q ⟨c2, c3⟩)] at hP
      ((try clear hr0))
      obtain ⟨-, -, -, ⟨w1, w2, w3⟩, -⟩ := hT.g_bnc _ kb
      have w0 : (R (R (C + 16) b.toNatClampNeg) 4 = 0) = False := eq_false (by omega)
      have hp := hP I
      unfold ldC chC at hp
      ((try clear hP); (try clear hc); (try clear hu))
      rw [a_enter1 (M := a_m162) rfl (a_cat_rf (a_cat_int (a_cat_int a_cat_nil))) (show 3 ≤ 4 by decide)]
      show a_at _ (a_xm a_m162) 0 [some (a_rf C), some (.int b), some (.int s), none] [] _ _
      simp only [q162_0, q162_1, q162_4, q162_5, q162_8, q162_9, q162_10, q162_13, q162_14, q162_17, q162_26, q162_27, q162_30, q162_31, q162_32, k_0 hS, z_C hS, r_0_4 hS, k_14 hS, z_14, sp_benchAt hS gB, sp_isShiftC, as_nil, as_i, as_r, Nat.reduceAdd, Nat.reduceLeDiff, z_eq0, z_eq1, z_or, z_em, Classical.not_not, not_false_eq_true, not_true_eq_false, true_and, and_true, false_and, and_false, and_self, true_implies, false_implies, implies_true, Option.toList_some, Option.toList_none, List.cons_append, List.nil_append, Nat.add_eq_zero_iff, a_nl_i, a_nl_r, a_nl_n, true_or, or_true, eq_self, a_isRA_22, a_isRA_24, a_isRA_32, a_isA_20, ok_4, ok_5, ok_6, ok_7, ok_9, ok_20, ok_21, ok_30, ok_50, ok_180, ok_192, ok_200, hbc, c3, b0, kb, w0, w2, w3]
      try simp only [true_and, and_true, true_implies, false_implies, implies_true, not_true_eq_false, not_false_eq_true]
      first
        | exact hp
        | grind
    · have hr := hr0 (fun q => c3 q.2)
      ((try clear hP); (try clear hc); (try clear hu))
      rw [a_enter1 (M := a_m162) rfl (a_cat_rf (a_cat_int (a_cat_int a_cat_nil))) (show 3 ≤ 4 by decide)]
      show a_at _ (a_xm a_m162) 0 [some (a_rf C), some (.int b), some (.int s), none] [] _ _
      simp only [q162_0, q162_1, q162_4, q162_5, q162_8, q162_9, q162_10, q162_13, q162_14, q162_17, q162_20, q162_21, q162_22, k_0 hS, z_C hS, r_0_4 hS, k_14 hS, z_14, sp_benchAt hS gB, sp_isShiftC, as_nil, as_i, as_r, Nat.reduceAdd, Nat.reduceLeDiff, z_eq0, z_eq1, z_or, z_em, Classical.not_not, not_false_eq_true, not_true_eq_false, true_and, and_true, false_and, and_false, and_self, true_implies, false_implies, implies_true, Option.toList_some, Option.toList_none, List.cons_append, List.nil_append, Nat.add_eq_zero_iff, a_nl_i, a_nl_r, a_nl_n, true_or, or_true, eq_self, a_isRA_22, a_isRA_24, a_isRA_32, a_isA_20, ok_4, ok_5, ok_6, ok_7, ok_9, ok_20, ok_21, ok_30, ok_50, ok_180, ok_192, ok_200, hbc, c3, b0, kb]
      try simp only [true_and, and_true, true_implies, false_implies, implies_true, not_true_eq_false, not_false_eq_true]
      first
        | exact hr _
        | grind
  · have hbc : ¬ (0 ≤ b ∧ b < I (C + 14) 5 ∧ b < 6) := fun q => c2 ⟨q.1, by rw [← e5]; exact q.2.1⟩
    have hr := hr0 (fun q => c2 q.1)
    ((try clear hP); (try clear hc); (try clear hu))
    rw [a_enter1 (M := a_m162) rfl (a_cat_rf (a_cat_int (a_cat_int a_cat_nil))) (show 3 ≤ 4 by decide)]
    show a_at _ (a_xm a_m162) 0 [some (a_rf C), some (.int b), some (.int s), none] [] _ _
    simp only [q162_0, q162_1, q162_4, q162_5, q162_8, q162_9, q162_10, q162_13, q162_14, q162_17, q162_20, q162_21, q162_22, k_0 hS, z_C hS, r_0_4 hS, k_14 hS, z_14, sp_benchAt hS gB, sp_isShiftC, as_nil, as_i, as_r, Nat.reduceAdd, Nat.reduceLeDiff, z_eq0, z_eq1, z_or, z_em, Classical.not_not, not_false_eq_true, not_true_eq_false, true_and, and_true, false_and, and_false, and_self, true_implies, false_implies, implies_true, Option.toList_some, Option.toList_none, List.cons_append, List.nil_append, Nat.add_eq_zero_iff, a_nl_i, a_nl_r, a_nl_n, true_or, or_true, eq_self, a_isRA_22, a_isRA_24, a_isRA_32, a_isA_20, ok_4, ok_5, ok_6, ok_7, ok_9, ok_20, ok_21, ok_30, ok_50, ok_180, ok_192, ok_200, hbc]
    try simp only [true_and, and_true, true_implies, false_implies, implies_true, not_true_eq_false, not_false_eq_true]
    first
      | exact hr _
      | grind
end HL2
section HL3
variable {d n t M : Nat} {K L : Nat → Nat} {I I0 J J0 J1 J2 : Nat → Nat → Int32} {R : Nat → Nat → Nat} {P : Option Value → AH → Prop} {f : Nat → Int32} {e : Int32}
variable {Y Z W : Nat → Nat → Int32}
theorem lv_lead_27 (hS : m_S M K L R) (hR : mR M I) {b s : Int32} (hP : P (some (.int (ldM M I (200 * b + s)))) (n, t, K, L, I, R)) : ∀ e : Int32, e ≤ 84000 → ∀ y, 0 ≤ e → e ≤ I M 35 → hlF (I (M + 24)) (I (M + 25)) (200 * b + s) e.toNatClampNeg = y → a_at d (a_xm a_m258) 27 [some (a_rf M), some (.int b), some (.int s), some (.int y), some (.int e)] [] (n, t, K, L, I, R) P := by
  refine up_ind 84000 (fun e he ih => ?_)
  intro y h0 h9 hV
  have g1 := rg_events hR
  rw [q258_27]
  simp only [q258_29, q258_30, q258_33, m_0 hS, m_K hS, as_nil, as_i, as_r, Nat.reduceAdd, Nat.reduceLeDiff, z_eq0, z_eq1, z_or, z_em, Classical.not_not, not_false_eq_true, not_true_eq_false, true_and, and_true, false_and, and_false, and_self, true_implies, false_implies, implies_true, Option.toList_some, Option.toList_none, List.cons_append, List.nil_append, Nat.add_eq_zero_iff, a_nl_i, a_nl_r, a_nl_n, true_or, or_true, eq_self, ok_4, ok_5, ok_6, ok_7, ok_9, ok_10, ok_20, ok_21, ok_24, ok_30, ok_48, ok_50, ok_60, ok_80, ok_120, ok_180, ok_192, ok_200, ok_900, ok_1000, ok_84000]
  refine ⟨fun c1 => ?_, fun c1 => ?_⟩
  · simp only [q258_71, q258_72, as_nil, as_i, as_r, Nat.reduceAdd, Nat.reduceLeDiff, z_eq0, z_eq1, z_or, z_em, Classical.not_not, not_false_eq_true, not_true_eq_false, true_and, and_true, false_and, and_false, and_self, true_implies, false_implies, implies_true, Option.toList_some, Option.toList_none, List.cons_append, List.nil_append, Nat.add_eq_zero_iff, a_nl_i, a_nl_r, a_nl_n, true_or, or_true, eq_self, ok_4, ok_5, ok_6, ok_7, ok_9, ok_10, ok_20, ok_21, ok_24, ok_30, ok_48, ok_50, ok_60, ok_80, ok_120, ok_180, ok_192, ok_200, ok_900, ok_1000, ok_84000]
    rw [(lp_end h9 (fun w => absurd (Int32.lt_of_lt_of_le w c1) Int32.lt_irrefl)).2] at hV
    rw [← hV]
    exact hP
  · have c1' : e < I M 35 := Int32.not_le.mp c1
    obtain ⟨s1, s2, s3, s4⟩ := lp_st h0 c1'
    have e84 : e < 84000 := Int32.lt_of_lt_of_le c1' g1.2
    have e84' : 0 ≤ e ∧ e < 84000 := ⟨h0, e84⟩
    by_cases c2 : I (M + 24) e.toNatClampNeg = (200 * b + s)
    · have hg := ih e84 (I (M + 25) e.toNatClampNeg) s2 s3 (by rw [s4, hl_s, if_pos c2])
      ((try clear ih); (try clear hP); (try clear hV); (try clear s1); (try clear s2); (try clear s3); (try clear s4))
      simp only [q258_36, q258_37, q258_40, q258_42, q258_43, q258_46, q258_47, q258_48, q258_49, q258_50, q258_53, q258_54, q258_57, q258_59, q258_60, q258_63, q258_64, q258_65, q258_68, m_0 hS, m_K hS, mR_eWhere hS, mK_eWhere hS, mL_eWhere hS, mR_eHour hS, mK_eHour hS, mL_eHour hS, as_nil, as_i, as_r, Nat.reduceAdd, Nat.reduceLeDiff, z_eq0, z_eq1, z_or, z_em, Classical.not_not, not_false_eq_true, not_true_eq_false, true_and, and_true, false_and, and_false, and_self, true_implies, false_implies, implies_true, Option.toList_some, Option.toList_none, List.cons_append, List.nil_append, Nat.add_eq_zero_iff, a_nl_i, a_nl_r, a_nl_n, true_or, or_true, eq_self, ok_4, ok_5, ok_6, ok_7, ok_9, ok_10, ok_20, ok_21, ok_24, ok_30, ok_48, ok_50, ok_60, ok_80, ok_120, ok_180, ok_192, ok_200, ok_900, ok_1000, ok_84000, e84', c2]
      try simp only [true_and, and_true, true_implies, false_implies, implies_true, not_true_eq_false, not_false_eq_true]
      first
        | exact hg
        | grind
    · have c2' : ¬ (200 * b + s) = I (M + 24) e.toNatClampNeg := fun q => c2 q.symm
      have hg := ih e84 y s2 s3 (by rw [s4, hl_s, if_neg c2]; exact hV)
      ((try clear ih); (try clear hP); (try clear hV); (try clear s1); (try clear s2); (try clear s3); (try clear s4))
      simp only [q258_36, q258_37, q258_40, q258_42, q258_43, q258_46, q258_47, q258_48, q258_49, q258_50, q258_53, q258_54, q258_57, q258_59, q258_60, q258_63, q258_64, q258_65, q258_68, m_0 hS, m_K hS, mR_eWhere hS, mK_eWhere hS, mL_eWhere hS, mR_eHour hS, mK_eHour hS, mL_eHour hS, as_nil, as_i, as_r, Nat.reduceAdd, Nat.reduceLeDiff, z_eq0, z_eq1, z_or, z_em, Classical.not_not, not_false_eq_true, not_true_eq_false, true_and, and_true, false_and, and_false, and_self, true_implies, false_implies, implies_true, Option.toList_some, Option.toList_none, List.cons_append, List.nil_append, Nat.add_eq_zero_iff, a_nl_i, a_nl_r, a_nl_n, true_or, or_true, eq_self, ok_4, ok_5, ok_6, ok_7, ok_9, ok_10, ok_20, ok_21, ok_24, ok_30, ok_48, ok_50, ok_60, ok_80, ok_120, ok_180, ok_192, ok_200, ok_900, ok_1000, ok_84000, e84', c2, c2']
      try simp only [true_and, and_true, true_implies, false_implies, implies_true, not_true_eq_false, not_false_eq_true]
      first
        | exact hg
        | grind
theorem xv_lead (hS : m_S M K L R) (hm : okY Y) (hg : gs M I0 I Y) {b s : Int32} (hP : ∀ J, P (some (.int (leW Y (ldR M I) b s))) (n, t, K, L, J, R)) : a_does (d + 16) 258 [a_rf M, .int b, .int s] (n, t, K, L, I, R) P := by
  have hy := hm.1
  have hR := hg.1
  have h17 := hy.2.2.2.2.1
  have h10 := hy.2.1
  have h6 := hy.2.2.2.2.2.1
  have hl := hy.2.2.1
  have e17 : I M 17 = Y 0 17 := hg.2.2.1 0 17 (by unfold ps1; omega)
  have e6 : I M 6 = Y 0 6 := hg.2.2.1 0 6 (by unfold ps1; omega)
  have e0 : I M 0 = Y 0 0 := hg.2.2.1 0 0 (by unfold ps1; omega)
  have m17 : ∀ x : Int32, (x ≤ Y 0 17 - 1) = (x < Y 0 17) := fun x => le_m1 h17
  have m6 : ∀ x : Int32, (x ≤ Y 0 6 - 1) = (x < Y 0 6) := fun x => le_m1 ⟨h6.1, Int32.le_trans h6.2 (by decide)⟩
  have m199 : ∀ x : Int32, (x ≤ 199) = (x < 200) := le_199
  unfold leW at hP
  have gE := rg_events hR
  by_cases c : (0 ≤ b ∧ b < Y 0 6) ∧ (0 ≤ s ∧ s < 200)
  · rw [if_neg (fun q => q c)] at hP
    have hl := lv_lead_27 (d := d + 15) (P := P) hS hR (b := b) (s := s) (hP I) 0 (by decide) (-9) (by decide) gE.1 rfl
    ((try clear hP); (try clear hm); (try clear hy); (try clear hg))
    rw [a_enter1 (M := a_m258) rfl (a_cat_rf (a_cat_int (a_cat_int a_cat_nil))) (show 3 ≤ 5 by decide)]
    show a_at _ (a_xm a_m258) 0 [some (a_rf M), some (.int b), some (.int s), none, none] [] _ _
    simp only [q258_0, q258_1, q258_2, q258_5, q258_8, q258_9, q258_12, q258_21, q258_23, q258_24, q258_25, m_0 hS, m_K hS, sp_isBench hS, sp_isShift, as_nil, as_i, as_r, Nat.reduceAdd, Nat.reduceLeDiff, z_eq0, z_eq1, z_or, z_em, Classical.not_not, not_false_eq_true, not_true_eq_false, true_and, and_true, false_and, and_false, and_self, true_implies, false_implies, implies_true, Option.toList_some, Option.toList_none, List.cons_append, List.nil_append, Nat.add_eq_zero_iff, a_nl_i, a_nl_r, a_nl_n, true_or, or_true, eq_self, ok_4, ok_5, ok_6, ok_7, ok_9, ok_10, ok_20, ok_21, ok_24, ok_30, ok_48, ok_50, ok_60, ok_80, ok_120, ok_180, ok_192, ok_200, ok_900, ok_1000, ok_84000, e6, m6, m199, c]
    try simp only [true_and, and_true, true_implies, false_implies, implies_true, not_true_eq_false, not_false_eq_true]
    first
      | exact hl
      | grind
  · rw [if_pos c] at hP
    have hr := hP (a_ui I (M + 23) 1 (I (M + 23) 1 + 1))
    ((try clear hP); (try clear hm); (try clear hy); (try clear hl); (try clear hg))
    rw [a_enter1 (M := a_m258) rfl (a_cat_rf (a_cat_int (a_cat_int a_cat_nil))) (show 3 ≤ 5 by decide)]
    show a_at _ (a_xm a_m258) 0 [some (a_rf M), some (.int b), some (.int s), none, none] [] _ _
    simp only [q258_0, q258_1, q258_2, q258_5, q258_8, q258_9, q258_12, q258_15, q258_16, q258_17, q258_20, m_0 hS, m_K hS, sp_isBench hS, sp_isShift, sp_refuse_1 hS, sp_refuse_2 hS, sp_refuse_3 hS, sp_refuse_4 hS, sp_refuse_5 hS, sp_refuse_6 hS, as_nil, as_i, as_r, Nat.reduceAdd, Nat.reduceLeDiff, z_eq0, z_eq1, z_or, z_em, Classical.not_not, not_false_eq_true, not_true_eq_false, true_and, and_true, false_and, and_false, and_self, true_implies, false_implies, implies_true, Option.toList_some, Option.toList_none, List.cons_append, List.nil_append, Nat.add_eq_zero_iff, a_nl_i, a_nl_r, a_nl_n, true_or, or_true, eq_self, ok_4, ok_5, ok_6, ok_7, ok_9, ok_10, ok_20, ok_21, ok_24, ok_30, ok_48, ok_50, ok_60, ok_80, ok_120, ok_180, ok_192, ok_200, ok_900, ok_1000, ok_84000, e6, m6, m199]
    try simp only [true_and, and_true, true_implies, false_implies, implies_true, not_true_eq_false, not_false_eq_true]
    by_cases q1 : 0 ≤ b ∧ b < Y 0 6
    · have q3 : ¬ (0 ≤ s ∧ s < 200) := fun q => c ⟨q1, q⟩
      simp only [q1, q3]
      try simp only [true_and, and_true, true_implies, false_implies, implies_true, not_true_eq_false, not_false_eq_true]
      first
        | exact hr
        | grind
    · simp only [q1]
      try simp only [true_and, and_true, true_implies, false_implies, implies_true, not_true_eq_false, not_false_eq_true]
      first
        | exact hr
        | grind
end HL3
section HL4
variable {d n t C c : Nat} {K L : Nat → Nat} {I I0 J J0 J1 J2 : Nat → Nat → Int32} {R : Nat → Nat → Nat} {P : Option Value → AH → Prop}
variable {Y Z W : Nat → Nat → Int32} {b n' t' c' m m' : Nat} {K' L' : Nat → Nat} {R' R1 R2 : Nat → Nat → Nat}
theorem le_e (h : hcG C m J R Y) {u1 u2 : Int32} : leW Y (ldC C J R) u1 u2 = leW Y (ldR (C + 44) J) u1 u2 := by
  unfold leW
  split
  · rfl
  · next c =>
    have c := Classical.not_not.mp c
    exact (h.2.2.2.1 u1 u2 c.1 c.2).2
theorem ca9_lead {u1 u2 : Int32} (hb : b < C) (hc : 120 * c + 130 ≤ 62000) (h : lawH b C c n t K L J R) (hP : ∀ n2 t2 K2 L2 J2 R2, aNx b C c n2 t2 K2 L2 J2 R2 (yv (C + 44) J) ((yv (C + 44) J)) → hcG C (30 * c + 30) J2 R2 ((yv (C + 44) J)) → P (some (.int (leW (yv (C + 44) J) (ldR (C + 44) J2) u1 u2))) (n2 + 1, t2, K2, L2, J2, R2)) : a_does 700 162 [a_rf C, .int u1, .int u2] (n + 1, t, K, L, J, R) P := by
  refine does_mono (does_and (does_and (cdh_lead (P := fun _ h' => ∃ n2 t2 K2 L2 J2 R2, h' = (n2 + 1, t2, K2, L2, J2, R2) ∧ aNx b C c n2 t2 K2 L2 J2 R2 (yv (C + 44) J) ((yv (C + 44) J)) ∧ hcG C (30 * c + 30) J2 R2 ((yv (C + 44) J))) hb hc h (fun _ n2 t2 K2 L2 J2 R2 hx g => ⟨n2, t2, K2, L2, J2, R2, rfl, hx, g⟩)) (kf_lead h.1.1)) (cv_lead (P := fun r _ => r = some (.int (leW (yv (C + 44) J) (ldC C J R) u1 u2))) h.1.1 h.1.2.2.2.2.2.1 (fun _ => rfl))) (fun r h' q => ?_)
  obtain ⟨⟨⟨n2, t2, K2, L2, J2, R2, e1, hx, g⟩, w⟩, e2⟩ := q
  rw [e1] at w ⊢
  rw [e2, le_e h.2, ← (mR_same (cF_in w).2.2.2).2.1]
  exact hP _ _ _ _ _ _ hx g
theorem ra9_lead {u1 u2 : Int32} (hx : aNx b C c n t K L J R Y (Y)) (hc : 120 * c + 130 ≤ 62000) (g : hcG C (30 * c + 30) J R (Y)) (hP : ∀ J3, lawH b C (c + 1) n t K L J3 R → P (some (.int (leW Y (ldR (C + 44) J) u1 u2))) (n + 1, t, K, L, J3, R)) : a_does 700 258 [a_rf (C + 44), .int u1, .int u2] (n + 1, t, K, L, J, R) P := by
  refine does_mono (does_and (rdh_lead (P := fun _ h' => ∃ J3, h' = (n + 1, t, K, L, J3, R) ∧ lawH b C (c + 1) n t K L J3 R) hx hc g (fun _ J3 hI => ⟨J3, rfl, hI⟩)) (xv_lead (P := fun r _ => r = some (.int (leW Y (ldR (C + 44) J) u1 u2))) hx.1.2.1 hx.2.2.1 hx.2.1 (fun _ => rfl))) (fun r h' q => ?_)
  obtain ⟨⟨J3, e1, hI⟩, e2⟩ := q
  rw [e1, e2]
  exact hP _ hI
end HL4

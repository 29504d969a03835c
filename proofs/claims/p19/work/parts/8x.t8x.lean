/-! habit -/
section ZX0
variable {d n t C c : Nat} {K L : Nat → Nat} {I I0 J J0 J1 J2 : Nat → Nat → Int32} {R : Nat → Nat → Nat} {P : Option Value → AH → Prop}
variable {Y Z W : Nat → Nat → Int32}
def haV (Y : Nat → Nat → Int32) (r w : Int32) : Int32 := if ¬ (0 ≤ r ∧ r < 6) then 1000000000 - (-1) else if ¬ (0 ≤ w ∧ w ≤ 1) then 1000000000 - (-2) else if w = 0 then hbY (cmY Y) (Y 0 17) r else dbY (cmY Y) (Y 0 17) r
theorem cv_habit (hH : cH C c (n + 1) t K L I R) (hu : cuP C K L I R Y) {r w : Int32} (hP : ∀ J, P (some (.int (haV Y r w))) (n + 1, t, K, L, J, R)) : a_does (d + 70) 97 [a_rf C, .int r, .int w] (n + 1, t, K, L, I, R) P := by
  have hT := hH.1
  have hS := hT.s
  have gA := hT.g_asksR
  have gB := hT.g_benchesR
  have gX := hT.g_textsR
  have hc := hu.1
  have h17 := hc.2.2.2.2.2.2.2.2.1
  have e4 : I (C + 14) 4 = Y 0 17 := hc.2.2.1.1
  have hm : cmP C I Y := ⟨hu.2.2.1.1.2.1, e4⟩
  have hmk : mkP Y := hc.2.2.2.2.2.2.2.2.2.2.2.1
  unfold haV at hP
  by_cases c1 : 0 ≤ r ∧ r < 6
  · by_cases c2 : 0 ≤ w ∧ w ≤ 1
    · rw [if_neg (fun q => q c1), if_neg (fun q => q c2)] at hP
      have r5 : 0 ≤ r ∧ r ≤ 5 := ⟨c1.1, by ((try clear hP); (try clear hc); (try clear hu); (try clear hm); (try clear hmk)); grind⟩
      by_cases c3 : w = 0
      · rw [if_pos c3] at hP
        have hlp : a_does (d + 69) 28 [a_rf (C + 17), .int r] (n + 1, t, K, L, I, R) (fun q h' => a_at (d + 69) (a_xm a_m97) 49 [some (a_rf C), some (.int r), some (.int w)] (q.toList ++ []) h' P) := by
          refine ce_habitOf (d := d + 66) hT hm hmk r5 ?_
          have hp := hP I
          ((try clear hP); (try clear hc); (try clear hu); (try clear hm); (try clear hmk))
          simp only [q97_49, q97_60, as_nil, as_i, as_r, Nat.reduceAdd, Nat.reduceLeDiff, z_eq0, z_eq1, z_or, z_em, Classical.not_not, not_false_eq_true, not_true_eq_false, true_and, and_true, false_and, and_false, and_self, true_implies, false_implies, implies_true, Option.toList_some, Option.toList_none, List.cons_append, List.nil_append, Nat.add_eq_zero_iff, a_nl_i, a_nl_r, a_nl_n, true_or, or_true, eq_self, a_isRA_22, a_isRA_24, a_isRA_32, a_isA_20, ok_4, ok_5, ok_6, ok_7, ok_9, ok_20, ok_21, ok_30, ok_50, ok_180, ok_192, ok_200]
          exact hp
        subst c3
        ((try clear hP); (try clear hc); (try clear hu); (try clear hm); (try clear hmk))
        rw [a_enter1 (M := a_m97) rfl (a_cat_rf (a_cat_int (a_cat_int a_cat_nil))) (show 3 ≤ 3 by decide)]
        show a_at _ (a_xm a_m97) 0 [some (a_rf C), some (.int r), some (.int 0)] [] _ _
        simp only [q97_0, q97_1, q97_4, q97_17, q97_18, q97_21, q97_22, q97_23, q97_26, q97_29, q97_30, q97_32, q97_35, q97_36, q97_37, q97_38, q97_41, q97_42, q97_45, q97_46, k_0 hS, z_C hS, r_0_3 hS, k_17 hS, z_17, sp_isReaderC, as_nil, as_i, as_r, Nat.reduceAdd, Nat.reduceLeDiff, z_eq0, z_eq1, z_or, z_em, Classical.not_not, not_false_eq_true, not_true_eq_false, true_and, and_true, false_and, and_false, and_self, true_implies, false_implies, implies_true, Option.toList_some, Option.toList_none, List.cons_append, List.nil_append, Nat.add_eq_zero_iff, a_nl_i, a_nl_r, a_nl_n, true_or, or_true, eq_self, a_isRA_22, a_isRA_24, a_isRA_32, a_isA_20, ok_4, ok_5, ok_6, ok_7, ok_9, ok_20, ok_21, ok_30, ok_50, ok_180, ok_192, ok_200, c1]
        try simp only [true_and, and_true, true_implies, false_implies, implies_true, not_true_eq_false, not_false_eq_true]
        first
          | exact hlp
          | grind
      · rw [if_neg c3] at hP
        have c4 : w = 1 := by ((try clear hP); (try clear hc); (try clear hu); (try clear hm); (try clear hmk)); grind
        have hlp : a_does (d + 69) 98 [a_rf (C + 17), .int r] (n + 1, t, K, L, I, R) (fun q h' => a_at (d + 69) (a_xm a_m97) 60 [some (a_rf C), some (.int r), some (.int w)] (q.toList ++ []) h' P) := by
          refine ce_doubtOf (d := d + 66) hT hm hmk r5 ?_
          have hp := hP I
          ((try clear hP); (try clear hc); (try clear hu); (try clear hm); (try clear hmk))
          simp only [q97_60, as_nil, as_i, as_r, Nat.reduceAdd, Nat.reduceLeDiff, z_eq0, z_eq1, z_or, z_em, Classical.not_not, not_false_eq_true, not_true_eq_false, true_and, and_true, false_and, and_false, and_self, true_implies, false_implies, implies_true, Option.toList_some, Option.toList_none, List.cons_append, List.nil_append, Nat.add_eq_zero_iff, a_nl_i, a_nl_r, a_nl_n, true_or, or_true, eq_self, a_isRA_22, a_isRA_24, a_isRA_32, a_isA_20, ok_4, ok_5, ok_6, ok_7, ok_9, ok_20, ok_21, ok_30, ok_50, ok_180, ok_192, ok_200]
          exact hp
        subst c4
        ((try clear hP); (try clear hc); (try clear hu); (try clear hm); (try clear hmk))
        rw [a_enter1 (M := a_m97) rfl (a_cat_rf (a_cat_int (a_cat_int a_cat_nil))) (show 3 ≤ 3 by decide)]
        show a_at _ (a_xm a_m97) 0 [some (a_rf C), some (.int r), some (.int 1)] [] _ _
        simp only [q97_0, q97_1, q97_4, q97_17, q97_18, q97_21, q97_22, q97_23, q97_26, q97_29, q97_30, q97_32, q97_35, q97_36, q97_37, q97_38, q97_41, q97_42, q97_45, q97_46, q97_49, q97_52, q97_53, q97_56, q97_57, k_0 hS, z_C hS, r_0_3 hS, k_17 hS, z_17, sp_isReaderC, as_nil, as_i, as_r, Nat.reduceAdd, Nat.reduceLeDiff, z_eq0, z_eq1, z_or, z_em, Classical.not_not, not_false_eq_true, not_true_eq_false, true_and, and_true, false_and, and_false, and_self, true_implies, false_implies, implies_true, Option.toList_some, Option.toList_none, List.cons_append, List.nil_append, Nat.add_eq_zero_iff, a_nl_i, a_nl_r, a_nl_n, true_or, or_true, eq_self, a_isRA_22, a_isRA_24, a_isRA_32, a_isA_20, ok_4, ok_5, ok_6, ok_7, ok_9, ok_20, ok_21, ok_30, ok_50, ok_180, ok_192, ok_200, c1]
        try simp only [true_and, and_true, true_implies, false_implies, implies_true, not_true_eq_false, not_false_eq_true]
        first
          | exact hlp
          | grind
    · have hlp : a_does (d + 69) 10 [a_rf C, .int (-2)] (n + 1, t, K, L, I, R) (fun q h' => a_at (d + 69) (a_xm a_m97) 35 [some (a_rf C), some (.int r), some (.int w)] (q.toList ++ [.int 1000000000]) h' P) := by
        rw [if_neg (fun q => q c1), if_pos c2] at hP
        refine cr_refuse (d := d + 68) hH (fun J _ => ?_)
        have hp := hP J
        ((try clear hP); (try clear hc); (try clear hu); (try clear hm); (try clear hmk))
        simp only [q97_35, q97_36, as_nil, as_i, as_r, Nat.reduceAdd, Nat.reduceLeDiff, z_eq0, z_eq1, z_or, z_em, Classical.not_not, not_false_eq_true, not_true_eq_false, true_and, and_true, false_and, and_false, and_self, true_implies, false_implies, implies_true, Option.toList_some, Option.toList_none, List.cons_append, List.nil_append, Nat.add_eq_zero_iff, a_nl_i, a_nl_r, a_nl_n, true_or, or_true, eq_self, a_isRA_22, a_isRA_24, a_isRA_32, a_isA_20, ok_4, ok_5, ok_6, ok_7, ok_9, ok_20, ok_21, ok_30, ok_50, ok_180, ok_192, ok_200]
        exact hp
      ((try clear hP); (try clear hc); (try clear hu); (try clear hm); (try clear hmk))
      rw [a_enter1 (M := a_m97) rfl (a_cat_rf (a_cat_int (a_cat_int a_cat_nil))) (show 3 ≤ 3 by decide)]
      show a_at _ (a_xm a_m97) 0 [some (a_rf C), some (.int r), some (.int w)] [] _ _
      simp only [q97_0, q97_1, q97_4, q97_17, q97_18, q97_21, q97_22, q97_23, q97_26, q97_29, q97_30, q97_32, k_0 hS, z_C hS, sp_isReaderC, as_nil, as_i, as_r, Nat.reduceAdd, Nat.reduceLeDiff, z_eq0, z_eq1, z_or, z_em, Classical.not_not, not_false_eq_true, not_true_eq_false, true_and, and_true, false_and, and_false, and_self, true_implies, false_implies, implies_true, Option.toList_some, Option.toList_none, List.cons_append, List.nil_append, Nat.add_eq_zero_iff, a_nl_i, a_nl_r, a_nl_n, true_or, or_true, eq_self, a_isRA_22, a_isRA_24, a_isRA_32, a_isA_20, ok_4, ok_5, ok_6, ok_7, ok_9, ok_20, ok_21, ok_30, ok_50, ok_180, ok_192, ok_200, c1]
      try simp only [true_and, and_true, true_implies, false_implies, implies_true, not_true_eq_false, not_false_eq_true]
      first
        | exact hlp
        | grind
  · have hlp : a_does (d + 69) 10 [a_rf C, .int (-1)] (n + 1, t, K, L, I, R) (fun q h' => a_at (d + 69) (a_xm a_m97) 15 [some (a_rf C), some (.int r), some (.int w)] (q.toList ++ [.int 1000000000]) h' P) := by
      rw [if_pos c1] at hP
      refine cr_refuse (d := d + 68) hH (fun J _ => ?_)
      have hp := hP J
      ((try clear hP); (try clear hc); (try clear hu); (try clear hm); (try clear hmk))
      simp only [q97_15, q97_16, as_nil, as_i, as_r, Nat.reduceAdd, Nat.reduceLeDiff, z_eq0, z_eq1, z_or, z_em, Classical.not_not, not_false_eq_true, not_true_eq_false, true_and, and_true, false_and, and_false, and_self, true_implies, false_implies, implies_true, Option.toList_some, Option.toList_none, List.cons_append, List.nil_append, Nat.add_eq_zero_iff, a_nl_i, a_nl_r, a_nl_n, true_or, or_true, eq_self, a_isRA_22, a_isRA_24, a_isRA_32, a_isA_20, ok_4, ok_5, ok_6, ok_7, ok_9, ok_20, ok_21, ok_30, ok_50, ok_180, ok_192, ok_200]
      exact hp
    ((try clear hP); (try clear hc); (try clear hu); (try clear hm); (try clear hmk))
    rw [a_enter1 (M := a_m97) rfl (a_cat_rf (a_cat_int (a_cat_int a_cat_nil))) (show 3 ≤ 3 by decide)]
    show a_at _ (a_xm a_m97) 0 [some (a_rf C), some (.int r), some (.int w)] [] _ _
    simp only [q97_0, q97_1, q97_4, q97_7, q97_10, q97_11, q97_12, k_0 hS, z_C hS, sp_isReaderC, as_nil, as_i, as_r, Nat.reduceAdd, Nat.reduceLeDiff, z_eq0, z_eq1, z_or, z_em, Classical.not_not, not_false_eq_true, not_true_eq_false, true_and, and_true, false_and, and_false, and_self, true_implies, false_implies, implies_true, Option.toList_some, Option.toList_none, List.cons_append, List.nil_append, Nat.add_eq_zero_iff, a_nl_i, a_nl_r, a_nl_n, true_or, or_true, eq_self, a_isRA_22, a_isRA_24, a_isRA_32, a_isA_20, ok_4, ok_5, ok_6, ok_7, ok_9, ok_20, ok_21, ok_30, ok_50, ok_180, ok_192, ok_200, c1]
    try simp only [true_and, and_true, true_implies, false_implies, implies_true, not_true_eq_false, not_false_eq_true]
    first
      | exact hlp
      | grind
end ZX0
section ZX1
variable {d n t M : Nat} {K L : Nat → Nat} {I I0 J J0 J1 J2 : Nat → Nat → Int32} {R : Nat → Nat → Nat} {P : Option Value → AH → Prop} {f : Nat → Int32} {e : Int32}
variable {Y Z W : Nat → Nat → Int32}
theorem xv_habit (hS : m_S M K L R) (hm : okY Y) (hg : gs M I0 I Y) {r w : Int32} (hP : ∀ J, P (some (.int (haV Y r w))) (n, t, K, L, J, R)) : a_does (d + 16) 217 [a_rf M, .int r, .int w] (n, t, K, L, I, R) P := by
  have hy := hm.1
  have hR := hg.1
  have h17 := hy.2.2.2.2.1
  have h10 := hy.2.1
  have h6 := hy.2.2.2.2.2.1
  have hl := hy.2.2.1
  have e17 : I M 17 = Y 0 17 := hg.2.2.1 0 17 (by unfold ps1; omega)
  have e6 : I M 6 = Y 0 6 := hg.2.2.1 0 6 (by unfold ps1; omega)
  have e0 : I M 0 = Y 0 0 := hg.2.2.1 0 0 (by unfold ps1; omega)
  have m17 : ∀ x : Int32, (x ≤ Y 0 17 - 1) = (x < Y 0 17) := fun x => le_m1 h17
  have m6 : ∀ x : Int32, (x ≤ Y 0 6 - 1) = (x < Y 0 6) := fun x => le_m1 ⟨h6.1, Int32.le_trans h6.2 (by decide)⟩
  have m199 : ∀ x : Int32, (x ≤ 199) = (x < 200) := le_199
  have mk0 := (moP_of hg.1 hm.2.1 hg.2.2).2.1
  have ecm : cmY (yv M I) = cmY Y := cmY_b (psE_b hg.2.2)
  have e5 : (0 ≤ r ∧ r ≤ 5) = (0 ≤ r ∧ r < 6) := propext ⟨fun q => ⟨q.1, by ((try clear hP)); grind⟩, fun q => ⟨q.1, by ((try clear hP)); grind⟩⟩
  unfold haV at hP
  by_cases c1 : 0 ≤ r ∧ r < 6
  · rw [if_neg (fun q => q c1)] at hP
    have r5 : 0 ≤ r ∧ r ≤ 5 := by rw [e5]; exact c1
    by_cases c2 : 0 ≤ w ∧ w ≤ 1
    · rw [if_neg (fun q => q c2)] at hP
      by_cases c3 : w = 0
      · rw [if_pos c3] at hP
        have hlp : a_does (d + 15) 194 [a_rf M, .int r] (n, t, K, L, I, R) (fun q h' => a_at (d + 15) (a_xm a_m217) 38 [some (a_rf M), some (.int r), some (.int w)] (q.toList ++ []) h' P) := by
          refine xt_habitOf (d := d + 14) hS hR mk0 r5 ?_
          have hp := hP I
          rw [ecm, e17]
          ((try clear hP); (try clear hm); (try clear hy); (try clear hl); (try clear hg); (try clear mk0); (try clear ecm))
          simp only [q217_38, q217_46, as_nil, as_i, as_r, Nat.reduceAdd, Nat.reduceLeDiff, z_eq0, z_eq1, z_or, z_em, Classical.not_not, not_false_eq_true, not_true_eq_false, true_and, and_true, false_and, and_false, and_self, true_implies, false_implies, implies_true, Option.toList_some, Option.toList_none, List.cons_append, List.nil_append, Nat.add_eq_zero_iff, a_nl_i, a_nl_r, a_nl_n, true_or, or_true, eq_self, ok_4, ok_5, ok_6, ok_7, ok_9, ok_10, ok_20, ok_21, ok_24, ok_30, ok_48, ok_50, ok_60, ok_80, ok_120, ok_180, ok_192, ok_200, ok_900, ok_1000, ok_84000]
          exact hp
        subst c3
        ((try clear hP); (try clear hm); (try clear hy); (try clear hl); (try clear hg); (try clear mk0); (try clear ecm))
        rw [a_enter1 (M := a_m217) rfl (a_cat_rf (a_cat_int (a_cat_int a_cat_nil))) (show 3 ≤ 3 by decide)]
        show a_at _ (a_xm a_m217) 0 [some (a_rf M), some (.int r), some (.int 0)] [] _ _
        simp only [q217_0, q217_1, q217_4, q217_13, q217_14, q217_15, q217_16, q217_19, q217_22, q217_23, q217_25, q217_28, q217_29, q217_30, q217_33, q217_34, q217_35, m_0 hS, m_K hS, sp_isReader, sp_in, sp_refuseFar_1 hS, sp_refuseFar_2 hS, as_nil, as_i, as_r, Nat.reduceAdd, Nat.reduceLeDiff, z_eq0, z_eq1, z_or, z_em, Classical.not_not, not_false_eq_true, not_true_eq_false, true_and, and_true, false_and, and_false, and_self, true_implies, false_implies, implies_true, Option.toList_some, Option.toList_none, List.cons_append, List.nil_append, Nat.add_eq_zero_iff, a_nl_i, a_nl_r, a_nl_n, true_or, or_true, eq_self, ok_4, ok_5, ok_6, ok_7, ok_9, ok_10, ok_20, ok_21, ok_24, ok_30, ok_48, ok_50, ok_60, ok_80, ok_120, ok_180, ok_192, ok_200, ok_900, ok_1000, ok_84000, r5]
        try simp only [true_and, and_true, true_implies, false_implies, implies_true, not_true_eq_false, not_false_eq_true]
        first
          | exact hlp
          | grind
      · rw [if_neg c3] at hP
        have c4 : w = 1 := by ((try clear hP); (try clear hm); (try clear hy); (try clear hl); (try clear hg); (try clear mk0); (try clear ecm)); grind
        have hlp : a_does (d + 15) 219 [a_rf M, .int r] (n, t, K, L, I, R) (fun q h' => a_at (d + 15) (a_xm a_m217) 46 [some (a_rf M), some (.int r), some (.int w)] (q.toList ++ []) h' P) := by
          refine xt_doubtOf (d := d + 14) hS hR mk0 r5 ?_
          have hp := hP I
          rw [ecm, e17]
          ((try clear hP); (try clear hm); (try clear hy); (try clear hl); (try clear hg); (try clear mk0); (try clear ecm))
          simp only [q217_46, as_nil, as_i, as_r, Nat.reduceAdd, Nat.reduceLeDiff, z_eq0, z_eq1, z_or, z_em, Classical.not_not, not_false_eq_true, not_true_eq_false, true_and, and_true, false_and, and_false, and_self, true_implies, false_implies, implies_true, Option.toList_some, Option.toList_none, List.cons_append, List.nil_append, Nat.add_eq_zero_iff, a_nl_i, a_nl_r, a_nl_n, true_or, or_true, eq_self, ok_4, ok_5, ok_6, ok_7, ok_9, ok_10, ok_20, ok_21, ok_24, ok_30, ok_48, ok_50, ok_60, ok_80, ok_120, ok_180, ok_192, ok_200, ok_900, ok_1000, ok_84000]
          exact hp
        subst c4
        ((try clear hP); (try clear hm); (try clear hy); (try clear hl); (try clear hg); (try clear mk0); (try clear ecm))
        rw [a_enter1 (M := a_m217) rfl (a_cat_rf (a_cat_int (a_cat_int a_cat_nil))) (show 3 ≤ 3 by decide)]
        show a_at _ (a_xm a_m217) 0 [some (a_rf M), some (.int r), some (.int 1)] [] _ _
        simp only [q217_0, q217_1, q217_4, q217_13, q217_14, q217_15, q217_16, q217_19, q217_22, q217_23, q217_25, q217_28, q217_29, q217_30, q217_33, q217_34, q217_35, q217_38, q217_41, q217_42, q217_43, m_0 hS, m_K hS, sp_isReader, sp_in, sp_refuseFar_1 hS, sp_refuseFar_2 hS, as_nil, as_i, as_r, Nat.reduceAdd, Nat.reduceLeDiff, z_eq0, z_eq1, z_or, z_em, Classical.not_not, not_false_eq_true, not_true_eq_false, true_and, and_true, false_and, and_false, and_self, true_implies, false_implies, implies_true, Option.toList_some, Option.toList_none, List.cons_append, List.nil_append, Nat.add_eq_zero_iff, a_nl_i, a_nl_r, a_nl_n, true_or, or_true, eq_self, ok_4, ok_5, ok_6, ok_7, ok_9, ok_10, ok_20, ok_21, ok_24, ok_30, ok_48, ok_50, ok_60, ok_80, ok_120, ok_180, ok_192, ok_200, ok_900, ok_1000, ok_84000, r5]
        try simp only [true_and, and_true, true_implies, false_implies, implies_true, not_true_eq_false, not_false_eq_true]
        first
          | exact hlp
          | grind
    · rw [if_pos c2] at hP
      have hr := hP (a_ui I (M + 23) 2 (I (M + 23) 2 + 1))
      ((try clear hP); (try clear hm); (try clear hy); (try clear hl); (try clear hg); (try clear mk0); (try clear ecm))
      rw [a_enter1 (M := a_m217) rfl (a_cat_rf (a_cat_int (a_cat_int a_cat_nil))) (show 3 ≤ 3 by decide)]
      show a_at _ (a_xm a_m217) 0 [some (a_rf M), some (.int r), some (.int w)] [] _ _
      simp only [q217_0, q217_1, q217_4, q217_13, q217_14, q217_15, q217_16, q217_19, q217_22, q217_23, q217_25, q217_28, m_0 hS, m_K hS, sp_isReader, sp_in, sp_refuseFar_1 hS, sp_refuseFar_2 hS, as_nil, as_i, as_r, Nat.reduceAdd, Nat.reduceLeDiff, z_eq0, z_eq1, z_or, z_em, Classical.not_not, not_false_eq_true, not_true_eq_false, true_and, and_true, false_and, and_false, and_self, true_implies, false_implies, implies_true, Option.toList_some, Option.toList_none, List.cons_append, List.nil_append, Nat.add_eq_zero_iff, a_nl_i, a_nl_r, a_nl_n, true_or, or_true, eq_self, ok_4, ok_5, ok_6, ok_7, ok_9, ok_10, ok_20, ok_21, ok_24, ok_30, ok_48, ok_50, ok_60, ok_80, ok_120, ok_180, ok_192, ok_200, ok_900, ok_1000, ok_84000, r5, c2]
      try simp only [true_and, and_true, true_implies, false_implies, implies_true, not_true_eq_false, not_false_eq_true]
      first
        | exact hr
        | grind
  · rw [if_pos c1] at hP
    have r5 : ¬ (0 ≤ r ∧ r ≤ 5) := by rw [e5]; exact c1
    have hr := hP (a_ui I (M + 23) 1 (I (M + 23) 1 + 1))
    ((try clear hP); (try clear hm); (try clear hy); (try clear hl); (try clear hg); (try clear mk0); (try clear ecm))
    rw [a_enter1 (M := a_m217) rfl (a_cat_rf (a_cat_int (a_cat_int a_cat_nil))) (show 3 ≤ 3 by decide)]
    show a_at _ (a_xm a_m217) 0 [some (a_rf M), some (.int r), some (.int w)] [] _ _
    simp only [q217_0, q217_1, q217_4, q217_7, q217_8, q217_9, q217_12, m_0 hS, m_K hS, sp_isReader, sp_refuseFar_1 hS, sp_refuseFar_2 hS, as_nil, as_i, as_r, Nat.reduceAdd, Nat.reduceLeDiff, z_eq0, z_eq1, z_or, z_em, Classical.not_not, not_false_eq_true, not_true_eq_false, true_and, and_true, false_and, and_false, and_self, true_implies, false_implies, implies_true, Option.toList_some, Option.toList_none, List.cons_append, List.nil_append, Nat.add_eq_zero_iff, a_nl_i, a_nl_r, a_nl_n, true_or, or_true, eq_self, ok_4, ok_5, ok_6, ok_7, ok_9, ok_10, ok_20, ok_21, ok_24, ok_30, ok_48, ok_50, ok_60, ok_80, ok_120, ok_180, ok_192, ok_200, ok_900, ok_1000, ok_84000, r5]
    try simp only [true_and, and_true, true_implies, false_implies, implies_true, not_true_eq_false, not_false_eq_true]
    first
      | exact hr
      | grind
end ZX1
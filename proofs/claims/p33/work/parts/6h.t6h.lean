/-! why -/
section YR0
variable {d n t C c : Nat} {K L : Nat → Nat} {I I0 J J0 J1 J2 : Nat → Nat → Int32} {R : Nat → Nat → Nat} {P : Option Value → AH → Prop}
variable {Y Z W : Nat → Nat → Int32} {R' R1 : Nat → Nat → Nat} {K' L' : Nat → Nat}
theorem ge_why (hH : cH C c (n + 1) t K L I R) (hu : cuP C K L I R Y) {a b s f e : Int32} (hP : ∀ J, cH C c (n + 1) t K L J R → cuP C K L J R Y → P (some (.int (whV Y a b s f e))) (n + 1, t, K, L, J, R)) : a_does (d + 70) 127 [a_rf C, .int a, .int b, .int s, .int f, .int e] (n + 1, t, K, L, I, R) P := by
  have hT := hH.1
  have hS := hT.s
  have gA := hT.g_asksR
  have gB := hT.g_benchesR
  have gX := hT.g_textsR
  have hc := hu.1
  have h17 := hc.2.2.2.2.2.2.2.2.1
  have e4 : I (C + 14) 4 = Y 0 17 := hc.2.2.1.1
  have h6 := hc.2.2.2.2.2.2.2.2.2.1
  have e5 : I (C + 14) 5 = Y 0 6 := hc.2.1.1
  unfold whV at hP
  have hr1 : ¬ ((0 ≤ a ∧ a < Y 0 17) ∧ (0 ≤ b ∧ b < Y 0 6) ∧ ((0 ≤ f ∧ f < 200) ∧ (0 ≤ e ∧ e < 200) ∧ f ≤ e) ∧ f ≤ s ∧ s ≤ e) → ∀ x y, a_does (d + 69) 10 [a_rf C, .int (-1)] (n + 1, t, K, L, I, R) (fun r h' => a_at (d + 69) (a_xm a_m127) 53 [some (a_rf C), some (.int a), some (.int b), some (.int s), some (.int f), some (.int e), x, y] (r.toList ++ []) h' P) := fun q x y => by
    rw [if_pos q] at hP
    refine ge_refuse (d := d + 68) hH hu (fun J z1 z2 => ?_)
    have hp := hP J z1 z2
    clear hP hc hu
    simp only [q127_53, as_nil, as_i, as_r, Nat.reduceAdd, Nat.reduceLeDiff, z_eq0, z_eq1, z_or, z_em, Classical.not_not, not_false_eq_true, not_true_eq_false, true_and, and_true, false_and, and_false, and_self, true_implies, false_implies, implies_true, Option.toList_some, Option.toList_none, List.cons_append, List.nil_append, Nat.add_eq_zero_iff, a_nl_i, a_nl_r, a_nl_n, true_or, or_true, eq_self, a_isRA_22, a_isRA_24, a_isRA_32, a_isA_20, ok_4, ok_5, ok_6, ok_7, ok_9, ok_20, ok_21, ok_30, ok_50, ok_180, ok_192, ok_200]
    exact hp
  by_cases c1 : 0 ≤ a ∧ a < Y 0 17
  ·
    have hac : 0 ≤ a ∧ a < I (C + 14) 4 ∧ a < 30 := ⟨c1.1, by rw [e4]; exact c1.2, Int32.lt_of_lt_of_le c1.2 h17.2⟩
    have ap := aa_of hc c1.1 c1.2
    obtain ⟨-, ⟨ha, an0, a4n⟩, am, al⟩ := id ap
    have a0 : ((R (C + 15) a.toNatClampNeg) = 0) = False := eq_false an0
    by_cases c2 : 0 ≤ b ∧ b < Y 0 6
    ·
      have hbc : 0 ≤ b ∧ b < I (C + 14) 5 ∧ b < 6 := ⟨c2.1, by rw [e5]; exact c2.2, Int32.lt_of_lt_of_le c2.2 h6.2⟩
      obtain ⟨kb, kb0, -⟩ := hc.2.1.2.2.1 b c2.1 c2.2
      have b0 : (R (C + 16) b.toNatClampNeg = 0) = False := eq_false kb0
      by_cases c3 : (0 ≤ f ∧ f < 200) ∧ (0 ≤ e ∧ e < 200) ∧ f ≤ e
      · by_cases c4 : f ≤ s
        · have c4' : ¬ s < f := Int32.not_lt.mpr c4
          by_cases c5 : s ≤ e
          · have c5' : ¬ e < s := Int32.not_lt.mpr c5
            rw [if_neg (fun q => q ⟨c1, c2, c3, c4, c5⟩)] at hP
            have hfb : ∀ y, a_does (d + 69) 100 [a_rf (C + 14), a_rf (R (C + 15) a.toNatClampNeg), .int b, .int s] (n + 1, t, K, L, I, R) (fun r h' => a_at (d + 69) (a_xm a_m127) 65 [some (a_rf C), some (.int a), some (.int b), some (.int s), some (.int f), some (.int e), some (a_rf (R (C + 15) a.toNatClampNeg)), y] (r.toList ++ []) h' P) := fun y => by
              refine ce_firstBar (d := d + 64) hT hc ap c2 ⟨Int32.le_trans c3.1.1 c4, by clear hP hc hu ap al am hr1; grind⟩ (fun J hJ => ?_)
              have hT2 := hJ.1
              have hS2 := hT2.s
              have hH2 := cH_J hH hT2
              have hu2 := cu_C hT hJ hu hH
              have hp := hP J hH2 hu2
              by_cases cf : ftY Y a b s = 0
              · rw [if_pos cf] at hp
                have hin : a_does (d + 69) 123 [a_rf (C + 22), a_rf (R (C + 15) a.toNatClampNeg), .int f, .int e] (n + 1, t, K, L, J, R) (fun r h' => a_at (d + 69) (a_xm a_m127) 85 [some (a_rf C), some (.int a), some (.int b), some (.int s), some (.int f), some (.int e), some (a_rf (R (C + 15) a.toNatClampNeg)), some (.int (ftY Y a b s))] (r.toList ++ []) h' P) := by
                  refine ce_isInShare (d := d + 67) hT2 hu2.1 (aaP_C hT ap hJ) rfl hu2.2.2.1.1.1.1 ?_
                  by_cases cs : shB Y a f e = true
                  · rw [if_pos cs] at hp ⊢
                    have n10 : ¬ (1 : Int32) = 0 := by decide
                    clear hP hc hu ap al am hr1 hu2
                    simp only [q127_85, q127_88, q127_90, q127_93, q127_95, as_nil, as_i, as_r, Nat.reduceAdd, Nat.reduceLeDiff, z_eq0, z_eq1, z_or, z_em, Classical.not_not, not_false_eq_true, not_true_eq_false, true_and, and_true, false_and, and_false, and_self, true_implies, false_implies, implies_true, Option.toList_some, Option.toList_none, List.cons_append, List.nil_append, Nat.add_eq_zero_iff, a_nl_i, a_nl_r, a_nl_n, true_or, or_true, eq_self, a_isRA_22, a_isRA_24, a_isRA_32, a_isA_20, ok_4, ok_5, ok_6, ok_7, ok_9, ok_20, ok_21, ok_30, ok_50, ok_180, ok_192, ok_200, n10, cf]
                    try simp only [true_and, and_true, true_implies, false_implies, implies_true, not_true_eq_false, not_false_eq_true]
                    first
                      | exact hp
                      | grind
                  · rw [if_neg cs] at hp ⊢
                    clear hP hc hu ap al am hr1 hu2
                    simp only [q127_85, q127_88, q127_90, q127_93, q127_95, as_nil, as_i, as_r, Nat.reduceAdd, Nat.reduceLeDiff, z_eq0, z_eq1, z_or, z_em, Classical.not_not, not_false_eq_true, not_true_eq_false, true_and, and_true, false_and, and_false, and_self, true_implies, false_implies, implies_true, Option.toList_some, Option.toList_none, List.cons_append, List.nil_append, Nat.add_eq_zero_iff, a_nl_i, a_nl_r, a_nl_n, true_or, or_true, eq_self, a_isRA_22, a_isRA_24, a_isRA_32, a_isA_20, ok_4, ok_5, ok_6, ok_7, ok_9, ok_20, ok_21, ok_30, ok_50, ok_180, ok_192, ok_200]
                    try simp only [true_and, and_true, true_implies, false_implies, implies_true, not_true_eq_false, not_false_eq_true]
                    first
                      | exact hp
                      | grind
                rw [cf] at hin
                clear hP hc hu ap al am hr1 hu2 hp
                simp only [q127_65, q127_67, q127_69, q127_72, q127_73, q127_76, q127_78, q127_80, q127_82, k_0 hS2, z_C hS2, r_0_5 hS2, k_22 hS2, z_22, as_nil, as_i, as_r, Nat.reduceAdd, Nat.reduceLeDiff, z_eq0, z_eq1, z_or, z_em, Classical.not_not, not_false_eq_true, not_true_eq_false, true_and, and_true, false_and, and_false, and_self, true_implies, false_implies, implies_true, Option.toList_some, Option.toList_none, List.cons_append, List.nil_append, Nat.add_eq_zero_iff, a_nl_i, a_nl_r, a_nl_n, true_or, or_true, eq_self, a_isRA_22, a_isRA_24, a_isRA_32, a_isA_20, ok_4, ok_5, ok_6, ok_7, ok_9, ok_20, ok_21, ok_30, ok_50, ok_180, ok_192, ok_200, cf]
                try simp only [true_and, and_true, true_implies, false_implies, implies_true, not_true_eq_false, not_false_eq_true]
                first
                  | exact hin
                  | grind
              · rw [if_neg cf] at hp
                clear hP hc hu ap al am hr1 hu2
                simp only [q127_65, q127_67, q127_69, q127_93, q127_95, as_nil, as_i, as_r, Nat.reduceAdd, Nat.reduceLeDiff, z_eq0, z_eq1, z_or, z_em, Classical.not_not, not_false_eq_true, not_true_eq_false, true_and, and_true, false_and, and_false, and_self, true_implies, false_implies, implies_true, Option.toList_some, Option.toList_none, List.cons_append, List.nil_append, Nat.add_eq_zero_iff, a_nl_i, a_nl_r, a_nl_n, true_or, or_true, eq_self, a_isRA_22, a_isRA_24, a_isRA_32, a_isA_20, ok_4, ok_5, ok_6, ok_7, ok_9, ok_20, ok_21, ok_30, ok_50, ok_180, ok_192, ok_200, cf]
                try simp only [true_and, and_true, true_implies, false_implies, implies_true, not_true_eq_false, not_false_eq_true]
                first
                  | exact hp
                  | grind
            clear hP hc hu ap al am hr1
            rw [a_enter1 (M := a_m127) rfl (a_cat_rf (a_cat_int (a_cat_int (a_cat_int (a_cat_int (a_cat_int a_cat_nil)))))) (show 6 ≤ 8 by decide)]
            show a_at _ (a_xm a_m127) 0 [some (a_rf C), some (.int a), some (.int b), some (.int s), some (.int f), some (.int e), none, none] [] _ _
            simp only [q127_0, q127_1, q127_4, q127_5, q127_8, q127_10, q127_12, q127_15, q127_16, q127_19, q127_20, q127_23, q127_26, q127_28, q127_30, q127_33, q127_36, q127_37, q127_39, q127_42, q127_43, q127_45, q127_48, q127_49, q127_50, q127_53, q127_54, q127_55, q127_58, q127_60, q127_61, q127_62, k_0 hS, z_C hS, r_0_4 hS, k_14 hS, z_14, sp_askAt hS gA, sp_benchAt hS gB, sp_areShifts, as_nil, as_i, as_r, Nat.reduceAdd, Nat.reduceLeDiff, z_eq0, z_eq1, z_or, z_em, Classical.not_not, not_false_eq_true, not_true_eq_false, true_and, and_true, false_and, and_false, and_self, true_implies, false_implies, implies_true, Option.toList_some, Option.toList_none, List.cons_append, List.nil_append, Nat.add_eq_zero_iff, a_nl_i, a_nl_r, a_nl_n, true_or, or_true, eq_self, a_isRA_22, a_isRA_24, a_isRA_32, a_isA_20, ok_4, ok_5, ok_6, ok_7, ok_9, ok_20, ok_21, ok_30, ok_50, ok_180, ok_192, ok_200, hac, hbc, c3, c4, c4', c5, c5', ha, a0, b0]
            try simp only [true_and, and_true, true_implies, false_implies, implies_true, not_true_eq_false, not_false_eq_true]
            first
              | exact hfb _
              | grind
          · have c5' : e < s := Int32.not_le.mp c5
            have hr := hr1 (fun q => c5 q.2.2.2.2)
            clear hP hc hu ap al am hr1
            rw [a_enter1 (M := a_m127) rfl (a_cat_rf (a_cat_int (a_cat_int (a_cat_int (a_cat_int (a_cat_int a_cat_nil)))))) (show 6 ≤ 8 by decide)]
            show a_at _ (a_xm a_m127) 0 [some (a_rf C), some (.int a), some (.int b), some (.int s), some (.int f), some (.int e), none, none] [] _ _
            simp only [q127_0, q127_1, q127_4, q127_5, q127_8, q127_10, q127_12, q127_15, q127_16, q127_19, q127_20, q127_23, q127_26, q127_28, q127_30, q127_33, q127_36, q127_37, q127_39, q127_42, q127_43, q127_45, q127_48, q127_49, q127_50, k_0 hS, z_C hS, r_0_4 hS, k_14 hS, z_14, sp_askAt hS gA, sp_benchAt hS gB, sp_areShifts, as_nil, as_i, as_r, Nat.reduceAdd, Nat.reduceLeDiff, z_eq0, z_eq1, z_or, z_em, Classical.not_not, not_false_eq_true, not_true_eq_false, true_and, and_true, false_and, and_false, and_self, true_implies, false_implies, implies_true, Option.toList_some, Option.toList_none, List.cons_append, List.nil_append, Nat.add_eq_zero_iff, a_nl_i, a_nl_r, a_nl_n, true_or, or_true, eq_self, a_isRA_22, a_isRA_24, a_isRA_32, a_isA_20, ok_4, ok_5, ok_6, ok_7, ok_9, ok_20, ok_21, ok_30, ok_50, ok_180, ok_192, ok_200, hac, hbc, c3, c4, c4', c5, c5', ha, a0, b0]
            try simp only [true_and, and_true, true_implies, false_implies, implies_true, not_true_eq_false, not_false_eq_true]
            first
              | exact hr _ _
              | grind
        · have c4' : s < f := Int32.not_le.mp c4
          have hr := hr1 (fun q => c4 q.2.2.2.1)
          clear hP hc hu ap al am hr1
          rw [a_enter1 (M := a_m127) rfl (a_cat_rf (a_cat_int (a_cat_int (a_cat_int (a_cat_int (a_cat_int a_cat_nil)))))) (show 6 ≤ 8 by decide)]
          show a_at _ (a_xm a_m127) 0 [some (a_rf C), some (.int a), some (.int b), some (.int s), some (.int f), some (.int e), none, none] [] _ _
          simp only [q127_0, q127_1, q127_4, q127_5, q127_8, q127_10, q127_12, q127_15, q127_16, q127_19, q127_20, q127_23, q127_26, q127_28, q127_30, q127_33, q127_36, q127_37, q127_39, q127_42, q127_43, q127_45, q127_48, q127_49, q127_50, k_0 hS, z_C hS, r_0_4 hS, k_14 hS, z_14, sp_askAt hS gA, sp_benchAt hS gB, sp_areShifts, as_nil, as_i, as_r, Nat.reduceAdd, Nat.reduceLeDiff, z_eq0, z_eq1, z_or, z_em, Classical.not_not, not_false_eq_true, not_true_eq_false, true_and, and_true, false_and, and_false, and_self, true_implies, false_implies, implies_true, Option.toList_some, Option.toList_none, List.cons_append, List.nil_append, Nat.add_eq_zero_iff, a_nl_i, a_nl_r, a_nl_n, true_or, or_true, eq_self, a_isRA_22, a_isRA_24, a_isRA_32, a_isA_20, ok_4, ok_5, ok_6, ok_7, ok_9, ok_20, ok_21, ok_30, ok_50, ok_180, ok_192, ok_200, hac, hbc, c3, c4, c4', ha, a0, b0]
          try simp only [true_and, and_true, true_implies, false_implies, implies_true, not_true_eq_false, not_false_eq_true]
          first
            | exact hr _ _
            | grind
      · have hr := hr1 (fun q => c3 q.2.2.1)
        clear hP hc hu ap al am hr1
        rw [a_enter1 (M := a_m127) rfl (a_cat_rf (a_cat_int (a_cat_int (a_cat_int (a_cat_int (a_cat_int a_cat_nil)))))) (show 6 ≤ 8 by decide)]
        show a_at _ (a_xm a_m127) 0 [some (a_rf C), some (.int a), some (.int b), some (.int s), some (.int f), some (.int e), none, none] [] _ _
        simp only [q127_0, q127_1, q127_4, q127_5, q127_8, q127_10, q127_12, q127_15, q127_16, q127_19, q127_20, q127_23, q127_26, q127_28, q127_30, q127_33, q127_36, q127_37, q127_39, q127_42, q127_43, q127_45, q127_48, q127_49, q127_50, k_0 hS, z_C hS, r_0_4 hS, k_14 hS, z_14, sp_askAt hS gA, sp_benchAt hS gB, sp_areShifts, as_nil, as_i, as_r, Nat.reduceAdd, Nat.reduceLeDiff, z_eq0, z_eq1, z_or, z_em, Classical.not_not, not_false_eq_true, not_true_eq_false, true_and, and_true, false_and, and_false, and_self, true_implies, false_implies, implies_true, Option.toList_some, Option.toList_none, List.cons_append, List.nil_append, Nat.add_eq_zero_iff, a_nl_i, a_nl_r, a_nl_n, true_or, or_true, eq_self, a_isRA_22, a_isRA_24, a_isRA_32, a_isA_20, ok_4, ok_5, ok_6, ok_7, ok_9, ok_20, ok_21, ok_30, ok_50, ok_180, ok_192, ok_200, hac, hbc, c3, ha, a0, b0]
        try simp only [true_and, and_true, true_implies, false_implies, implies_true, not_true_eq_false, not_false_eq_true]
        first
          | exact hr _ _
          | grind
    · have hbc : ¬ (0 ≤ b ∧ b < I (C + 14) 5 ∧ b < 6) := fun q => c2 ⟨q.1, by rw [← e5]; exact q.2.1⟩
      have hr := hr1 (fun q => c2 q.2.1)
      clear hP hc hu ap al am hr1
      rw [a_enter1 (M := a_m127) rfl (a_cat_rf (a_cat_int (a_cat_int (a_cat_int (a_cat_int (a_cat_int a_cat_nil)))))) (show 6 ≤ 8 by decide)]
      show a_at _ (a_xm a_m127) 0 [some (a_rf C), some (.int a), some (.int b), some (.int s), some (.int f), some (.int e), none, none] [] _ _
      simp only [q127_0, q127_1, q127_4, q127_5, q127_8, q127_10, q127_12, q127_15, q127_16, q127_19, q127_20, q127_23, q127_26, q127_28, q127_30, q127_33, q127_36, q127_37, q127_39, q127_42, q127_43, q127_45, q127_48, q127_49, q127_50, k_0 hS, z_C hS, r_0_4 hS, k_14 hS, z_14, sp_askAt hS gA, sp_benchAt hS gB, sp_areShifts, as_nil, as_i, as_r, Nat.reduceAdd, Nat.reduceLeDiff, z_eq0, z_eq1, z_or, z_em, Classical.not_not, not_false_eq_true, not_true_eq_false, true_and, and_true, false_and, and_false, and_self, true_implies, false_implies, implies_true, Option.toList_some, Option.toList_none, List.cons_append, List.nil_append, Nat.add_eq_zero_iff, a_nl_i, a_nl_r, a_nl_n, true_or, or_true, eq_self, a_isRA_22, a_isRA_24, a_isRA_32, a_isA_20, ok_4, ok_5, ok_6, ok_7, ok_9, ok_20, ok_21, ok_30, ok_50, ok_180, ok_192, ok_200, hac, hbc, ha, a0]
      try simp only [true_and, and_true, true_implies, false_implies, implies_true, not_true_eq_false, not_false_eq_true]
      first
        | exact hr _ _
        | grind
  · have hac : ¬ (0 ≤ a ∧ a < I (C + 14) 4 ∧ a < 30) := fun q => c1 ⟨q.1, by rw [← e4]; exact q.2.1⟩
    have hr := hr1 (fun q => c1 q.1)
    clear hP hc hu hr1
    rw [a_enter1 (M := a_m127) rfl (a_cat_rf (a_cat_int (a_cat_int (a_cat_int (a_cat_int (a_cat_int a_cat_nil)))))) (show 6 ≤ 8 by decide)]
    show a_at _ (a_xm a_m127) 0 [some (a_rf C), some (.int a), some (.int b), some (.int s), some (.int f), some (.int e), none, none] [] _ _
    simp only [q127_0, q127_1, q127_4, q127_5, q127_8, q127_10, q127_12, q127_15, q127_16, q127_19, q127_20, q127_23, q127_26, q127_28, q127_30, q127_33, q127_36, q127_37, q127_39, q127_42, q127_43, q127_45, q127_48, q127_49, q127_50, k_0 hS, z_C hS, r_0_4 hS, k_14 hS, z_14, sp_askAt hS gA, sp_benchAt hS gB, sp_areShifts, as_nil, as_i, as_r, Nat.reduceAdd, Nat.reduceLeDiff, z_eq0, z_eq1, z_or, z_em, Classical.not_not, not_false_eq_true, not_true_eq_false, true_and, and_true, false_and, and_false, and_self, true_implies, false_implies, implies_true, Option.toList_some, Option.toList_none, List.cons_append, List.nil_append, Nat.add_eq_zero_iff, a_nl_i, a_nl_r, a_nl_n, true_or, or_true, eq_self, a_isRA_22, a_isRA_24, a_isRA_32, a_isA_20, ok_4, ok_5, ok_6, ok_7, ok_9, ok_20, ok_21, ok_30, ok_50, ok_180, ok_192, ok_200, hac]
    try simp only [true_and, and_true, true_implies, false_implies, implies_true, not_true_eq_false, not_false_eq_true]
    first
      | exact hr _ _
      | grind
end YR0
section YR1
variable {d n t M : Nat} {K L : Nat → Nat} {I I0 J J0 J1 J2 : Nat → Nat → Int32} {R : Nat → Nat → Nat} {P : Option Value → AH → Prop} {f : Nat → Int32} {e : Int32}
variable {Y Z W : Nat → Nat → Int32}
theorem xp_why (hS : m_S M K L R) {I1 : Nat → Nat → Int32} (hm : okY Y) {c : Nat} (hc : c + 130 ≤ 84000) (hF : mF M c I1 I) (hg : gs M I0 I Y) {a b s f e : Int32} (hP : ∀ J, mF M (c + 120) I1 J → gs M I0 J Y → P (some (.int (whV Y a b s f e))) (n, t, K, L, J, R)) : a_does (d + 13) 241 [a_rf M, .int a, .int b, .int s, .int f, .int e] (n, t, K, L, I, R) P := by
  have hy := hm.1
  have h17 := hy.2.2.2.2.1
  have h10 := hy.2.1
  have h6 := hy.2.2.2.2.2.1
  have hl := hy.2.2.1
  have hrf : ∀ k : Nat, mF M (c + 120) I1 (a_ui I (M + 23) k (I (M + 23) k + 1)) ∧ gs M I0 (a_ui I (M + 23) k (I (M + 23) k + 1)) Y := fun k => ⟨mF_le (sF_refused hF) (by omega), gs_ui hg (sR_refused hg.1) (by omega) ⟨by unfold ps1; omega, by omega⟩⟩
  have e17 : I M 17 = Y 0 17 := hg.2.2.1 0 17 (by unfold ps1; omega)
  have e6 : I M 6 = Y 0 6 := hg.2.2.1 0 6 (by unfold ps1; omega)
  have e0 : I M 0 = Y 0 0 := hg.2.2.1 0 0 (by unfold ps1; omega)
  have m17 : ∀ x : Int32, (x ≤ Y 0 17 - 1) = (x < Y 0 17) := fun x => le_m1 h17
  have m6 : ∀ x : Int32, (x ≤ Y 0 6 - 1) = (x < Y 0 6) := fun x => le_m1 ⟨h6.1, Int32.le_trans h6.2 (by decide)⟩
  have m199 : ∀ x : Int32, (x ≤ 199) = (x < 200) := fun x => propext ⟨fun q => Int32.lt_of_le_of_lt q (by decide), fun q => by clear hP hrf hm hg hF; grind⟩
  unfold whV at hP
  by_cases c1 : (0 ≤ a ∧ a < Y 0 17) ∧ (0 ≤ b ∧ b < Y 0 6) ∧ ((0 ≤ f ∧ f < 200) ∧ (0 ≤ e ∧ e < 200) ∧ f ≤ e) ∧ f ≤ s ∧ s ≤ e
  · obtain ⟨k1, k2, k3, k4, k5⟩ := c1
    have ha : 0 ≤ a ∧ a < 30 := ⟨k1.1, Int32.lt_of_lt_of_le k1.2 h17.2⟩
    have hb : 0 ≤ b ∧ b ≤ 5 := ⟨k2.1, by clear hP hrf hm hy hg hF; grind⟩
    have hs : 0 ≤ s ∧ s ≤ 199 := ⟨Int32.le_trans k3.1.1 k4, by clear hP hrf hm hy hg hF; grind⟩
    rw [if_neg (fun q => q ⟨k1, k2, k3, k4, k5⟩)] at hP
    have hfit : ∀ y, a_does (d + 12) 221 [a_rf M, .int a, .int b, .int s] (n, t, K, L, I, R) (fun r h' => a_at (d + 12) (a_xm a_m241) 50 [some (a_rf M), some (.int a), some (.int b), some (.int s), some (.int f), some (.int e), y] (r.toList ++ []) h' P) := fun y => by
      refine xt_fitOf (d := d + 2) hS (moP_of hg.1 hm.2.1 hg.2.2) (mC_refl hg.1) ha hb hs (fun J hJ => ?_)
      rw [ftY_p h17 h10 hg.2.2]
      have g1 := gs_C hg hJ
      have hp := hP J (mF_le (mF_C hF hJ) (by omega)) g1
      by_cases cf : ftY Y a b s = 0
      · rw [if_pos cf] at hp
        have hin : a_does (d + 12) 239 [a_rf M, .int a, .int f, .int e] (n, t, K, L, J, R) (fun r h' => a_at (d + 12) (a_xm a_m241) 71 [some (a_rf M), some (.int a), some (.int b), some (.int s), some (.int f), some (.int e), some (.int 0)] (r.toList ++ []) h' P) := by
          refine xt_isWithinShare (d := d + 10) hS g1 h17 ha ?_
          by_cases cs : shB Y a f e = true
          · rw [if_pos cs] at hp ⊢
            have n10 : ¬ (1 : Int32) = 0 := by decide
            clear hP hrf hm hy hl hg hF g1
            simp only [q241_71, q241_74, q241_75, q241_78, q241_80, as_nil, as_i, as_r, Nat.reduceAdd, Nat.reduceLeDiff, z_eq0, z_eq1, z_or, z_em, Classical.not_not, not_false_eq_true, not_true_eq_false, true_and, and_true, false_and, and_false, and_self, true_implies, false_implies, implies_true, Option.toList_some, Option.toList_none, List.cons_append, List.nil_append, Nat.add_eq_zero_iff, a_nl_i, a_nl_r, a_nl_n, true_or, or_true, eq_self, ok_4, ok_5, ok_6, ok_7, ok_9, ok_10, ok_20, ok_21, ok_24, ok_30, ok_48, ok_50, ok_60, ok_80, ok_120, ok_180, ok_192, ok_200, ok_900, ok_1000, ok_84000, n10]
            try simp only [true_and, and_true, true_implies, false_implies, implies_true, not_true_eq_false, not_false_eq_true]
            first
              | exact hp
              | grind
          · rw [if_neg cs] at hp ⊢
            clear hP hrf hm hy hl hg hF g1
            simp only [q241_71, q241_74, q241_75, q241_78, q241_80, as_nil, as_i, as_r, Nat.reduceAdd, Nat.reduceLeDiff, z_eq0, z_eq1, z_or, z_em, Classical.not_not, not_false_eq_true, not_true_eq_false, true_and, and_true, false_and, and_false, and_self, true_implies, false_implies, implies_true, Option.toList_some, Option.toList_none, List.cons_append, List.nil_append, Nat.add_eq_zero_iff, a_nl_i, a_nl_r, a_nl_n, true_or, or_true, eq_self, ok_4, ok_5, ok_6, ok_7, ok_9, ok_10, ok_20, ok_21, ok_24, ok_30, ok_48, ok_50, ok_60, ok_80, ok_120, ok_180, ok_192, ok_200, ok_900, ok_1000, ok_84000]
            try simp only [true_and, and_true, true_implies, false_implies, implies_true, not_true_eq_false, not_false_eq_true]
            first
              | exact hp
              | grind
        clear hP hrf hm hy hl hg hF g1 hp
        simp only [q241_50, q241_52, q241_54, q241_57, q241_59, q241_62, q241_63, q241_64, q241_66, q241_68, m_0 hS, m_K hS, as_nil, as_i, as_r, Nat.reduceAdd, Nat.reduceLeDiff, z_eq0, z_eq1, z_or, z_em, Classical.not_not, not_false_eq_true, not_true_eq_false, true_and, and_true, false_and, and_false, and_self, true_implies, false_implies, implies_true, Option.toList_some, Option.toList_none, List.cons_append, List.nil_append, Nat.add_eq_zero_iff, a_nl_i, a_nl_r, a_nl_n, true_or, or_true, eq_self, ok_4, ok_5, ok_6, ok_7, ok_9, ok_10, ok_20, ok_21, ok_24, ok_30, ok_48, ok_50, ok_60, ok_80, ok_120, ok_180, ok_192, ok_200, ok_900, ok_1000, ok_84000, cf]
        try simp only [true_and, and_true, true_implies, false_implies, implies_true, not_true_eq_false, not_false_eq_true]
        first
          | exact hin
          | grind
      · rw [if_neg cf] at hp
        clear hP hrf hm hy hl hg hF g1
        simp only [q241_50, q241_52, q241_54, q241_57, q241_59, q241_80, as_nil, as_i, as_r, Nat.reduceAdd, Nat.reduceLeDiff, z_eq0, z_eq1, z_or, z_em, Classical.not_not, not_false_eq_true, not_true_eq_false, true_and, and_true, false_and, and_false, and_self, true_implies, false_implies, implies_true, Option.toList_some, Option.toList_none, List.cons_append, List.nil_append, Nat.add_eq_zero_iff, a_nl_i, a_nl_r, a_nl_n, true_or, or_true, eq_self, ok_4, ok_5, ok_6, ok_7, ok_9, ok_10, ok_20, ok_21, ok_24, ok_30, ok_48, ok_50, ok_60, ok_80, ok_120, ok_180, ok_192, ok_200, ok_900, ok_1000, ok_84000, cf]
        try simp only [true_and, and_true, true_implies, false_implies, implies_true, not_true_eq_false, not_false_eq_true]
        first
          | exact hp
          | grind
    clear hP hrf hm hy hl hg hF
    rw [a_enter1 (M := a_m241) rfl (a_cat_rf (a_cat_int (a_cat_int (a_cat_int (a_cat_int (a_cat_int a_cat_nil)))))) (show 6 ≤ 7 by decide)]
    show a_at _ (a_xm a_m241) 0 [some (a_rf M), some (.int a), some (.int b), some (.int s), some (.int f), some (.int e), none] [] _ _
    simp only [q241_0, q241_1, q241_2, q241_5, q241_8, q241_9, q241_10, q241_13, q241_16, q241_18, q241_20, q241_23, q241_26, q241_27, q241_29, q241_31, q241_34, q241_37, q241_38, q241_39, q241_42, q241_43, q241_44, q241_45, q241_46, q241_47, m_0 hS, m_K hS, sp_isAsk hS, sp_isBench hS, sp_isSpan, sp_in, sp_refuse_1 hS, sp_refuse_2 hS, sp_refuse_3 hS, sp_refuse_4 hS, sp_refuse_5 hS, sp_refuse_6 hS, as_nil, as_i, as_r, Nat.reduceAdd, Nat.reduceLeDiff, z_eq0, z_eq1, z_or, z_em, Classical.not_not, not_false_eq_true, not_true_eq_false, true_and, and_true, false_and, and_false, and_self, true_implies, false_implies, implies_true, Option.toList_some, Option.toList_none, List.cons_append, List.nil_append, Nat.add_eq_zero_iff, a_nl_i, a_nl_r, a_nl_n, true_or, or_true, eq_self, ok_4, ok_5, ok_6, ok_7, ok_9, ok_10, ok_20, ok_21, ok_24, ok_30, ok_48, ok_50, ok_60, ok_80, ok_120, ok_180, ok_192, ok_200, ok_900, ok_1000, ok_84000, e17, m17, e6, m6, m199, k1, k2, k3, k4, k5, ha]
    try simp only [true_and, and_true, true_implies, false_implies, implies_true, not_true_eq_false, not_false_eq_true]
    first
      | exact hfit _
      | grind
  · rw [if_pos c1] at hP
    have hr := hP _ (hrf 1).1 (hrf 1).2
    clear hP hrf hm hy hl hg hF
    rw [a_enter1 (M := a_m241) rfl (a_cat_rf (a_cat_int (a_cat_int (a_cat_int (a_cat_int (a_cat_int a_cat_nil)))))) (show 6 ≤ 7 by decide)]
    show a_at _ (a_xm a_m241) 0 [some (a_rf M), some (.int a), some (.int b), some (.int s), some (.int f), some (.int e), none] [] _ _
    simp only [q241_0, q241_1, q241_2, q241_5, q241_8, q241_9, q241_10, q241_13, q241_16, q241_18, q241_20, q241_23, q241_26, q241_27, q241_29, q241_31, q241_34, q241_37, q241_38, q241_39, q241_42, m_0 hS, m_K hS, sp_isAsk hS, sp_isBench hS, sp_isSpan, sp_in, sp_refuse_1 hS, sp_refuse_2 hS, sp_refuse_3 hS, sp_refuse_4 hS, sp_refuse_5 hS, sp_refuse_6 hS, as_nil, as_i, as_r, Nat.reduceAdd, Nat.reduceLeDiff, z_eq0, z_eq1, z_or, z_em, Classical.not_not, not_false_eq_true, not_true_eq_false, true_and, and_true, false_and, and_false, and_self, true_implies, false_implies, implies_true, Option.toList_some, Option.toList_none, List.cons_append, List.nil_append, Nat.add_eq_zero_iff, a_nl_i, a_nl_r, a_nl_n, true_or, or_true, eq_self, ok_4, ok_5, ok_6, ok_7, ok_9, ok_10, ok_20, ok_21, ok_24, ok_30, ok_48, ok_50, ok_60, ok_80, ok_120, ok_180, ok_192, ok_200, ok_900, ok_1000, ok_84000, e17, m17, e6, m6, m199]
    try simp only [true_and, and_true, true_implies, false_implies, implies_true, not_true_eq_false, not_false_eq_true]
    by_cases q1 : 0 ≤ a ∧ a < Y 0 17
    · by_cases q2 : 0 ≤ b ∧ b < Y 0 6
      · by_cases q3 : (0 ≤ f ∧ f < 200) ∧ (0 ≤ e ∧ e < 200) ∧ f ≤ e
        · have q4 : ¬ (f ≤ s ∧ s ≤ e) := fun q => c1 ⟨q1, q2, q3, q.1, q.2⟩
          simp only [q1, q2, q3, q4]
          try simp only [true_and, and_true, true_implies, false_implies, implies_true, not_true_eq_false, not_false_eq_true]
          first
            | exact hr
            | grind
        · simp only [q1, q2, q3]
          try simp only [true_and, and_true, true_implies, false_implies, implies_true, not_true_eq_false, not_false_eq_true]
          first
            | exact hr
            | grind
      · simp only [q1, q2]
        try simp only [true_and, and_true, true_implies, false_implies, implies_true, not_true_eq_false, not_false_eq_true]
        first
          | exact hr
          | grind
    · simp only [q1]
      try simp only [true_and, and_true, true_implies, false_implies, implies_true, not_true_eq_false, not_false_eq_true]
      first
        | exact hr
        | grind
end YR1
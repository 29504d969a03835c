/-! the reference's public calls -/
section YM0
variable {d n t M : Nat} {K L : Nat → Nat} {I I0 J J0 J1 J2 : Nat → Nat → Int32} {R : Nat → Nat → Nat} {P : Option Value → AH → Prop} {f : Nat → Int32} {e : Int32}
variable {Y Z W : Nat → Nat → Int32}
theorem le_m1 {x z : Int32} (h : 0 ≤ z ∧ z ≤ 30) : (x ≤ z - 1) = (x < z) := by
  refine propext ⟨fun q => ?_, fun q => ?_⟩
  · grind
  · grind
theorem xp_take (hS : m_S M K L R) {I1 : Nat → Nat → Int32} (hm : okY Y) {c : Nat} (hc : c + 130 ≤ 84000) (hF : mF M c I1 I) (hg : gs M I0 I Y) {a : Int32} (hP : ∀ J, mF M (c + 120) I1 J → gs M I0 J (tkY Y a).2 → P (some (.int (tkY Y a).1)) (n, t, K, L, J, R)) : a_does (d + 13) 233 [a_rf M, .int a] (n, t, K, L, I, R) P := by
  have hy := hm.1
  have h17 := hy.2.2.2.2.1
  have h10 := hy.2.1
  have h6 := hy.2.2.2.2.2.1
  have hl := hy.2.2.1
  have hrf : ∀ k : Nat, mF M (c + 120) I1 (a_ui I (M + 23) k (I (M + 23) k + 1)) ∧ gs M I0 (a_ui I (M + 23) k (I (M + 23) k + 1)) Y := fun k => ⟨mF_le (sF_refused hF) (by omega), gs_ui hg (sR_refused hg.1) (by omega) ⟨by unfold ps1; omega, by omega⟩⟩
  have e17 : I M 17 = Y 0 17 := hg.2.2.1 0 17 (by unfold ps1; omega)
  have e6 : I M 6 = Y 0 6 := hg.2.2.1 0 6 (by unfold ps1; omega)
  have e0 : I M 0 = Y 0 0 := hg.2.2.1 0 0 (by unfold ps1; omega)
  have m17 : ∀ x : Int32, (x ≤ Y 0 17 - 1) = (x < Y 0 17) := fun x => le_m1 h17
  have m6 : ∀ x : Int32, (x ≤ Y 0 6 - 1) = (x < Y 0 6) := fun x => le_m1 ⟨h6.1, Int32.le_trans h6.2 (by decide)⟩
  have m199 : ∀ x : Int32, (x ≤ 199) = (x < 200) := fun x => propext ⟨fun q => Int32.lt_of_le_of_lt q (by decide), fun q => by clear hP hrf hm hg hF; grind⟩
  have e20 : I (M + 20) a.toNatClampNeg = Y 20 a.toNatClampNeg := hg.2.2.1 20 _ (by unfold ps1; omega)
  have e21 : I (M + 21) a.toNatClampNeg = Y 21 a.toNatClampNeg := hg.2.2.1 21 _ (by unfold ps1; omega)
  unfold tkY at hP
  by_cases c1 : 0 ≤ a ∧ a < Y 0 17
  · have ha : 0 ≤ a ∧ a < 30 := ⟨c1.1, Int32.lt_of_lt_of_le c1.2 h17.2⟩
    rw [if_neg (fun q => q c1)] at hP
    by_cases c2 : 0 ≤ Y 20 a.toNatClampNeg ∧ ¬ Y 21 a.toNatClampNeg * 8 < Y 0 0
    · rw [if_neg (fun q => q c2)] at hP
      have hcl : a_does (d + 12) 186 [a_rf M, .int a] (n, t, K, L, I, R) (fun r h' => a_at (d + 12) (a_xm a_m233) 47 [some (a_rf M), some (.int a)] (r.toList ++ []) h' P) := by
        refine xt_takeFrom (d := d + 10) hS hF (by omega) ha (fun J f1 _ y1 => ?_)
        have hp := hP J (mF_le f1 (by omega)) (yR_gs hg y1 (unY_p hg.2.2 ha))
        clear hP hrf hm hy hl hg hF f1 y1
        simp only [q233_47, q233_48, as_nil, as_i, as_r, Nat.reduceAdd, Nat.reduceLeDiff, z_eq0, z_eq1, z_or, z_em, Classical.not_not, not_false_eq_true, not_true_eq_false, true_and, and_true, false_and, and_false, and_self, true_implies, false_implies, implies_true, Option.toList_some, Option.toList_none, List.cons_append, List.nil_append, Nat.add_eq_zero_iff, a_nl_i, a_nl_r, a_nl_n, true_or, or_true, eq_self, ok_4, ok_5, ok_6, ok_7, ok_9, ok_10, ok_20, ok_21, ok_24, ok_30, ok_48, ok_50, ok_60, ok_80, ok_120, ok_180, ok_192, ok_200, ok_900, ok_1000, ok_84000]
        exact hp
      rw [Int32.mul_comm] at c2
      clear hP hrf hm hy hl hg hF
      rw [a_enter1 (M := a_m233) rfl (a_cat_rf (a_cat_int a_cat_nil)) (show 2 ≤ 2 by decide)]
      show a_at _ (a_xm a_m233) 0 [some (a_rf M), some (.int a)] [] _ _
      simp only [q233_0, q233_1, q233_2, q233_5, q233_8, q233_9, q233_10, q233_13, q233_14, q233_15, q233_16, q233_19, q233_22, q233_23, q233_24, q233_27, q233_28, q233_29, q233_32, q233_35, q233_36, q233_38, q233_41, q233_42, q233_43, q233_44, m_0 hS, m_K hS, mR_atShift hS, mK_atShift hS, mL_atShift hS, sp_isAsk hS, sp_refuse_1 hS, sp_refuse_2 hS, sp_refuse_3 hS, sp_refuse_4 hS, sp_refuse_5 hS, sp_refuse_6 hS, sp_hasPlace hS, sp_isBegun hS, as_nil, as_i, as_r, Nat.reduceAdd, Nat.reduceLeDiff, z_eq0, z_eq1, z_or, z_em, Classical.not_not, not_false_eq_true, not_true_eq_false, true_and, and_true, false_and, and_false, and_self, true_implies, false_implies, implies_true, Option.toList_some, Option.toList_none, List.cons_append, List.nil_append, Nat.add_eq_zero_iff, a_nl_i, a_nl_r, a_nl_n, true_or, or_true, eq_self, ok_4, ok_5, ok_6, ok_7, ok_9, ok_10, ok_20, ok_21, ok_24, ok_30, ok_48, ok_50, ok_60, ok_80, ok_120, ok_180, ok_192, ok_200, ok_900, ok_1000, ok_84000, e17, m17, c1, ha, e20, e21, e0, c2]
      try simp only [true_and, and_true, true_implies, false_implies, implies_true, not_true_eq_false, not_false_eq_true]
      first
        | exact hcl
        | grind
    · rw [if_pos c2] at hP
      have hr := hP _ (hrf 3).1 (hrf 3).2
      rw [Int32.mul_comm] at c2
      clear hP hrf hm hy hl hg hF
      rw [a_enter1 (M := a_m233) rfl (a_cat_rf (a_cat_int a_cat_nil)) (show 2 ≤ 2 by decide)]
      show a_at _ (a_xm a_m233) 0 [some (a_rf M), some (.int a)] [] _ _
      simp only [q233_0, q233_1, q233_2, q233_5, q233_8, q233_9, q233_10, q233_13, q233_14, q233_15, q233_16, q233_19, q233_22, q233_23, q233_24, q233_27, q233_28, q233_29, q233_32, q233_35, q233_36, q233_38, q233_41, m_0 hS, m_K hS, mR_atShift hS, mK_atShift hS, mL_atShift hS, sp_isAsk hS, sp_refuse_1 hS, sp_refuse_2 hS, sp_refuse_3 hS, sp_refuse_4 hS, sp_refuse_5 hS, sp_refuse_6 hS, sp_hasPlace hS, sp_isBegun hS, as_nil, as_i, as_r, Nat.reduceAdd, Nat.reduceLeDiff, z_eq0, z_eq1, z_or, z_em, Classical.not_not, not_false_eq_true, not_true_eq_false, true_and, and_true, false_and, and_false, and_self, true_implies, false_implies, implies_true, Option.toList_some, Option.toList_none, List.cons_append, List.nil_append, Nat.add_eq_zero_iff, a_nl_i, a_nl_r, a_nl_n, true_or, or_true, eq_self, ok_4, ok_5, ok_6, ok_7, ok_9, ok_10, ok_20, ok_21, ok_24, ok_30, ok_48, ok_50, ok_60, ok_80, ok_120, ok_180, ok_192, ok_200, ok_900, ok_1000, ok_84000, e17, m17, c1, ha, e20, e21, e0]
      try simp only [true_and, and_true, true_implies, false_implies, implies_true, not_true_eq_false, not_false_eq_true]
      first
        | exact hr
        | grind
  · rw [if_pos c1] at hP
    have hr := hP _ (hrf 1).1 (hrf 1).2
    clear hP hrf hm hy hl hg hF
    rw [a_enter1 (M := a_m233) rfl (a_cat_rf (a_cat_int a_cat_nil)) (show 2 ≤ 2 by decide)]
    show a_at _ (a_xm a_m233) 0 [some (a_rf M), some (.int a)] [] _ _
    simp only [q233_0, q233_1, q233_2, q233_5, q233_8, q233_9, q233_10, q233_13, m_0 hS, m_K hS, sp_isAsk hS, sp_refuse_1 hS, sp_refuse_2 hS, sp_refuse_3 hS, sp_refuse_4 hS, sp_refuse_5 hS, sp_refuse_6 hS, as_nil, as_i, as_r, Nat.reduceAdd, Nat.reduceLeDiff, z_eq0, z_eq1, z_or, z_em, Classical.not_not, not_false_eq_true, not_true_eq_false, true_and, and_true, false_and, and_false, and_self, true_implies, false_implies, implies_true, Option.toList_some, Option.toList_none, List.cons_append, List.nil_append, Nat.add_eq_zero_iff, a_nl_i, a_nl_r, a_nl_n, true_or, or_true, eq_self, ok_4, ok_5, ok_6, ok_7, ok_9, ok_10, ok_20, ok_21, ok_24, ok_30, ok_48, ok_50, ok_60, ok_80, ok_120, ok_180, ok_192, ok_200, ok_900, ok_1000, ok_84000, e17, m17, c1]
    try simp only [true_and, and_true, true_implies, false_implies, implies_true, not_true_eq_false, not_false_eq_true]
    first
      | exact hr
      | grind
theorem xp_again (hS : m_S M K L R) {I1 : Nat → Nat → Int32} (hm : okY Y) {c : Nat} (hc : c + 130 ≤ 84000) (hF : mF M c I1 I) (hg : gs M I0 I Y) (hP : ∀ J, mF M (c + 120) I1 J → gs M I0 J (agY Y).1 → P (some (.int (Int32.ofNat (agY Y).2))) (n, t, K, L, J, R)) : a_does (d + 13) 247 [a_rf M] (n, t, K, L, I, R) P := xt_again hS hm.2.1 hm.1.2.2.2.2.1 hm.1.2.1 hm.1.2.2.2.2.2.1 hm.1.2.2.1 hm.2.2 hc hF hg (fun J q1 q2 _ _ => hP J q1 q2)
theorem xp_plan (hS : m_S M K L R) {I1 : Nat → Nat → Int32} (hm : okY Y) {c : Nat} (hc : c + 130 ≤ 84000) (hF : mF M c I1 I) (hg : gs M I0 I Y) {a b : Int32} (hP : ∀ J, mF M (c + 120) I1 J → gs M I0 J (plO Y a b).2 → P (some (.int (plO Y a b).1)) (n, t, K, L, J, R)) : a_does (d + 14) 234 [a_rf M, .int a, .int b] (n, t, K, L, I, R) P := by
  have hy := hm.1
  have h17 := hy.2.2.2.2.1
  have h10 := hy.2.1
  have h6 := hy.2.2.2.2.2.1
  have hl := hy.2.2.1
  have hrf : ∀ k : Nat, mF M (c + 120) I1 (a_ui I (M + 23) k (I (M + 23) k + 1)) ∧ gs M I0 (a_ui I (M + 23) k (I (M + 23) k + 1)) Y := fun k => ⟨mF_le (sF_refused hF) (by omega), gs_ui hg (sR_refused hg.1) (by omega) ⟨by unfold ps1; omega, by omega⟩⟩
  have e17 : I M 17 = Y 0 17 := hg.2.2.1 0 17 (by unfold ps1; omega)
  have e6 : I M 6 = Y 0 6 := hg.2.2.1 0 6 (by unfold ps1; omega)
  have e0 : I M 0 = Y 0 0 := hg.2.2.1 0 0 (by unfold ps1; omega)
  have m17 : ∀ x : Int32, (x ≤ Y 0 17 - 1) = (x < Y 0 17) := fun x => le_m1 h17
  have m6 : ∀ x : Int32, (x ≤ Y 0 6 - 1) = (x < Y 0 6) := fun x => le_m1 ⟨h6.1, Int32.le_trans h6.2 (by decide)⟩
  have m199 : ∀ x : Int32, (x ≤ 199) = (x < 200) := fun x => propext ⟨fun q => Int32.lt_of_le_of_lt q (by decide), fun q => by clear hP hrf hm hg hF; grind⟩
  unfold plO at hP
  by_cases c1 : (0 ≤ a ∧ a < 200) ∧ (0 ≤ b ∧ b < 200) ∧ a ≤ b
  · rw [if_neg (fun q => q c1)] at hP
    have hcl := xt_plan14 (d := d) (P := P) (f := a) (e := b) hS hm.2.1 h17 h10 h6 hl hc hF hg ⟨c1.1.1, by rw [m199]; exact c1.1.2⟩ (by rw [m199]; exact c1.2.1.2) (fun J q1 q2 _ _ _ _ _ => hP J q1 q2)
    clear hP hrf hm hy hl hg hF
    rw [a_enter1 (M := a_m234) rfl (a_cat_rf (a_cat_int (a_cat_int a_cat_nil))) (show 3 ≤ 6 by decide)]
    show a_at _ (a_xm a_m234) 0 [some (a_rf M), some (.int a), some (.int b), none, none, none] [] _ _
    simp only [q234_0, q234_1, q234_2, q234_5, sp_isSpan, as_nil, as_i, as_r, Nat.reduceAdd, Nat.reduceLeDiff, z_eq0, z_eq1, z_or, z_em, Classical.not_not, not_false_eq_true, not_true_eq_false, true_and, and_true, false_and, and_false, and_self, true_implies, false_implies, implies_true, Option.toList_some, Option.toList_none, List.cons_append, List.nil_append, Nat.add_eq_zero_iff, a_nl_i, a_nl_r, a_nl_n, true_or, or_true, eq_self, ok_4, ok_5, ok_6, ok_7, ok_9, ok_10, ok_20, ok_21, ok_24, ok_30, ok_48, ok_50, ok_60, ok_80, ok_120, ok_180, ok_192, ok_200, ok_900, ok_1000, ok_84000, m199, c1]
    try simp only [true_and, and_true, true_implies, false_implies, implies_true, not_true_eq_false, not_false_eq_true]
    first
      | exact hcl
      | grind
  · rw [if_pos c1] at hP
    have hr := hP _ (hrf 1).1 (hrf 1).2
    clear hP hrf hm hy hl hg hF
    rw [a_enter1 (M := a_m234) rfl (a_cat_rf (a_cat_int (a_cat_int a_cat_nil))) (show 3 ≤ 6 by decide)]
    show a_at _ (a_xm a_m234) 0 [some (a_rf M), some (.int a), some (.int b), none, none, none] [] _ _
    simp only [q234_0, q234_1, q234_2, q234_5, q234_8, q234_9, q234_10, q234_13, m_0 hS, m_K hS, sp_isSpan, sp_refuse_1 hS, sp_refuse_2 hS, sp_refuse_3 hS, sp_refuse_4 hS, sp_refuse_5 hS, sp_refuse_6 hS, as_nil, as_i, as_r, Nat.reduceAdd, Nat.reduceLeDiff, z_eq0, z_eq1, z_or, z_em, Classical.not_not, not_false_eq_true, not_true_eq_false, true_and, and_true, false_and, and_false, and_self, true_implies, false_implies, implies_true, Option.toList_some, Option.toList_none, List.cons_append, List.nil_append, Nat.add_eq_zero_iff, a_nl_i, a_nl_r, a_nl_n, true_or, or_true, eq_self, ok_4, ok_5, ok_6, ok_7, ok_9, ok_10, ok_20, ok_21, ok_24, ok_30, ok_48, ok_50, ok_60, ok_80, ok_120, ok_180, ok_192, ok_200, ok_900, ok_1000, ok_84000, m199, c1]
    try simp only [true_and, and_true, true_implies, false_implies, implies_true, not_true_eq_false, not_false_eq_true]
    first
      | exact hr
      | grind
theorem xp_give (hS : m_S M K L R) {I1 : Nat → Nat → Int32} (hm : okY Y) {c : Nat} (hc : c + 130 ≤ 84000) (hF : mF M c I1 I) (hg : gs M I0 I Y) {a b s : Int32} (hP : ∀ J, mF M (c + 120) I1 J → gs M I0 J (gvY Y a b s).2 → P (some (.int (gvY Y a b s).1)) (n, t, K, L, J, R)) : a_does (d + 13) 229 [a_rf M, .int a, .int b, .int s] (n, t, K, L, I, R) P := by
  have hy := hm.1
  have h17 := hy.2.2.2.2.1
  have h10 := hy.2.1
  have h6 := hy.2.2.2.2.2.1
  have hl := hy.2.2.1
  have hrf : ∀ k : Nat, mF M (c + 120) I1 (a_ui I (M + 23) k (I (M + 23) k + 1)) ∧ gs M I0 (a_ui I (M + 23) k (I (M + 23) k + 1)) Y := fun k => ⟨mF_le (sF_refused hF) (by omega), gs_ui hg (sR_refused hg.1) (by omega) ⟨by unfold ps1; omega, by omega⟩⟩
  have e17 : I M 17 = Y 0 17 := hg.2.2.1 0 17 (by unfold ps1; omega)
  have e6 : I M 6 = Y 0 6 := hg.2.2.1 0 6 (by unfold ps1; omega)
  have e0 : I M 0 = Y 0 0 := hg.2.2.1 0 0 (by unfold ps1; omega)
  have m17 : ∀ x : Int32, (x ≤ Y 0 17 - 1) = (x < Y 0 17) := fun x => le_m1 h17
  have m6 : ∀ x : Int32, (x ≤ Y 0 6 - 1) = (x < Y 0 6) := fun x => le_m1 ⟨h6.1, Int32.le_trans h6.2 (by decide)⟩
  have m199 : ∀ x : Int32, (x ≤ 199) = (x < 200) := fun x => propext ⟨fun q => Int32.lt_of_le_of_lt q (by decide), fun q => by clear hP hrf hm hg hF; grind⟩
  have e20 : I (M + 20) a.toNatClampNeg = Y 20 a.toNatClampNeg := hg.2.2.1 20 _ (by unfold ps1; omega)
  have e18 : I (M + 18) a.toNatClampNeg = Y 18 a.toNatClampNeg := hg.2.2.1 18 _ (by unfold ps1; omega)
  unfold gvY at hP
  by_cases c1 : (0 ≤ a ∧ a < Y 0 17) ∧ (0 ≤ b ∧ b < Y 0 6) ∧ (0 ≤ s ∧ s < 200)
  · have ha : 0 ≤ a ∧ a < 30 := ⟨c1.1.1, Int32.lt_of_lt_of_le c1.1.2 h17.2⟩
    have hb : 0 ≤ b ∧ b ≤ 5 := ⟨c1.2.1.1, by clear hP hrf hm hy hg hF; grind⟩
    have hs : 0 ≤ s ∧ s ≤ 199 := ⟨c1.2.2.1, by rw [m199]; exact c1.2.2.2⟩
    rw [if_neg (fun q => q c1)] at hP
    by_cases c4 : Y 18 a.toNatClampNeg = 0
    · by_cases c5 : 0 ≤ Y 20 a.toNatClampNeg
      · rw [if_pos (Or.inr (Or.inl c5))] at hP
        have hr := hP _ (hrf 3).1 (hrf 3).2
        clear hP hrf hm hy hl hg hF
        rw [a_enter1 (M := a_m229) rfl (a_cat_rf (a_cat_int (a_cat_int (a_cat_int a_cat_nil)))) (show 4 ≤ 4 by decide)]
        show a_at _ (a_xm a_m229) 0 [some (a_rf M), some (.int a), some (.int b), some (.int s)] [] _ _
        simp only [q229_0, q229_1, q229_2, q229_5, q229_8, q229_9, q229_10, q229_13, q229_16, q229_17, q229_20, q229_23, q229_24, q229_25, q229_28, q229_29, q229_30, q229_33, q229_34, q229_35, q229_38, q229_39, q229_40, q229_43, q229_46, q229_47, q229_48, q229_49, q229_50, q229_53, q229_56, q229_57, q229_59, q229_62, m_0 hS, m_K hS, mR_isGone hS, mK_isGone hS, mL_isGone hS, sp_isAsk hS, sp_isBench hS, sp_isShift, sp_refuse_1 hS, sp_refuse_2 hS, sp_refuse_3 hS, sp_refuse_4 hS, sp_refuse_5 hS, sp_refuse_6 hS, sp_hasPlace hS, as_nil, as_i, as_r, Nat.reduceAdd, Nat.reduceLeDiff, z_eq0, z_eq1, z_or, z_em, Classical.not_not, not_false_eq_true, not_true_eq_false, true_and, and_true, false_and, and_false, and_self, true_implies, false_implies, implies_true, Option.toList_some, Option.toList_none, List.cons_append, List.nil_append, Nat.add_eq_zero_iff, a_nl_i, a_nl_r, a_nl_n, true_or, or_true, eq_self, ok_4, ok_5, ok_6, ok_7, ok_9, ok_10, ok_20, ok_21, ok_24, ok_30, ok_48, ok_50, ok_60, ok_80, ok_120, ok_180, ok_192, ok_200, ok_900, ok_1000, ok_84000, e17, m17, e6, m6, m199, c1, ha, e20, e18, c4, c5]
        try simp only [true_and, and_true, true_implies, false_implies, implies_true, not_true_eq_false, not_false_eq_true]
        first
          | exact hr
          | grind
      · have hfit : a_does (d + 12) 221 [a_rf M, .int a, .int b, .int s] (n, t, K, L, I, R) (fun r h' => a_at (d + 12) (a_xm a_m229) 53 [some (a_rf M), some (.int a), some (.int b), some (.int s)] (r.toList ++ []) h' P) := by
          refine xt_fitOf (d := d + 2) hS (moP_of hg.1 hm.2.1 hg.2.2) (mC_refl hg.1) ha hb hs (fun J hJ => ?_)
          rw [ftY_p h17 h10 hg.2.2]
          have f1 := mF_C hF hJ
          have g1 := gs_C hg hJ
          by_cases cf : ftY Y a b s = 0
          · rw [if_neg (fun q => by rcases q with q | q | q; exact q c4; exact c5 q; exact q cf)] at hP
            have hgive : a_does (d + 12) 230 [a_rf M, .int a, .int b, .int s] (n, t, K, L, J, R) (fun r h' => a_at (d + 12) (a_xm a_m229) 70 [some (a_rf M), some (.int a), some (.int b), some (.int s)] (r.toList ++ []) h' P) := by
              refine xt_giveTo (d := d + 1) hS (moP_of g1.1 hm.2.1 g1.2.2) f1 (by omega) ha hb ⟨Int32.le_trans (by decide) hs.1, Int32.le_trans hs.2 (by decide)⟩ (fun J3 f3 y3 => ?_)
              have hp := hP J3 (mF_le f3 (by omega)) (yR_gs g1 y3 (puY_p h17 h10 g1.2.2 ha))
              clear hP hrf hm hy hl hg hF f1 g1 f3 y3
              simp only [q229_70, q229_71, as_nil, as_i, as_r, Nat.reduceAdd, Nat.reduceLeDiff, z_eq0, z_eq1, z_or, z_em, Classical.not_not, not_false_eq_true, not_true_eq_false, true_and, and_true, false_and, and_false, and_self, true_implies, false_implies, implies_true, Option.toList_some, Option.toList_none, List.cons_append, List.nil_append, Nat.add_eq_zero_iff, a_nl_i, a_nl_r, a_nl_n, true_or, or_true, eq_self, ok_4, ok_5, ok_6, ok_7, ok_9, ok_10, ok_20, ok_21, ok_24, ok_30, ok_48, ok_50, ok_60, ok_80, ok_120, ok_180, ok_192, ok_200, ok_900, ok_1000, ok_84000]
              exact hp
            clear hP hrf hm hy hl hg hF f1 g1
            simp only [q229_53, q229_63, q229_64, q229_65, q229_66, q229_67, m_0 hS, m_K hS, as_nil, as_i, as_r, Nat.reduceAdd, Nat.reduceLeDiff, z_eq0, z_eq1, z_or, z_em, Classical.not_not, not_false_eq_true, not_true_eq_false, true_and, and_true, false_and, and_false, and_self, true_implies, false_implies, implies_true, Option.toList_some, Option.toList_none, List.cons_append, List.nil_append, Nat.add_eq_zero_iff, a_nl_i, a_nl_r, a_nl_n, true_or, or_true, eq_self, ok_4, ok_5, ok_6, ok_7, ok_9, ok_10, ok_20, ok_21, ok_24, ok_30, ok_48, ok_50, ok_60, ok_80, ok_120, ok_180, ok_192, ok_200, ok_900, ok_1000, ok_84000, cf]
            try simp only [true_and, and_true, true_implies, false_implies, implies_true, not_true_eq_false, not_false_eq_true]
            first
              | exact hgive
              | grind
          · rw [if_pos (Or.inr (Or.inr cf))] at hP
            have hr := hP (a_ui J (M + 23) 3 (J (M + 23) 3 + 1)) (mF_le (sF_refused f1) (by omega)) (gs_ui g1 (sR_refused g1.1) (by omega) ⟨by unfold ps1; omega, by omega⟩)
            clear hP hrf hm hy hl hg hF f1 g1
            simp only [q229_53, q229_56, q229_57, q229_59, q229_62, m_0 hS, m_K hS, sp_refuse_1 hS, sp_refuse_2 hS, sp_refuse_3 hS, sp_refuse_4 hS, sp_refuse_5 hS, sp_refuse_6 hS, as_nil, as_i, as_r, Nat.reduceAdd, Nat.reduceLeDiff, z_eq0, z_eq1, z_or, z_em, Classical.not_not, not_false_eq_true, not_true_eq_false, true_and, and_true, false_and, and_false, and_self, true_implies, false_implies, implies_true, Option.toList_some, Option.toList_none, List.cons_append, List.nil_append, Nat.add_eq_zero_iff, a_nl_i, a_nl_r, a_nl_n, true_or, or_true, eq_self, ok_4, ok_5, ok_6, ok_7, ok_9, ok_10, ok_20, ok_21, ok_24, ok_30, ok_48, ok_50, ok_60, ok_80, ok_120, ok_180, ok_192, ok_200, ok_900, ok_1000, ok_84000, cf]
            try simp only [true_and, and_true, true_implies, false_implies, implies_true, not_true_eq_false, not_false_eq_true]
            first
              | exact hr
              | grind
        clear hP hrf hm hy hl hg hF
        rw [a_enter1 (M := a_m229) rfl (a_cat_rf (a_cat_int (a_cat_int (a_cat_int a_cat_nil)))) (show 4 ≤ 4 by decide)]
        show a_at _ (a_xm a_m229) 0 [some (a_rf M), some (.int a), some (.int b), some (.int s)] [] _ _
        simp only [q229_0, q229_1, q229_2, q229_5, q229_8, q229_9, q229_10, q229_13, q229_16, q229_17, q229_20, q229_23, q229_24, q229_25, q229_28, q229_29, q229_30, q229_33, q229_34, q229_35, q229_38, q229_39, q229_40, q229_43, q229_46, q229_47, q229_48, q229_49, q229_50, m_0 hS, m_K hS, mR_isGone hS, mK_isGone hS, mL_isGone hS, sp_isAsk hS, sp_isBench hS, sp_isShift, sp_refuse_1 hS, sp_refuse_2 hS, sp_refuse_3 hS, sp_refuse_4 hS, sp_refuse_5 hS, sp_refuse_6 hS, sp_hasPlace hS, as_nil, as_i, as_r, Nat.reduceAdd, Nat.reduceLeDiff, z_eq0, z_eq1, z_or, z_em, Classical.not_not, not_false_eq_true, not_true_eq_false, true_and, and_true, false_and, and_false, and_self, true_implies, false_implies, implies_true, Option.toList_some, Option.toList_none, List.cons_append, List.nil_append, Nat.add_eq_zero_iff, a_nl_i, a_nl_r, a_nl_n, true_or, or_true, eq_self, ok_4, ok_5, ok_6, ok_7, ok_9, ok_10, ok_20, ok_21, ok_24, ok_30, ok_48, ok_50, ok_60, ok_80, ok_120, ok_180, ok_192, ok_200, ok_900, ok_1000, ok_84000, e17, m17, e6, m6, m199, c1, ha, e20, e18, c4, c5]
        try simp only [true_and, and_true, true_implies, false_implies, implies_true, not_true_eq_false, not_false_eq_true]
        first
          | exact hfit
          | grind
    · rw [if_pos (Or.inl c4)] at hP
      have hr := hP _ (hrf 3).1 (hrf 3).2
      clear hP hrf hm hy hl hg hF
      rw [a_enter1 (M := a_m229) rfl (a_cat_rf (a_cat_int (a_cat_int (a_cat_int a_cat_nil)))) (show 4 ≤ 4 by decide)]
      show a_at _ (a_xm a_m229) 0 [some (a_rf M), some (.int a), some (.int b), some (.int s)] [] _ _
      simp only [q229_0, q229_1, q229_2, q229_5, q229_8, q229_9, q229_10, q229_13, q229_16, q229_17, q229_20, q229_23, q229_24, q229_25, q229_28, q229_29, q229_30, q229_33, q229_34, q229_35, q229_38, q229_39, q229_40, q229_43, q229_46, q229_47, q229_48, q229_49, q229_50, q229_53, q229_56, q229_57, q229_59, q229_62, m_0 hS, m_K hS, mR_isGone hS, mK_isGone hS, mL_isGone hS, sp_isAsk hS, sp_isBench hS, sp_isShift, sp_refuse_1 hS, sp_refuse_2 hS, sp_refuse_3 hS, sp_refuse_4 hS, sp_refuse_5 hS, sp_refuse_6 hS, sp_hasPlace hS, as_nil, as_i, as_r, Nat.reduceAdd, Nat.reduceLeDiff, z_eq0, z_eq1, z_or, z_em, Classical.not_not, not_false_eq_true, not_true_eq_false, true_and, and_true, false_and, and_false, and_self, true_implies, false_implies, implies_true, Option.toList_some, Option.toList_none, List.cons_append, List.nil_append, Nat.add_eq_zero_iff, a_nl_i, a_nl_r, a_nl_n, true_or, or_true, eq_self, ok_4, ok_5, ok_6, ok_7, ok_9, ok_10, ok_20, ok_21, ok_24, ok_30, ok_48, ok_50, ok_60, ok_80, ok_120, ok_180, ok_192, ok_200, ok_900, ok_1000, ok_84000, e17, m17, e6, m6, m199, c1, ha, e20, e18, c4]
      try simp only [true_and, and_true, true_implies, false_implies, implies_true, not_true_eq_false, not_false_eq_true]
      first
        | exact hr
        | grind
  · rw [if_pos c1] at hP
    have hr := hP _ (hrf 1).1 (hrf 1).2
    clear hP hrf hm hy hl hg hF
    rw [a_enter1 (M := a_m229) rfl (a_cat_rf (a_cat_int (a_cat_int (a_cat_int a_cat_nil)))) (show 4 ≤ 4 by decide)]
    show a_at _ (a_xm a_m229) 0 [some (a_rf M), some (.int a), some (.int b), some (.int s)] [] _ _
    simp only [q229_0, q229_1, q229_2, q229_5, q229_8, q229_9, q229_10, q229_13, q229_16, q229_17, q229_20, q229_23, q229_24, q229_25, q229_28, m_0 hS, m_K hS, sp_isAsk hS, sp_isBench hS, sp_isShift, sp_refuse_1 hS, sp_refuse_2 hS, sp_refuse_3 hS, sp_refuse_4 hS, sp_refuse_5 hS, sp_refuse_6 hS, as_nil, as_i, as_r, Nat.reduceAdd, Nat.reduceLeDiff, z_eq0, z_eq1, z_or, z_em, Classical.not_not, not_false_eq_true, not_true_eq_false, true_and, and_true, false_and, and_false, and_self, true_implies, false_implies, implies_true, Option.toList_some, Option.toList_none, List.cons_append, List.nil_append, Nat.add_eq_zero_iff, a_nl_i, a_nl_r, a_nl_n, true_or, or_true, eq_self, ok_4, ok_5, ok_6, ok_7, ok_9, ok_10, ok_20, ok_21, ok_24, ok_30, ok_48, ok_50, ok_60, ok_80, ok_120, ok_180, ok_192, ok_200, ok_900, ok_1000, ok_84000, e17, m17, e6, m6, m199]
    try simp only [true_and, and_true, true_implies, false_implies, implies_true, not_true_eq_false, not_false_eq_true]
    by_cases q1 : 0 ≤ a ∧ a < Y 0 17
    · by_cases q2 : 0 ≤ b ∧ b < Y 0 6
      · have q3 : ¬ (0 ≤ s ∧ s < 200) := fun q => c1 ⟨q1, q2, q⟩
        simp only [q1, q2, q3]
        try simp only [true_and, and_true, true_implies, false_implies, implies_true, not_true_eq_false, not_false_eq_true]
        first
          | exact hr
          | grind
      · simp only [q1, q2]
        try simp only [true_and, and_true, true_implies, false_implies, implies_true, not_true_eq_false, not_false_eq_true]
        first
          | exact hr
          | grind
    · simp only [q1]
      try simp only [true_and, and_true, true_implies, false_implies, implies_true, not_true_eq_false, not_false_eq_true]
      first
        | exact hr
        | grind
end YM0
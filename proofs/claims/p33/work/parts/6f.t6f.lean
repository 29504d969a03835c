/-! the reference: withdraw, danger -/
section YP0
variable {d n t M : Nat} {K L : Nat → Nat} {I I0 J J0 J1 J2 : Nat → Nat → Int32} {R : Nat → Nat → Nat} {P : Option Value → AH → Prop} {f : Nat → Int32} {e : Int32}
variable {Y Z W : Nat → Nat → Int32}
theorem xp_withdraw (hS : m_S M K L R) {I1 : Nat → Nat → Int32} (hm : okY Y) {c : Nat} (hc : c + 130 ≤ 84000) (hF : mF M c I1 I) (hg : gs M I0 I Y) {a : Int32} (hP : ∀ J, mF M (c + 120) I1 J → gs M I0 J (wdY Y a).2 → P (some (.int (wdY Y a).1)) (n, t, K, L, J, R)) : a_does (d + 13) 184 [a_rf M, .int a] (n, t, K, L, I, R) P := by
  have hy := hm.1
  have h17 := hy.2.2.2.2.1
  have h10 := hy.2.1
  have h6 := hy.2.2.2.2.2.1
  have hl := hy.2.2.1
  have hrf : ∀ k : Nat, mF M (c + 120) I1 (a_ui I (M + 23) k (I (M + 23) k + 1)) ∧ gs M I0 (a_ui I (M + 23) k (I (M + 23) k + 1)) Y := fun k => ⟨mF_le (sF_refused hF) (by omega), gs_ui hg (sR_refused hg.1) (by omega) ⟨by unfold ps1; omega, by omega⟩⟩
  have e17 : I M 17 = Y 0 17 := hg.2.2.1 0 17 (by unfold ps1; omega)
  have e6 : I M 6 = Y 0 6 := hg.2.2.1 0 6 (by unfold ps1; omega)
  have e0 : I M 0 = Y 0 0 := hg.2.2.1 0 0 (by unfold ps1; omega)
  have m17 : ∀ x : Int32, (x ≤ Y 0 17 - 1) = (x < Y 0 17) := fun x => le_m1 h17
  have m6 : ∀ x : Int32, (x ≤ Y 0 6 - 1) = (x < Y 0 6) := fun x => le_m1 ⟨h6.1, Int32.le_trans h6.2 (by decide)⟩
  have m199 : ∀ x : Int32, (x ≤ 199) = (x < 200) := fun x => propext ⟨fun q => Int32.lt_of_le_of_lt q (by decide), fun q => by clear hP hrf hm hg hF; grind⟩
  have e20 : I (M + 20) a.toNatClampNeg = Y 20 a.toNatClampNeg := hg.2.2.1 20 _ (by unfold ps1; omega)
  have e18 : I (M + 18) a.toNatClampNeg = Y 18 a.toNatClampNeg := hg.2.2.1 18 _ (by unfold ps1; omega)
  have b11 : (1 : Int32) &&& 1 = 1 := by decide
  unfold wdY at hP
  by_cases c1 : 0 ≤ a ∧ a < Y 0 17
  · have ha : 0 ≤ a ∧ a < 30 := ⟨c1.1, Int32.lt_of_lt_of_le c1.2 h17.2⟩
    rw [if_neg (fun q => q c1)] at hP
    by_cases c2 : Y 18 a.toNatClampNeg = 0
    · rw [if_neg (fun q => q c2)] at hP
      have f1 := sF_isGone hF (k := a.toNatClampNeg) (v := 1)
      have g1 := gs_up hg (k := 18) (j := a.toNatClampNeg) (v := 1) (Or.inr (Or.inl rfl)) (sR_isGone hg.1)
      have e20' : a_ui I (M + 18) a.toNatClampNeg 1 (M + 20) a.toNatClampNeg = Y 20 a.toNatClampNeg := by rw [ui_ap, if_neg (by omega)]; exact e20
      generalize eJ : a_ui I (M + 18) a.toNatClampNeg 1 = J1 at f1 g1 e20'
      dsimp only at hP
      by_cases c3 : 0 ≤ Y 20 a.toNatClampNeg
      · rw [if_pos c3] at hP
        have hcl : a_does (d + 12) 186 [a_rf M, .int a] (n, t, K, L, J1, R) (fun r h' => a_at (d + 12) (a_xm a_m184) 50 [some (a_rf M), some (.int a)] (r.toList ++ []) h' P) := by
          refine xt_takeFrom (d := d + 10) hS f1 (by omega) ha (fun J f2 _ y2 => ?_)
          have hp := hP J (mF_le f2 (by omega)) (yR_gs g1 y2 (unY_p g1.2.2 ha))
          clear hP hrf hm hy hl hg hF f1 g1 f2 y2
          simp only [q184_50, q184_51, as_nil, as_i, as_r, Nat.reduceAdd, Nat.reduceLeDiff, z_eq0, z_eq1, z_or, z_em, Classical.not_not, not_false_eq_true, not_true_eq_false, true_and, and_true, false_and, and_false, and_self, true_implies, false_implies, implies_true, Option.toList_some, Option.toList_none, List.cons_append, List.nil_append, Nat.add_eq_zero_iff, a_nl_i, a_nl_r, a_nl_n, true_or, or_true, eq_self, ok_4, ok_5, ok_6, ok_7, ok_9, ok_10, ok_20, ok_21, ok_24, ok_30, ok_48, ok_50, ok_60, ok_80, ok_120, ok_180, ok_192, ok_200, ok_900, ok_1000, ok_84000]
          exact hp
        clear hP hrf hm hy hl hg hF f1 g1
        rw [a_enter1 (M := a_m184) rfl (a_cat_rf (a_cat_int a_cat_nil)) (show 2 ≤ 2 by decide)]
        show a_at _ (a_xm a_m184) 0 [some (a_rf M), some (.int a)] [] _ _
        simp only [q184_0, q184_1, q184_2, q184_5, q184_8, q184_9, q184_10, q184_13, q184_14, q184_15, q184_18, q184_19, q184_20, q184_23, q184_24, q184_26, q184_29, q184_30, q184_31, q184_34, q184_35, q184_36, q184_37, q184_38, q184_39, q184_42, q184_45, q184_46, q184_47, m_0 hS, m_K hS, mR_isGone hS, mK_isGone hS, mL_isGone hS, sp_isAsk hS, sp_refuse_1 hS, sp_refuse_2 hS, sp_refuse_3 hS, sp_refuse_4 hS, sp_refuse_5 hS, sp_refuse_6 hS, sp_hasPlace hS, as_nil, as_i, as_r, Nat.reduceAdd, Nat.reduceLeDiff, z_eq0, z_eq1, z_or, z_em, Classical.not_not, not_false_eq_true, not_true_eq_false, true_and, and_true, false_and, and_false, and_self, true_implies, false_implies, implies_true, Option.toList_some, Option.toList_none, List.cons_append, List.nil_append, Nat.add_eq_zero_iff, a_nl_i, a_nl_r, a_nl_n, true_or, or_true, eq_self, ok_4, ok_5, ok_6, ok_7, ok_9, ok_10, ok_20, ok_21, ok_24, ok_30, ok_48, ok_50, ok_60, ok_80, ok_120, ok_180, ok_192, ok_200, ok_900, ok_1000, ok_84000, e17, m17, c1, ha, e18, c2, b11, eJ, e20', c3]
        try simp only [true_and, and_true, true_implies, false_implies, implies_true, not_true_eq_false, not_false_eq_true]
        first
          | exact hcl
          | grind
      · rw [if_neg c3] at hP
        have hp := hP J1 (mF_le f1 (by omega)) g1
        clear hP hrf hm hy hl hg hF f1 g1
        rw [a_enter1 (M := a_m184) rfl (a_cat_rf (a_cat_int a_cat_nil)) (show 2 ≤ 2 by decide)]
        show a_at _ (a_xm a_m184) 0 [some (a_rf M), some (.int a)] [] _ _
        simp only [q184_0, q184_1, q184_2, q184_5, q184_8, q184_9, q184_10, q184_13, q184_14, q184_15, q184_18, q184_19, q184_20, q184_23, q184_24, q184_26, q184_29, q184_30, q184_31, q184_34, q184_35, q184_36, q184_37, q184_38, q184_39, q184_42, q184_45, q184_46, q184_47, q184_50, q184_51, m_0 hS, m_K hS, mR_isGone hS, mK_isGone hS, mL_isGone hS, sp_isAsk hS, sp_refuse_1 hS, sp_refuse_2 hS, sp_refuse_3 hS, sp_refuse_4 hS, sp_refuse_5 hS, sp_refuse_6 hS, sp_hasPlace hS, as_nil, as_i, as_r, Nat.reduceAdd, Nat.reduceLeDiff, z_eq0, z_eq1, z_or, z_em, Classical.not_not, not_false_eq_true, not_true_eq_false, true_and, and_true, false_and, and_false, and_self, true_implies, false_implies, implies_true, Option.toList_some, Option.toList_none, List.cons_append, List.nil_append, Nat.add_eq_zero_iff, a_nl_i, a_nl_r, a_nl_n, true_or, or_true, eq_self, ok_4, ok_5, ok_6, ok_7, ok_9, ok_10, ok_20, ok_21, ok_24, ok_30, ok_48, ok_50, ok_60, ok_80, ok_120, ok_180, ok_192, ok_200, ok_900, ok_1000, ok_84000, e17, m17, c1, ha, e18, c2, b11, eJ, e20', c3]
        try simp only [true_and, and_true, true_implies, false_implies, implies_true, not_true_eq_false, not_false_eq_true]
        first
          | exact hp
          | grind
    · rw [if_pos c2] at hP
      have hr := hP _ (hrf 3).1 (hrf 3).2
      clear hP hrf hm hy hl hg hF
      rw [a_enter1 (M := a_m184) rfl (a_cat_rf (a_cat_int a_cat_nil)) (show 2 ≤ 2 by decide)]
      show a_at _ (a_xm a_m184) 0 [some (a_rf M), some (.int a)] [] _ _
      simp only [q184_0, q184_1, q184_2, q184_5, q184_8, q184_9, q184_10, q184_13, q184_14, q184_15, q184_18, q184_19, q184_20, q184_23, q184_24, q184_26, q184_29, m_0 hS, m_K hS, mR_isGone hS, mK_isGone hS, mL_isGone hS, sp_isAsk hS, sp_refuse_1 hS, sp_refuse_2 hS, sp_refuse_3 hS, sp_refuse_4 hS, sp_refuse_5 hS, sp_refuse_6 hS, as_nil, as_i, as_r, Nat.reduceAdd, Nat.reduceLeDiff, z_eq0, z_eq1, z_or, z_em, Classical.not_not, not_false_eq_true, not_true_eq_false, true_and, and_true, false_and, and_false, and_self, true_implies, false_implies, implies_true, Option.toList_some, Option.toList_none, List.cons_append, List.nil_append, Nat.add_eq_zero_iff, a_nl_i, a_nl_r, a_nl_n, true_or, or_true, eq_self, ok_4, ok_5, ok_6, ok_7, ok_9, ok_10, ok_20, ok_21, ok_24, ok_30, ok_48, ok_50, ok_60, ok_80, ok_120, ok_180, ok_192, ok_200, ok_900, ok_1000, ok_84000, e17, m17, c1, ha, e18, c2]
      try simp only [true_and, and_true, true_implies, false_implies, implies_true, not_true_eq_false, not_false_eq_true]
      first
        | exact hr
        | grind
  · rw [if_pos c1] at hP
    have hr := hP _ (hrf 1).1 (hrf 1).2
    clear hP hrf hm hy hl hg hF
    rw [a_enter1 (M := a_m184) rfl (a_cat_rf (a_cat_int a_cat_nil)) (show 2 ≤ 2 by decide)]
    show a_at _ (a_xm a_m184) 0 [some (a_rf M), some (.int a)] [] _ _
    simp only [q184_0, q184_1, q184_2, q184_5, q184_8, q184_9, q184_10, q184_13, m_0 hS, m_K hS, sp_isAsk hS, sp_refuse_1 hS, sp_refuse_2 hS, sp_refuse_3 hS, sp_refuse_4 hS, sp_refuse_5 hS, sp_refuse_6 hS, as_nil, as_i, as_r, Nat.reduceAdd, Nat.reduceLeDiff, z_eq0, z_eq1, z_or, z_em, Classical.not_not, not_false_eq_true, not_true_eq_false, true_and, and_true, false_and, and_false, and_self, true_implies, false_implies, implies_true, Option.toList_some, Option.toList_none, List.cons_append, List.nil_append, Nat.add_eq_zero_iff, a_nl_i, a_nl_r, a_nl_n, true_or, or_true, eq_self, ok_4, ok_5, ok_6, ok_7, ok_9, ok_10, ok_20, ok_21, ok_24, ok_30, ok_48, ok_50, ok_60, ok_80, ok_120, ok_180, ok_192, ok_200, ok_900, ok_1000, ok_84000, e17, m17, c1]
    try simp only [true_and, and_true, true_implies, false_implies, implies_true, not_true_eq_false, not_false_eq_true]
    first
      | exact hr
      | grind
theorem xp_danger (hS : m_S M K L R) {I1 : Nat → Nat → Int32} (hm : okY Y) {c : Nat} (hc : c + 130 ≤ 84000) (hF : mF M c I1 I) (hg : gs M I0 I Y) {a v : Int32} (hP : ∀ J, mF M (c + 120) I1 J → gs M I0 J (dgY Y a v).2 → P (some (.int (dgY Y a v).1)) (n, t, K, L, J, R)) : a_does (d + 13) 249 [a_rf M, .int a, .int v] (n, t, K, L, I, R) P := by
  have hy := hm.1
  have h17 := hy.2.2.2.2.1
  have h10 := hy.2.1
  have h6 := hy.2.2.2.2.2.1
  have hl := hy.2.2.1
  have hrf : ∀ k : Nat, mF M (c + 120) I1 (a_ui I (M + 23) k (I (M + 23) k + 1)) ∧ gs M I0 (a_ui I (M + 23) k (I (M + 23) k + 1)) Y := fun k => ⟨mF_le (sF_refused hF) (by omega), gs_ui hg (sR_refused hg.1) (by omega) ⟨by unfold ps1; omega, by omega⟩⟩
  have e17 : I M 17 = Y 0 17 := hg.2.2.1 0 17 (by unfold ps1; omega)
  have e6 : I M 6 = Y 0 6 := hg.2.2.1 0 6 (by unfold ps1; omega)
  have e0 : I M 0 = Y 0 0 := hg.2.2.1 0 0 (by unfold ps1; omega)
  have m17 : ∀ x : Int32, (x ≤ Y 0 17 - 1) = (x < Y 0 17) := fun x => le_m1 h17
  have m6 : ∀ x : Int32, (x ≤ Y 0 6 - 1) = (x < Y 0 6) := fun x => le_m1 ⟨h6.1, Int32.le_trans h6.2 (by decide)⟩
  have m199 : ∀ x : Int32, (x ≤ 199) = (x < 200) := fun x => propext ⟨fun q => Int32.lt_of_le_of_lt q (by decide), fun q => by clear hP hrf hm hg hF; grind⟩
  unfold dgY at hP
  by_cases c1 : 0 ≤ a ∧ a < Y 0 17
  · have ha : 0 ≤ a ∧ a < 30 := ⟨c1.1, Int32.lt_of_lt_of_le c1.2 h17.2⟩
    rw [if_neg (fun q => q c1)] at hP
    by_cases c2 : v < 0
    · rw [if_pos c2] at hP
      have c2' : ¬ 0 ≤ v := Int32.not_le.mpr c2
      have hr := hP _ (hrf 4).1 (hrf 4).2
      clear hP hrf hm hy hl hg hF
      rw [a_enter1 (M := a_m249) rfl (a_cat_rf (a_cat_int (a_cat_int a_cat_nil))) (show 3 ≤ 3 by decide)]
      show a_at _ (a_xm a_m249) 0 [some (a_rf M), some (.int a), some (.int v)] [] _ _
      simp only [q249_0, q249_1, q249_2, q249_5, q249_8, q249_9, q249_10, q249_13, q249_14, q249_15, q249_18, q249_19, q249_21, q249_24, m_0 hS, m_K hS, sp_isAsk hS, sp_refuse_1 hS, sp_refuse_2 hS, sp_refuse_3 hS, sp_refuse_4 hS, sp_refuse_5 hS, sp_refuse_6 hS, as_nil, as_i, as_r, Nat.reduceAdd, Nat.reduceLeDiff, z_eq0, z_eq1, z_or, z_em, Classical.not_not, not_false_eq_true, not_true_eq_false, true_and, and_true, false_and, and_false, and_self, true_implies, false_implies, implies_true, Option.toList_some, Option.toList_none, List.cons_append, List.nil_append, Nat.add_eq_zero_iff, a_nl_i, a_nl_r, a_nl_n, true_or, or_true, eq_self, ok_4, ok_5, ok_6, ok_7, ok_9, ok_10, ok_20, ok_21, ok_24, ok_30, ok_48, ok_50, ok_60, ok_80, ok_120, ok_180, ok_192, ok_200, ok_900, ok_1000, ok_84000, e17, m17, c1, ha, c2, c2']
      try simp only [true_and, and_true, true_implies, false_implies, implies_true, not_true_eq_false, not_false_eq_true]
      first
        | exact hr
        | grind
    · rw [if_neg c2] at hP
      have c2' : 0 ≤ v := Int32.not_lt.mp c2
      by_cases c3 : 9 < v
      · rw [if_pos c3] at hP
        have c3' : ¬ v ≤ 9 := Int32.not_le.mpr c3
        have hr := hP _ (hrf 6).1 (hrf 6).2
        clear hP hrf hm hy hl hg hF
        rw [a_enter1 (M := a_m249) rfl (a_cat_rf (a_cat_int (a_cat_int a_cat_nil))) (show 3 ≤ 3 by decide)]
        show a_at _ (a_xm a_m249) 0 [some (a_rf M), some (.int a), some (.int v)] [] _ _
        simp only [q249_0, q249_1, q249_2, q249_5, q249_8, q249_9, q249_10, q249_13, q249_14, q249_15, q249_18, q249_19, q249_21, q249_24, q249_25, q249_26, q249_28, q249_31, q249_32, q249_34, q249_37, m_0 hS, m_K hS, sp_isAsk hS, sp_refuse_1 hS, sp_refuse_2 hS, sp_refuse_3 hS, sp_refuse_4 hS, sp_refuse_5 hS, sp_refuse_6 hS, as_nil, as_i, as_r, Nat.reduceAdd, Nat.reduceLeDiff, z_eq0, z_eq1, z_or, z_em, Classical.not_not, not_false_eq_true, not_true_eq_false, true_and, and_true, false_and, and_false, and_self, true_implies, false_implies, implies_true, Option.toList_some, Option.toList_none, List.cons_append, List.nil_append, Nat.add_eq_zero_iff, a_nl_i, a_nl_r, a_nl_n, true_or, or_true, eq_self, ok_4, ok_5, ok_6, ok_7, ok_9, ok_10, ok_20, ok_21, ok_24, ok_30, ok_48, ok_50, ok_60, ok_80, ok_120, ok_180, ok_192, ok_200, ok_900, ok_1000, ok_84000, e17, m17, c1, ha, c2, c2', c3, c3']
        try simp only [true_and, and_true, true_implies, false_implies, implies_true, not_true_eq_false, not_false_eq_true]
        first
          | exact hr
          | grind
      · rw [if_neg c3] at hP
        have c3' : v ≤ 9 := Int32.not_lt.mp c3
        have f1 := sF_danger hF (k := a.toNatClampNeg) (v := v)
        have g1 := gs_up hg (k := 15) (j := a.toNatClampNeg) (v := v) (Or.inl rfl) (sR_danger hg.1)
        have ok1 : okY (upY Y 15 a.toNatClampNeg v) := ok_rw (rw_up9 (Or.inl rfl)) hm
        have z10 : upY Y 15 a.toNatClampNeg v 10 = Y 10 := rw_up9 (Or.inl rfl) 10 (by omega) (by omega) (by omega) (by omega)
        have e20' : a_ui I (M + 15) a.toNatClampNeg v (M + 20) a.toNatClampNeg = upY Y 15 a.toNatClampNeg v 20 a.toNatClampNeg := g1.2.2.1 20 _ (by unfold ps1; omega)
        have e17' : a_ui I (M + 15) a.toNatClampNeg v M 17 = upY Y 15 a.toNatClampNeg v 0 17 := g1.2.2.1 0 17 (by unfold ps1; omega)
        generalize eZ : upY Y 15 a.toNatClampNeg v = Z at hP g1 ok1 z10 e20' e17'
        generalize eJ : a_ui I (M + 15) a.toNatClampNeg v = J1 at f1 g1 e20' e17'
        have hcl : a_does (d + 12) 248 [a_rf M, .int a] (n, t, K, L, J1, R) (fun r h' => a_at (d + 12) (a_xm a_m249) 50 [some (a_rf M), some (.int a), some (.int v)] (r.toList ++ []) h' P) := by
          refine xt_fitsNoMore (d := d + 1) hS ok1.2.1 ok1.1.2.2.2.2.1 ok1.1.2.1 g1 ha (by rw [z10]; exact hl a c1.1 c1.2) (fun J hJ => ?_)
          have f2 := mF_C f1 hJ
          have g2 := gs_C g1 hJ
          by_cases ag : agB Z a = true
          · rw [if_pos ag] at hP ⊢
            have n10 : ¬ (1 : Int32) = 0 := by decide
            have htk : a_does (d + 12) 186 [a_rf M, .int a] (n, t, K, L, J, R) (fun r h' => a_at (d + 12) (a_xm a_m249) 58 [some (a_rf M), some (.int a), some (.int v)] (r.toList ++ []) h' P) := by
              refine xt_takeFrom (d := d + 10) hS f2 (by omega) ha (fun J3 f3 _ y3 => ?_)
              have hp := hP J3 (mF_le f3 (by omega)) (yR_gs g2 y3 (unY_p g2.2.2 ha))
              clear hP hrf hm hy hl hg hF f1 g1 f2 g2 f3 y3
              simp only [q249_58, q249_59, as_nil, as_i, as_r, Nat.reduceAdd, Nat.reduceLeDiff, z_eq0, z_eq1, z_or, z_em, Classical.not_not, not_false_eq_true, not_true_eq_false, true_and, and_true, false_and, and_false, and_self, true_implies, false_implies, implies_true, Option.toList_some, Option.toList_none, List.cons_append, List.nil_append, Nat.add_eq_zero_iff, a_nl_i, a_nl_r, a_nl_n, true_or, or_true, eq_self, ok_4, ok_5, ok_6, ok_7, ok_9, ok_10, ok_20, ok_21, ok_24, ok_30, ok_48, ok_50, ok_60, ok_80, ok_120, ok_180, ok_192, ok_200, ok_900, ok_1000, ok_84000]
              exact hp
            clear hP hrf hm hy hl hg hF f1 g1 f2 g2
            simp only [q249_50, q249_53, q249_54, q249_55, m_0 hS, m_K hS, as_nil, as_i, as_r, Nat.reduceAdd, Nat.reduceLeDiff, z_eq0, z_eq1, z_or, z_em, Classical.not_not, not_false_eq_true, not_true_eq_false, true_and, and_true, false_and, and_false, and_self, true_implies, false_implies, implies_true, Option.toList_some, Option.toList_none, List.cons_append, List.nil_append, Nat.add_eq_zero_iff, a_nl_i, a_nl_r, a_nl_n, true_or, or_true, eq_self, ok_4, ok_5, ok_6, ok_7, ok_9, ok_10, ok_20, ok_21, ok_24, ok_30, ok_48, ok_50, ok_60, ok_80, ok_120, ok_180, ok_192, ok_200, ok_900, ok_1000, ok_84000, n10]
            try simp only [true_and, and_true, true_implies, false_implies, implies_true, not_true_eq_false, not_false_eq_true]
            first
              | exact htk
              | grind
          · rw [if_neg ag] at hP ⊢
            have hp := hP J (mF_le f2 (by omega)) g2
            clear hP hrf hm hy hl hg hF f1 g1 f2 g2
            simp only [q249_50, q249_60, q249_61, as_nil, as_i, as_r, Nat.reduceAdd, Nat.reduceLeDiff, z_eq0, z_eq1, z_or, z_em, Classical.not_not, not_false_eq_true, not_true_eq_false, true_and, and_true, false_and, and_false, and_self, true_implies, false_implies, implies_true, Option.toList_some, Option.toList_none, List.cons_append, List.nil_append, Nat.add_eq_zero_iff, a_nl_i, a_nl_r, a_nl_n, true_or, or_true, eq_self, ok_4, ok_5, ok_6, ok_7, ok_9, ok_10, ok_20, ok_21, ok_24, ok_30, ok_48, ok_50, ok_60, ok_80, ok_120, ok_180, ok_192, ok_200, ok_900, ok_1000, ok_84000]
            try simp only [true_and, and_true, true_implies, false_implies, implies_true, not_true_eq_false, not_false_eq_true]
            first
              | exact hp
              | grind
        clear hP hrf hm hy hl hg hF f1 g1 ok1
        rw [a_enter1 (M := a_m249) rfl (a_cat_rf (a_cat_int (a_cat_int a_cat_nil))) (show 3 ≤ 3 by decide)]
        show a_at _ (a_xm a_m249) 0 [some (a_rf M), some (.int a), some (.int v)] [] _ _
        simp only [q249_0, q249_1, q249_2, q249_5, q249_8, q249_9, q249_10, q249_13, q249_14, q249_15, q249_18, q249_19, q249_21, q249_24, q249_25, q249_26, q249_28, q249_31, q249_32, q249_34, q249_37, q249_38, q249_39, q249_42, q249_43, q249_44, q249_45, q249_46, q249_47, m_0 hS, m_K hS, mR_danger hS, mK_danger hS, mL_danger hS, sp_isAsk hS, sp_refuse_1 hS, sp_refuse_2 hS, sp_refuse_3 hS, sp_refuse_4 hS, sp_refuse_5 hS, sp_refuse_6 hS, as_nil, as_i, as_r, Nat.reduceAdd, Nat.reduceLeDiff, z_eq0, z_eq1, z_or, z_em, Classical.not_not, not_false_eq_true, not_true_eq_false, true_and, and_true, false_and, and_false, and_self, true_implies, false_implies, implies_true, Option.toList_some, Option.toList_none, List.cons_append, List.nil_append, Nat.add_eq_zero_iff, a_nl_i, a_nl_r, a_nl_n, true_or, or_true, eq_self, ok_4, ok_5, ok_6, ok_7, ok_9, ok_10, ok_20, ok_21, ok_24, ok_30, ok_48, ok_50, ok_60, ok_80, ok_120, ok_180, ok_192, ok_200, ok_900, ok_1000, ok_84000, e17, m17, c1, ha, c2, c2', c3, c3', eJ]
        try simp only [true_and, and_true, true_implies, false_implies, implies_true, not_true_eq_false, not_false_eq_true]
        first
          | exact hcl
          | grind
  · rw [if_pos c1] at hP
    have hr := hP _ (hrf 1).1 (hrf 1).2
    clear hP hrf hm hy hl hg hF
    rw [a_enter1 (M := a_m249) rfl (a_cat_rf (a_cat_int (a_cat_int a_cat_nil))) (show 3 ≤ 3 by decide)]
    show a_at _ (a_xm a_m249) 0 [some (a_rf M), some (.int a), some (.int v)] [] _ _
    simp only [q249_0, q249_1, q249_2, q249_5, q249_8, q249_9, q249_10, q249_13, m_0 hS, m_K hS, sp_isAsk hS, sp_refuse_1 hS, sp_refuse_2 hS, sp_refuse_3 hS, sp_refuse_4 hS, sp_refuse_5 hS, sp_refuse_6 hS, as_nil, as_i, as_r, Nat.reduceAdd, Nat.reduceLeDiff, z_eq0, z_eq1, z_or, z_em, Classical.not_not, not_false_eq_true, not_true_eq_false, true_and, and_true, false_and, and_false, and_self, true_implies, false_implies, implies_true, Option.toList_some, Option.toList_none, List.cons_append, List.nil_append, Nat.add_eq_zero_iff, a_nl_i, a_nl_r, a_nl_n, true_or, or_true, eq_self, ok_4, ok_5, ok_6, ok_7, ok_9, ok_10, ok_20, ok_21, ok_24, ok_30, ok_48, ok_50, ok_60, ok_80, ok_120, ok_180, ok_192, ok_200, ok_900, ok_1000, ok_84000, e17, m17, c1]
    try simp only [true_and, and_true, true_implies, false_implies, implies_true, not_true_eq_false, not_false_eq_true]
    first
      | exact hr
      | grind
end YP0
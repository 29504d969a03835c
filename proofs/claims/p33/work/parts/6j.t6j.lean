/-! the reference: wish -/
section YT0
variable {d n t M : Nat} {K L : Nat → Nat} {I I0 J J0 J1 J2 : Nat → Nat → Int32} {R : Nat → Nat → Nat} {P : Option Value → AH → Prop} {f : Nat → Int32} {e : Int32}
variable {Y Z W : Nat → Nat → Int32}
theorem psE_up2 (h : psE Y W) {k j : Nat} {v : Int32} (hk : ¬ k = 10 ∧ ¬ k = 20 ∧ ¬ k = 22) : psE (upY Y k j v) (upY W k j v) := by
  refine ⟨fun x i p => ?_, fun o o0 o1 o2 i i0 i1 => ?_⟩
  · by_cases e : x = k ∧ i = j
    · rw [e.1, e.2, up_at, up_at]
    · rw [up_no e, up_no e]
      exact h.1 x i p
  · rw [up_no (by omega)] at o2 i1
    rw [up_no (by omega), up_no (by omega)]
    exact h.2 o o0 o1 o2 i i0 i1
theorem gs_up2 {M : Nat} (hg : gs M I0 I Y) {k j : Nat} {v : Int32} (hk : ¬ k = 10 ∧ ¬ k = 20 ∧ ¬ k = 22) (hk2 : k ≤ 52) (hR : mR M (a_ui I (M + k) j v)) : gs M I0 (a_ui I (M + k) j v) (upY Y k j v) := by
  refine ⟨hR, fun x i p => by rw [ui_ap, if_neg (by omega)]; exact hg.2.1 x i p, ?_⟩
  have e : yv M (a_ui I (M + k) j v) = upY (yv M I) k j v := by
    funext x i
    unfold upY
    show a_ui I (M + k) j v (M + x) i = if x = k ∧ i = j then v else I (M + x) i
    rw [ui_ap]
    by_cases e : x = k ∧ i = j
    · rw [if_pos ⟨by omega, e.2⟩, if_pos e]
    · rw [if_neg (fun q => e ⟨by omega, q.2⟩), if_neg e]
  rw [e]
  exact psE_up2 hg.2.2 hk
theorem xp_wish (hS : m_S M K L R) {I1 : Nat → Nat → Int32} (hm : okY Y) {c : Nat} (hc : c + 130 ≤ 84000) (hF : mF M c I1 I) (hg : gs M I0 I Y) {a o w : Int32} (hw : w = 0 ∨ w = 1) (hP : ∀ J, mF M (c + 120) I1 J → gs M I0 J (wsY Y a o w).2 → P (some (.int (wsY Y a o w).1)) (n, t, K, L, J, R)) : a_does (d + 13) 250 [a_rf M, .int a, .int o, .int w] (n, t, K, L, I, R) P := by
  have hy := hm.1
  have h17 := hy.2.2.2.2.1
  have h10 := hy.2.1
  have h6 := hy.2.2.2.2.2.1
  have hl := hy.2.2.1
  have hrf : ∀ k : Nat, mF M (c + 120) I1 (a_ui I (M + 23) k (I (M + 23) k + 1)) ∧ gs M I0 (a_ui I (M + 23) k (I (M + 23) k + 1)) Y := fun k => ⟨mF_le (sF_refused hF) (by omega), gs_ui hg (sR_refused hg.1) (by omega) ⟨by unfold ps1; omega, by omega⟩⟩
  have e17 : I M 17 = Y 0 17 := hg.2.2.1 0 17 (by unfold ps1; omega)
  have e6 : I M 6 = Y 0 6 := hg.2.2.1 0 6 (by unfold ps1; omega)
  have e0 : I M 0 = Y 0 0 := hg.2.2.1 0 0 (by unfold ps1; omega)
  have m17 : ∀ x : Int32, (x ≤ Y 0 17 - 1) = (x < Y 0 17) := fun x => le_m1 h17
  have m6 : ∀ x : Int32, (x ≤ Y 0 6 - 1) = (x < Y 0 6) := fun x => le_m1 ⟨h6.1, Int32.le_trans h6.2 (by decide)⟩
  have m199 : ∀ x : Int32, (x ≤ 199) = (x < 200) := fun x => propext ⟨fun q => Int32.lt_of_le_of_lt q (by decide), fun q => by clear hP hrf hm hg hF; grind⟩
  unfold wsY at hP
  by_cases c1 : (0 ≤ a ∧ a < Y 0 17) ∧ (0 ≤ o ∧ o < Y 0 17) ∧ ¬ a = o
  · obtain ⟨k1, k2, k3⟩ := c1
    have ha : 0 ≤ a ∧ a < 30 := ⟨k1.1, Int32.lt_of_lt_of_le k1.2 h17.2⟩
    have ho : 0 ≤ o ∧ o < 30 := ⟨k2.1, Int32.lt_of_lt_of_le k2.2 h17.2⟩
    rw [if_neg (fun q => q ⟨k1, k2, k3⟩)] at hP
    obtain ⟨ex, hx, a30, o30⟩ := ix_900 ha ho
    have e47 : I (M + 47) (30 * a.toNatClampNeg + o.toNatClampNeg) = Y 47 (30 * a.toNatClampNeg + o.toNatClampNeg) := hg.2.2.1 47 _ (by unfold ps1; omega)
    have hww : w &&& 1 = w := by
      rcases hw with e | e
      · rw [e]; decide
      · rw [e]; decide
    have hp := hP (a_ui I (M + 47) (30 * a.toNatClampNeg + o.toNatClampNeg) w) (mF_le (sF_isWish hF) (by omega)) (gs_up2 hg (by omega) (by omega) (sR_isWish hg.1))
    have n10 : ¬ (1 : Int32) = 0 := by decide
    dsimp only at hp
    clear hP hrf hm hy hl hg hF
    by_cases c4 : Y 47 (30 * a.toNatClampNeg + o.toNatClampNeg) = w
    · rw [if_pos c4] at hp
      rw [a_enter1 (M := a_m250) rfl (a_cat_rf (a_cat_int (a_cat_int (a_cat_int a_cat_nil)))) (show 4 ≤ 5 by decide)]
      show a_at _ (a_xm a_m250) 0 [some (a_rf M), some (.int a), some (.int o), some (.int w), none] [] _ _
      simp only [q250_0, q250_1, q250_2, q250_5, q250_8, q250_9, q250_10, q250_13, q250_16, q250_17, q250_18, q250_21, q250_22, q250_23, q250_26, q250_27, q250_28, q250_31, q250_33, q250_34, q250_35, q250_36, q250_37, q250_38, q250_40, q250_41, q250_44, q250_46, q250_47, q250_48, q250_49, q250_50, q250_51, q250_52, q250_54, q250_55, q250_58, q250_59, q250_62, q250_63, m_0 hS, m_K hS, mR_isWish hS, mK_isWish hS, mL_isWish hS, sp_isAsk hS, sp_refuse_1 hS, sp_refuse_2 hS, sp_refuse_3 hS, sp_refuse_4 hS, sp_refuse_5 hS, sp_refuse_6 hS, as_nil, as_i, as_r, Nat.reduceAdd, Nat.reduceLeDiff, z_eq0, z_eq1, z_or, z_em, Classical.not_not, not_false_eq_true, not_true_eq_false, true_and, and_true, false_and, and_false, and_self, true_implies, false_implies, implies_true, Option.toList_some, Option.toList_none, List.cons_append, List.nil_append, Nat.add_eq_zero_iff, a_nl_i, a_nl_r, a_nl_n, true_or, or_true, eq_self, ok_4, ok_5, ok_6, ok_7, ok_9, ok_10, ok_20, ok_21, ok_24, ok_30, ok_48, ok_50, ok_60, ok_80, ok_120, ok_180, ok_192, ok_200, ok_900, ok_1000, ok_84000, e17, m17, k1, k2, k3, ex, hx, e47, hww, c4]
      try simp only [true_and, and_true, true_implies, false_implies, implies_true, not_true_eq_false, not_false_eq_true]
      first
        | exact hp
        | grind
    · rw [if_neg c4] at hp
      rw [a_enter1 (M := a_m250) rfl (a_cat_rf (a_cat_int (a_cat_int (a_cat_int a_cat_nil)))) (show 4 ≤ 5 by decide)]
      show a_at _ (a_xm a_m250) 0 [some (a_rf M), some (.int a), some (.int o), some (.int w), none] [] _ _
      simp only [q250_0, q250_1, q250_2, q250_5, q250_8, q250_9, q250_10, q250_13, q250_16, q250_17, q250_18, q250_21, q250_22, q250_23, q250_26, q250_27, q250_28, q250_31, q250_33, q250_34, q250_35, q250_36, q250_37, q250_38, q250_40, q250_41, q250_44, q250_46, q250_47, q250_48, q250_49, q250_50, q250_51, q250_52, q250_54, q250_55, q250_58, q250_59, q250_62, q250_63, m_0 hS, m_K hS, mR_isWish hS, mK_isWish hS, mL_isWish hS, sp_isAsk hS, sp_refuse_1 hS, sp_refuse_2 hS, sp_refuse_3 hS, sp_refuse_4 hS, sp_refuse_5 hS, sp_refuse_6 hS, as_nil, as_i, as_r, Nat.reduceAdd, Nat.reduceLeDiff, z_eq0, z_eq1, z_or, z_em, Classical.not_not, not_false_eq_true, not_true_eq_false, true_and, and_true, false_and, and_false, and_self, true_implies, false_implies, implies_true, Option.toList_some, Option.toList_none, List.cons_append, List.nil_append, Nat.add_eq_zero_iff, a_nl_i, a_nl_r, a_nl_n, true_or, or_true, eq_self, ok_4, ok_5, ok_6, ok_7, ok_9, ok_10, ok_20, ok_21, ok_24, ok_30, ok_48, ok_50, ok_60, ok_80, ok_120, ok_180, ok_192, ok_200, ok_900, ok_1000, ok_84000, e17, m17, k1, k2, k3, ex, hx, e47, hww, c4]
      try simp only [true_and, and_true, true_implies, false_implies, implies_true, not_true_eq_false, not_false_eq_true]
      first
        | exact hp
        | grind
  · rw [if_pos c1] at hP
    have hr := hP _ (hrf 1).1 (hrf 1).2
    clear hP hrf hm hy hl hg hF
    rw [a_enter1 (M := a_m250) rfl (a_cat_rf (a_cat_int (a_cat_int (a_cat_int a_cat_nil)))) (show 4 ≤ 5 by decide)]
    show a_at _ (a_xm a_m250) 0 [some (a_rf M), some (.int a), some (.int o), some (.int w), none] [] _ _
    simp only [q250_0, q250_1, q250_2, q250_5, q250_8, q250_9, q250_10, q250_13, q250_16, q250_17, q250_18, q250_21, q250_22, q250_23, q250_26, m_0 hS, m_K hS, sp_isAsk hS, sp_refuse_1 hS, sp_refuse_2 hS, sp_refuse_3 hS, sp_refuse_4 hS, sp_refuse_5 hS, sp_refuse_6 hS, as_nil, as_i, as_r, Nat.reduceAdd, Nat.reduceLeDiff, z_eq0, z_eq1, z_or, z_em, Classical.not_not, not_false_eq_true, not_true_eq_false, true_and, and_true, false_and, and_false, and_self, true_implies, false_implies, implies_true, Option.toList_some, Option.toList_none, List.cons_append, List.nil_append, Nat.add_eq_zero_iff, a_nl_i, a_nl_r, a_nl_n, true_or, or_true, eq_self, ok_4, ok_5, ok_6, ok_7, ok_9, ok_10, ok_20, ok_21, ok_24, ok_30, ok_48, ok_50, ok_60, ok_80, ok_120, ok_180, ok_192, ok_200, ok_900, ok_1000, ok_84000, e17, m17]
    try simp only [true_and, and_true, true_implies, false_implies, implies_true, not_true_eq_false, not_false_eq_true]
    by_cases q1 : 0 ≤ a ∧ a < Y 0 17
    · by_cases q2 : 0 ≤ o ∧ o < Y 0 17
      · have q3 : a = o := Classical.byContradiction (fun q => c1 ⟨q1, q2, q⟩)
        simp only [q1, q2, q3]
        try simp only [true_and, and_true, true_implies, false_implies, implies_true, not_true_eq_false, not_false_eq_true]
        first
          | exact hr
          | grind
      · simp only [q1, q2]
        try simp only [true_and, and_true, true_implies, false_implies, implies_true, not_true_eq_false, not_false_eq_true]
        first
          | exact hr
          | grind
    · simp only [q1]
      try simp only [true_and, and_true, true_implies, false_implies, implies_true, not_true_eq_false, not_false_eq_true]
      first
        | exact hr
        | grind
end YT0
/-! what was had: the reference's calls -/
/-- a call: before now nothing changes, now and later who stands, the last change is now where one was taken back (up to the words W1) or given (behind them) -/
def hxF (nb n0 : Int32) (Y W1 Z : Nat → Nat → Int32) (hd : Int32 → Int32 → Int32 → Int32) (ld : Int32 → Int32 → Int32) (hd' : Int32 → Int32 → Int32 → Int32) (ld' : Int32 → Int32 → Int32) : Prop := hsN nb n0 hd' Z ∧ hsT nb n0 hd ld hd' ld' (fun c t => tkT Y W1 c t ∨ gvT W1 Z c t) ∧ W1 0 17 = Y 0 17 ∧ Z 0 17 = W1 0 17
def hxQ (M : Nat) (I J Y W1 Z : Nat → Nat → Int32) : Prop := eoM M J ∧ J M 0 = I M 0 ∧ hxF 6 (I M 0) Y W1 Z (hdR M I) (ldR M I) (hdR M J) (ldR M J)
section HC0
variable {Y W Z W1 : Nat → Nat → Int32} {nb n0 a b s : Int32} {hd hd1 hd2 : Int32 → Int32 → Int32 → Int32} {ld ld1 ld2 : Int32 → Int32 → Int32}
theorem hx_tg (h1 : tkH nb n0 Y W1 hd ld hd1 ld1) (h2 : gvH nb n0 W1 Z hd1 ld1 hd2 ld2) : hxF nb n0 Y W1 Z hd ld hd2 ld2 := by
  refine ⟨h2.1, fun c t hc ht => ?_, h1.2.2.1.1, h2.2.2.1.1⟩
  obtain ⟨a1, a2, a3⟩ := h1.2.1 c t hc ht
  obtain ⟨b1, b2, b3⟩ := h2.2.1 c t hc ht
  refine ⟨fun k hk => (b1 k hk).trans (a1 k hk), fun q => ?_, fun q => ?_⟩
  · by_cases g : gvT W1 Z c t
    · exact b2 g
    · rw [b3 g]
      exact a2 (q.resolve_right g)
  · rw [b3 (fun g => q (Or.inr g))]
    exact a3 (fun g => q (Or.inl g))
theorem hx_0 (h : hsN nb n0 hd Y) : hxF nb n0 Y Y Y hd ld hd ld := hx_tg (tk_00 h) (gv_0 h)
theorem hx_tk (h : tkH nb n0 Y Z hd ld hd1 ld1) : hxF nb n0 Y Z Z hd ld hd1 ld1 := hx_tg h (gv_0 h.1)
theorem hx_gv (hN : hsN nb n0 hd Y) (h : gvH nb n0 Y Z hd ld hd1 ld1) : hxF nb n0 Y Y Z hd ld hd1 ld1 := hx_tg (tk_00 hN) h
/-- words alike where places hang, at the start and at the end -/
theorem hx_w {Y2 : Nat → Nat → Int32} (h : hxF nb n0 Y W1 Z hd ld hd1 ld1) (e17 : Y2 0 17 = Y 0 17) (e : ∀ k, k = 20 ∨ k = 21 ∨ k = 10 → Y2 k = Y k) : hxF nb n0 Y2 W1 Z hd ld hd1 ld1 := by
  refine ⟨h.1, fun c t hc ht => ?_, h.2.2.1.trans e17.symm, h.2.2.2⟩
  have eT : tkT Y2 W1 c t = tkT Y W1 c t := by
    unfold tkT
    rw [e17]
    have ho : ∀ x c t, hoY Y2 x c t = hoY Y x c t := fun x c t => ho_e (fun k hk => by rw [e k hk])
    simp only [ho]
  have := h.2.1 c t hc ht
  simp only [eT]
  exact this
end HC0
section HC1
variable {d n t M : Nat} {K L : Nat → Nat} {I I0 J J0 J1 J2 : Nat → Nat → Int32} {R : Nat → Nat → Nat} {P : Option Value → AH → Prop} {f : Nat → Int32} {e : Int32}
variable {Y Z W J3 J4 W1 : Nat → Nat → Int32}
theorem hq_0 (ho : eoM M I) (hN : hsN 6 (I M 0) (hdR M I) Y) : hxQ M I I Y Y Y := ⟨ho, rfl, hx_0 hN⟩
theorem hq_fr (h : hxQ M I J Y W1 Z) (e : ∀ x j, hC M x j → J2 x j = J x j) : hxQ M I J2 Y W1 Z := by
  obtain ⟨e1, e2, e3, e4⟩ := hR_eq e
  refine ⟨e4 h.1, e3.trans h.2.1, ?_⟩
  rw [e1, e2]
  exact h.2.2
theorem hq_b {Y2 : Nat → Nat → Int32} (h : hxQ M I J Y W1 Z) (e : ∀ x j, hC M x j → I x j = J2 x j) (e17 : Y2 0 17 = Y 0 17) (er : ∀ k, k = 20 ∨ k = 21 ∨ k = 10 → Y2 k = Y k) : hxQ M J2 J Y2 W1 Z := by
  obtain ⟨e1, e2, e3, e4⟩ := hR_eq e
  obtain ⟨h1, h2, h3⟩ := h
  refine ⟨h1, h2.trans e3, ?_⟩
  rw [e3, e1, e2] at h3
  exact hx_w h3 e17 er
theorem hq_ui (h : hxQ M I J Y W1 Z) {k j : Nat} {v : Int32} (hk : ¬ k = 24 ∧ ¬ k = 25 ∧ ¬ k = 26 ∧ ¬ k = 0) : hxQ M I (a_ui J (M + k) j v) Y W1 Z := hq_fr h (fun x i q => by rw [ui_ap, if_neg (fun e => by unfold hC at q; omega)])
theorem hq_C (h : hxQ M I J Y W1 Z) (hC2 : mC M J J2) : hxQ M I J2 Y W1 Z := hq_fr h (fun x j q => hC2.2 _ _ (by unfold hC at q; unfold sC; omega))
theorem hq_t (h : th M I0 I Y J Z) : hxQ M I J Y Z Z := ⟨h.2.1, h.2.2.1, hx_tk h.2.2.2⟩
theorem hq_g (hN : hsN 6 (I M 0) (hdR M I) Y) (h : gh M I0 I Y J Z) : hxQ M I J Y Y Z := ⟨h.2.1, h.2.2.1, hx_gv hN h.2.2.2⟩
theorem hq_tg (h : th M I0 I Y J W1) (h2 : gh M I0 J W1 J2 Z) : hxQ M I J2 Y W1 Z := ⟨h2.2.1, h2.2.2.1.trans h.2.2.1, hx_tg h.2.2.2 (by have := h2.2.2.2; rw [h.2.2.1] at this; exact this)⟩
theorem th_0 (hg : gs M I0 I Y) (ho : eoM M I) (hN : hsN 6 (I M 0) (hdR M I) Y) : th M I0 I Y I Y := ⟨hg, ho, rfl, tk_00 hN⟩
theorem gh_0 (hg : gs M I0 I Y) (ho : eoM M I) (hN : hsN 6 (I M 0) (hdR M I) Y) : gh M I0 I Y I Y := ⟨hg, ho, rfl, gv_0 hN⟩
theorem xp_take9 (hS : m_S M K L R) {I1 : Nat → Nat → Int32} (hm : okY Y) {c : Nat} (hc : c + 130 ≤ 84000) (hF : mF M c I1 I) (hg : gs M I0 I Y) (ho : eoM M I) (hN : hsN 6 (I M 0) (hdR M I) Y) {a : Int32} (hP : ∀ J, mF M (c + 120) I1 J → gs M I0 J (tkY Y a).2 → hxQ M I J Y (tkY Y a).2 (tkY Y a).2 → P (some (.int (tkY Y a).1)) (n, t, K, L, J, R)) : a_does (d + 13) 233 [a_rf M, .int a] (n, t, K, L, I, R) P := by
  have hy := hm.1
  have h17 := hy.2.2.2.2.1
  have h10 := hy.2.1
  have h6 := hy.2.2.2.2.2.1
  have hl := hy.2.2.1
  have hrf : ∀ k : Nat, mF M (c + 120) I1 (a_ui I (M + 23) k (I (M + 23) k + 1)) ∧ gs M I0 (a_ui I (M + 23) k (I (M + 23) k + 1)) Y := fun k => ⟨mF_le (sF_refused hF) (by omega), gs_ui hg (sR_refused hg.1) (by omega) ⟨by unfold ps1; omega, by omega⟩⟩
  have hrx : ∀ k : Nat, hxQ M I (a_ui I (M + 23) k (I (M + 23) k + 1)) Y Y Y := fun k => hq_ui (hq_0 ho hN) (by omega)
  have e17 : I M 17 = Y 0 17 := hg.2.2.1 0 17 (by unfold ps1; omega)
  have e6 : I M 6 = Y 0 6 := hg.2.2.1 0 6 (by unfold ps1; omega)
  have e0 : I M 0 = Y 0 0 := hg.2.2.1 0 0 (by unfold ps1; omega)
  have m17 : ∀ x : Int32, (x ≤ Y 0 17 - 1) = (x < Y 0 17) := fun x => le_m1 h17
  have m6 : ∀ x : Int32, (x ≤ Y 0 6 - 1) = (x < Y 0 6) := fun x => le_m1 ⟨h6.1, Int32.le_trans h6.2 (by decide)⟩
  have m199 : ∀ x : Int32, (x ≤ 199) = (x < 200) := fun x => propext ⟨fun q => Int32.lt_of_le_of_lt q (by decide), fun q => by ((try clear hP); (try clear hrx); (try clear hrf); (try clear ho); (try clear hN); (try clear hm); (try clear hg); (try clear hF)); grind⟩
  have e20 : I (M + 20) a.toNatClampNeg = Y 20 a.toNatClampNeg := hg.2.2.1 20 _ (by unfold ps1; omega)
  have e21 : I (M + 21) a.toNatClampNeg = Y 21 a.toNatClampNeg := hg.2.2.1 21 _ (by unfold ps1; omega)
  unfold tkY at hP
  by_cases c1 : 0 ≤ a ∧ a < Y 0 17
  · have ha : 0 ≤ a ∧ a < 30 := ⟨c1.1, Int32.lt_of_lt_of_le c1.2 h17.2⟩
    rw [if_neg (fun q => q c1)] at hP
    by_cases c2 : 0 ≤ Y 20 a.toNatClampNeg ∧ ¬ Y 21 a.toNatClampNeg * 8 < Y 0 0
    · rw [if_neg (fun q => q c2)] at hP
      have hcl : a_does (d + 12) 186 [a_rf M, .int a] (n, t, K, L, I, R) (fun r h' => a_at (d + 12) (a_xm a_m233) 47 [some (a_rf M), some (.int a)] (r.toList ++ []) h' P) := by
        refine xh_takeFrom (d := d + 10) hS hF (by omega) ha (fun J f1 _ y1 tk1 => ?_)
        have ht := th_un (th_0 hg ho hN) h10 hm.2.1.2.2.2.1 ha c1.2 c2.1 y1 tk1
        have hp := hP J (mF_le f1 (by omega)) ht.1 (hq_t ht)
        ((try clear hP); (try clear hrx); (try clear hrf); (try clear ho); (try clear hN); (try clear hm); (try clear hy); (try clear hl); (try clear hg); (try clear hF); (try clear f1); (try clear y1))
        simp only [q233_47, q233_48, as_nil, as_i, as_r, Nat.reduceAdd, Nat.reduceLeDiff, z_eq0, z_eq1, z_or, z_em, Classical.not_not, not_false_eq_true, not_true_eq_false, true_and, and_true, false_and, and_false, and_self, true_implies, false_implies, implies_true, Option.toList_some, Option.toList_none, List.cons_append, List.nil_append, Nat.add_eq_zero_iff, a_nl_i, a_nl_r, a_nl_n, true_or, or_true, eq_self, ok_4, ok_5, ok_6, ok_7, ok_9, ok_10, ok_20, ok_21, ok_24, ok_30, ok_48, ok_50, ok_60, ok_80, ok_120, ok_180, ok_192, ok_200, ok_900, ok_1000, ok_84000]
        exact hp
      rw [Int32.mul_comm] at c2
      ((try clear hP); (try clear hrx); (try clear hrf); (try clear ho); (try clear hN); (try clear hm); (try clear hy); (try clear hl); (try clear hg); (try clear hF))
      rw [a_enter1 (M := a_m233) rfl (a_cat_rf (a_cat_int a_cat_nil)) (show 2 ≤ 2 by decide)]
      show a_at _ (a_xm a_m233) 0 [some (a_rf M), some (.int a)] [] _ _
      simp only [q233_0, q233_1, q233_2, q233_5, q233_8, q233_9, q233_10, q233_13, q233_14, q233_15, q233_16, q233_19, q233_22, q233_23, q233_24, q233_27, q233_28, q233_29, q233_32, q233_35, q233_36, q233_38, q233_41, q233_42, q233_43, q233_44, m_0 hS, m_K hS, mR_atShift hS, mK_atShift hS, mL_atShift hS, sp_isAsk hS, sp_refuse_1 hS, sp_refuse_2 hS, sp_refuse_3 hS, sp_refuse_4 hS, sp_refuse_5 hS, sp_refuse_6 hS, sp_hasPlace hS, sp_isBegun hS, as_nil, as_i, as_r, Nat.reduceAdd, Nat.reduceLeDiff, z_eq0, z_eq1, z_or, z_em, Classical.not_not, not_false_eq_true, not_true_eq_false, true_and, and_true, false_and, and_false, and_self, true_implies, false_implies, implies_true, Option.toList_some, Option.toList_none, List.cons_append, List.nil_append, Nat.add_eq_zero_iff, a_nl_i, a_nl_r, a_nl_n, true_or, or_true, eq_self, ok_4, ok_5, ok_6, ok_7, ok_9, ok_10, ok_20, ok_21, ok_24, ok_30, ok_48, ok_50, ok_60, ok_80, ok_120, ok_180, ok_192, ok_200, ok_900, ok_1000, ok_84000, e17, m17, c1, ha, e20, e21, e0, c2]
      try simp only [true_and, and_true, true_implies, false_implies, implies_true, not_true_eq_false, not_false_eq_true]
      first
        | exact hcl
        | grind
    · rw [if_pos c2] at hP
      have hr := hP _ (hrf 3).1 (hrf 3).2 (hrx 3)
      rw [Int32.mul_comm] at c2
      ((try clear hP); (try clear hrx); (try clear hrf); (try clear ho); (try clear hN); (try clear hm); (try clear hy); (try clear hl); (try clear hg); (try clear hF))
      rw [a_enter1 (M := a_m233) rfl (a_cat_rf (a_cat_int a_cat_nil)) (show 2 ≤ 2 by decide)]
      show a_at _ (a_xm a_m233) 0 [some (a_rf M), some (.int a)] [] _ _
      simp only [q233_0, q233_1, q233_2, q233_5, q233_8, q233_9, q233_10, q233_13, q233_14, q233_15, q233_16, q233_19, q233_22, q233_23, q233_24, q233_27, q233_28, q233_29, q233_32, q233_35, q233_36, q233_38, q233_41, m_0 hS, m_K hS, mR_atShift hS, mK_atShift hS, mL_atShift hS, sp_isAsk hS, sp_refuse_1 hS, sp_refuse_2 hS, sp_refuse_3 hS, sp_refuse_4 hS, sp_refuse_5 hS, sp_refuse_6 hS, sp_hasPlace hS, sp_isBegun hS, as_nil, as_i, as_r, Nat.reduceAdd, Nat.reduceLeDiff, z_eq0, z_eq1, z_or, z_em, Classical.not_not, not_false_eq_true, not_true_eq_false, true_and, and_true, false_and, and_false, and_self, true_implies, false_implies, implies_true, Option.toList_some, Option.toList_none, List.cons_append, List.nil_append, Nat.add_eq_zero_iff, a_nl_i, a_nl_r, a_nl_n, true_or, or_true, eq_self, ok_4, ok_5, ok_6, ok_7, ok_9, ok_10, ok_20, ok_21, ok_24, ok_30, ok_48, ok_50, ok_60, ok_80, ok_120, ok_180, ok_192, ok_200, ok_900, ok_1000, ok_84000, e17, m17, c1, ha, e20, e21, e0]
      try simp only [true_and, and_true, true_implies, false_implies, implies_true, not_true_eq_false, not_false_eq_true]
      first
        | exact hr
        | grind
  · rw [if_pos c1] at hP
    have hr := hP _ (hrf 1).1 (hrf 1).2 (hrx 1)
    ((try clear hP); (try clear hrx); (try clear hrf); (try clear ho); (try clear hN); (try clear hm); (try clear hy); (try clear hl); (try clear hg); (try clear hF))
    rw [a_enter1 (M := a_m233) rfl (a_cat_rf (a_cat_int a_cat_nil)) (show 2 ≤ 2 by decide)]
    show a_at _ (a_xm a_m233) 0 [some (a_rf M), some (.int a)] [] _ _
    simp only [q233_0, q233_1, q233_2, q233_5, q233_8, q233_9, q233_10, q233_13, m_0 hS, m_K hS, sp_isAsk hS, sp_refuse_1 hS, sp_refuse_2 hS, sp_refuse_3 hS, sp_refuse_4 hS, sp_refuse_5 hS, sp_refuse_6 hS, as_nil, as_i, as_r, Nat.reduceAdd, Nat.reduceLeDiff, z_eq0, z_eq1, z_or, z_em, Classical.not_not, not_false_eq_true, not_true_eq_false, true_and, and_true, false_and, and_false, and_self, true_implies, false_implies, implies_true, Option.toList_some, Option.toList_none, List.cons_append, List.nil_append, Nat.add_eq_zero_iff, a_nl_i, a_nl_r, a_nl_n, true_or, or_true, eq_self, ok_4, ok_5, ok_6, ok_7, ok_9, ok_10, ok_20, ok_21, ok_24, ok_30, ok_48, ok_50, ok_60, ok_80, ok_120, ok_180, ok_192, ok_200, ok_900, ok_1000, ok_84000, e17, m17, c1]
    try simp only [true_and, and_true, true_implies, false_implies, implies_true, not_true_eq_false, not_false_eq_true]
    first
      | exact hr
      | grind
theorem xp_plan9 (hS : m_S M K L R) {I1 : Nat → Nat → Int32} (hm : okY Y) {c : Nat} (hc : c + 130 ≤ 84000) (hF : mF M c I1 I) (hg : gs M I0 I Y) (ho : eoM M I) (hN : hsN 6 (I M 0) (hdR M I) Y) {a b : Int32} (hP : ∀ J, mF M (c + 120) I1 J → gs M I0 J (plO Y a b).2 → hxQ M I J Y Y (plO Y a b).2 → P (some (.int (plO Y a b).1)) (n, t, K, L, J, R)) : a_does (d + 14) 234 [a_rf M, .int a, .int b] (n, t, K, L, I, R) P := by
  have hy := hm.1
  have h17 := hy.2.2.2.2.1
  have h10 := hy.2.1
  have h6 := hy.2.2.2.2.2.1
  have hl := hy.2.2.1
  have hrf : ∀ k : Nat, mF M (c + 120) I1 (a_ui I (M + 23) k (I (M + 23) k + 1)) ∧ gs M I0 (a_ui I (M + 23) k (I (M + 23) k + 1)) Y := fun k => ⟨mF_le (sF_refused hF) (by omega), gs_ui hg (sR_refused hg.1) (by omega) ⟨by unfold ps1; omega, by omega⟩⟩
  have hrx : ∀ k : Nat, hxQ M I (a_ui I (M + 23) k (I (M + 23) k + 1)) Y Y Y := fun k => hq_ui (hq_0 ho hN) (by omega)
  have e17 : I M 17 = Y 0 17 := hg.2.2.1 0 17 (by unfold ps1; omega)
  have e6 : I M 6 = Y 0 6 := hg.2.2.1 0 6 (by unfold ps1; omega)
  have e0 : I M 0 = Y 0 0 := hg.2.2.1 0 0 (by unfold ps1; omega)
  have m17 : ∀ x : Int32, (x ≤ Y 0 17 - 1) = (x < Y 0 17) := fun x => le_m1 h17
  have m6 : ∀ x : Int32, (x ≤ Y 0 6 - 1) = (x < Y 0 6) := fun x => le_m1 ⟨h6.1, Int32.le_trans h6.2 (by decide)⟩
  have m199 : ∀ x : Int32, (x ≤ 199) = (x < 200) := fun x => propext ⟨fun q => Int32.lt_of_le_of_lt q (by decide), fun q => by ((try clear hP); (try clear hrx); (try clear hrf); (try clear ho); (try clear hN); (try clear hm); (try clear hg); (try clear hF)); grind⟩
  unfold plO at hP
  by_cases c1 : (0 ≤ a ∧ a < 200) ∧ (0 ≤ b ∧ b < 200) ∧ a ≤ b
  · rw [if_neg (fun q => q c1)] at hP
    have hcl := xt_plan149 (d := d) (P := P) (f := a) (e := b) hS hm.2.1 h17 h10 h6 hl hc hF (gh_0 hg ho hN) ⟨c1.1.1, by rw [m199]; exact c1.1.2⟩ (by rw [m199]; exact c1.2.1.2) (fun J q1 q2 _ _ _ _ _ => hP J q1 q2.1 (hq_g hN q2))
    ((try clear hP); (try clear hrx); (try clear hrf); (try clear ho); (try clear hN); (try clear hm); (try clear hy); (try clear hl); (try clear hg); (try clear hF))
    rw [a_enter1 (M := a_m234) rfl (a_cat_rf (a_cat_int (a_cat_int a_cat_nil))) (show 3 ≤ 6 by decide)]
    show a_at _ (a_xm a_m234) 0 [some (a_rf M), some (.int a), some (.int b), none, none, none] [] _ _
    simp only [q234_0, q234_1, q234_2, q234_5, sp_isSpan, as_nil, as_i, as_r, Nat.reduceAdd, Nat.reduceLeDiff, z_eq0, z_eq1, z_or, z_em, Classical.not_not, not_false_eq_true, not_true_eq_false, true_and, and_true, false_and, and_false, and_self, true_implies, false_implies, implies_true, Option.toList_some, Option.toList_none, List.cons_append, List.nil_append, Nat.add_eq_zero_iff, a_nl_i, a_nl_r, a_nl_n, true_or, or_true, eq_self, ok_4, ok_5, ok_6, ok_7, ok_9, ok_10, ok_20, ok_21, ok_24, ok_30, ok_48, ok_50, ok_60, ok_80, ok_120, ok_180, ok_192, ok_200, ok_900, ok_1000, ok_84000, m199, c1]
    try simp only [true_and, and_true, true_implies, false_implies, implies_true, not_true_eq_false, not_false_eq_true]
    first
      | exact hcl
      | grind
  · rw [if_pos c1] at hP
    have hr := hP _ (hrf 1).1 (hrf 1).2 (hrx 1)
    ((try clear hP); (try clear hrx); (try clear hrf); (try clear ho); (try clear hN); (try clear hm); (try clear hy); (try clear hl); (try clear hg); (try clear hF))
    rw [a_enter1 (M := a_m234) rfl (a_cat_rf (a_cat_int (a_cat_int a_cat_nil))) (show 3 ≤ 6 by decide)]
    show a_at _ (a_xm a_m234) 0 [some (a_rf M), some (.int a), some (.int b), none, none, none] [] _ _
    simp only [q234_0, q234_1, q234_2, q234_5, q234_8, q234_9, q234_10, q234_13, m_0 hS, m_K hS, sp_isSpan, sp_refuse_1 hS, sp_refuse_2 hS, sp_refuse_3 hS, sp_refuse_4 hS, sp_refuse_5 hS, sp_refuse_6 hS, as_nil, as_i, as_r, Nat.reduceAdd, Nat.reduceLeDiff, z_eq0, z_eq1, z_or, z_em, Classical.not_not, not_false_eq_true, not_true_eq_false, true_and, and_true, false_and, and_false, and_self, true_implies, false_implies, implies_true, Option.toList_some, Option.toList_none, List.cons_append, List.nil_append, Nat.add_eq_zero_iff, a_nl_i, a_nl_r, a_nl_n, true_or, or_true, eq_self, ok_4, ok_5, ok_6, ok_7, ok_9, ok_10, ok_20, ok_21, ok_24, ok_30, ok_48, ok_50, ok_60, ok_80, ok_120, ok_180, ok_192, ok_200, ok_900, ok_1000, ok_84000, m199, c1]
    try simp only [true_and, and_true, true_implies, false_implies, implies_true, not_true_eq_false, not_false_eq_true]
    first
      | exact hr
      | grind
theorem xp_give9 (hS : m_S M K L R) {I1 : Nat → Nat → Int32} (hm : okY Y) {c : Nat} (hc : c + 130 ≤ 84000) (hF : mF M c I1 I) (hg : gs M I0 I Y) (ho : eoM M I) (hN : hsN 6 (I M 0) (hdR M I) Y) {a b s : Int32} (hP : ∀ J, mF M (c + 120) I1 J → gs M I0 J (gvY Y a b s).2 → hxQ M I J Y Y (gvY Y a b s).2 → P (some (.int (gvY Y a b s).1)) (n, t, K, L, J, R)) : a_does (d + 13) 229 [a_rf M, .int a, .int b, .int s] (n, t, K, L, I, R) P := by
  have hy := hm.1
  have h17 := hy.2.2.2.2.1
  have h10 := hy.2.1
  have h6 := hy.2.2.2.2.2.1
  have hl := hy.2.2.1
  have hrf : ∀ k : Nat, mF M (c + 120) I1 (a_ui I (M + 23) k (I (M + 23) k + 1)) ∧ gs M I0 (a_ui I (M + 23) k (I (M + 23) k + 1)) Y := fun k => ⟨mF_le (sF_refused hF) (by omega), gs_ui hg (sR_refused hg.1) (by omega) ⟨by unfold ps1; omega, by omega⟩⟩
  have hrx : ∀ k : Nat, hxQ M I (a_ui I (M + 23) k (I (M + 23) k + 1)) Y Y Y := fun k => hq_ui (hq_0 ho hN) (by omega)
  have e17 : I M 17 = Y 0 17 := hg.2.2.1 0 17 (by unfold ps1; omega)
  have e6 : I M 6 = Y 0 6 := hg.2.2.1 0 6 (by unfold ps1; omega)
  have e0 : I M 0 = Y 0 0 := hg.2.2.1 0 0 (by unfold ps1; omega)
  have m17 : ∀ x : Int32, (x ≤ Y 0 17 - 1) = (x < Y 0 17) := fun x => le_m1 h17
  have m6 : ∀ x : Int32, (x ≤ Y 0 6 - 1) = (x < Y 0 6) := fun x => le_m1 ⟨h6.1, Int32.le_trans h6.2 (by decide)⟩
  have m199 : ∀ x : Int32, (x ≤ 199) = (x < 200) := fun x => propext ⟨fun q => Int32.lt_of_le_of_lt q (by decide), fun q => by ((try clear hP); (try clear hrx); (try clear hrf); (try clear ho); (try clear hN); (try clear hm); (try clear hg); (try clear hF)); grind⟩
  have e20 : I (M + 20) a.toNatClampNeg = Y 20 a.toNatClampNeg := hg.2.2.1 20 _ (by unfold ps1; omega)
  have e18 : I (M + 18) a.toNatClampNeg = Y 18 a.toNatClampNeg := hg.2.2.1 18 _ (by unfold ps1; omega)
  unfold gvY at hP
  by_cases c1 : (0 ≤ a ∧ a < Y 0 17) ∧ (0 ≤ b ∧ b < Y 0 6) ∧ (0 ≤ s ∧ s < 200)
  · have ha : 0 ≤ a ∧ a < 30 := ⟨c1.1.1, Int32.lt_of_lt_of_le c1.1.2 h17.2⟩
    have hb : 0 ≤ b ∧ b ≤ 5 := ⟨c1.2.1.1, by ((try clear hP); (try clear hrx); (try clear hrf); (try clear ho); (try clear hN); (try clear hm); (try clear hy); (try clear hg); (try clear hF)); grind⟩
    have hs : 0 ≤ s ∧ s ≤ 199 := ⟨c1.2.2.1, by rw [m199]; exact c1.2.2.2⟩
    rw [if_neg (fun q => q c1)] at hP
    by_cases c4 : Y 18 a.toNatClampNeg = 0
    · by_cases c5 : 0 ≤ Y 20 a.toNatClampNeg
      · rw [if_pos (Or.inr (Or.inl c5))] at hP
        have hr := hP _ (hrf 3).1 (hrf 3).2 (hrx 3)
        ((try clear hP); (try clear hrx); (try clear hrf); (try clear ho); (try clear hN); (try clear hm); (try clear hy); (try clear hl); (try clear hg); (try clear hF))
        rw [a_enter1 (M := a_m229) rfl (a_cat_rf (a_cat_int (a_cat_int (a_cat_int a_cat_nil)))) (show 4 ≤ 4 by decide)]
        show a_at _ (a_xm a_m229) 0 [some (a_rf M), some (.int a), some (.int b), some (.int s)] [] _ _
        simp only [q229_0, q229_1, q229_2, q229_5, q229_8, q229_9, q229_10, q229_13, q229_16, q229_17, q229_20, q229_23, q229_24, q229_25, q229_28, q229_29, q229_30, q229_33, q229_34, q229_35, q229_38, q229_39, q229_40, q229_43, q229_46, q229_47, q229_48, q229_49, q229_50, q229_53, q229_56, q229_57, q229_59, q229_62, m_0 hS, m_K hS, mR_isGone hS, mK_isGone hS, mL_isGone hS, sp_isAsk hS, sp_isBench hS, sp_isShift, sp_refuse_1 hS, sp_refuse_2 hS, sp_refuse_3 hS, sp_refuse_4 hS, sp_refuse_5 hS, sp_refuse_6 hS, sp_hasPlace hS, as_nil, as_i, as_r, Nat.reduceAdd, Nat.reduceLeDiff, z_eq0, z_eq1, z_or, z_em, Classical.not_not, not_false_eq_true, not_true_eq_false, true_and, and_true, false_and, and_false, and_self, true_implies, false_implies, implies_true, Option.toList_some, Option.toList_none, List.cons_append, List.nil_append, Nat.add_eq_zero_iff, a_nl_i, a_nl_r, a_nl_n, true_or, or_true, eq_self, ok_4, ok_5, ok_6, ok_7, ok_9, ok_10, ok_20, ok_21, ok_24, ok_30, ok_48, ok_50, ok_60, ok_80, ok_120, ok_180, ok_192, ok_200, ok_900, ok_1000, ok_84000, e17, m17, e6, m6, m199, c1, ha, e20, e18, c4, c5]
        try simp only [true_and, and_true, true_implies, false_implies, implies_true, not_true_eq_false, not_false_eq_true]
        first
          | exact hr
          | grind
      · have hfit : a_does (d + 12) 221 [a_rf M, .int a, .int b, .int s] (n, t, K, L, I, R) (fun r h' => a_at (d + 12) (a_xm a_m229) 53 [some (a_rf M), some (.int a), some (.int b), some (.int s)] (r.toList ++ []) h' P) := by
          refine xt_fitOf (d := d + 2) hS (moP_of hg.1 hm.2.1 hg.2.2) (mC_refl hg.1) ha hb hs (fun J hJ => ?_)
          rw [ftY_p h17 h10 hg.2.2]
          have f1 := mF_C hF hJ
          have g1 := gs_C hg hJ
          by_cases cf : ftY Y a b s = 0
          · rw [if_neg (fun q => by rcases q with q | q | q; exact q c4; exact c5 q; exact q cf)] at hP
            have hgive : a_does (d + 12) 230 [a_rf M, .int a, .int b, .int s] (n, t, K, L, J, R) (fun r h' => a_at (d + 12) (a_xm a_m229) 70 [some (a_rf M), some (.int a), some (.int b), some (.int s)] (r.toList ++ []) h' P) := by
              refine xh_giveTo (d := d + 1) hS (moP_of g1.1 hm.2.1 g1.2.2) f1 (by omega) ha hb ⟨Int32.le_trans (by decide) hs.1, Int32.le_trans hs.2 (by decide)⟩ (fun J3 f3 y3 tk3 => ?_)
              have hl1 : 1 ≤ Y 10 a.toNatClampNeg := hl a c1.1.1 c1.1.2
              have hin := ft_in cf ⟨hl1, (h10 _).2⟩ ⟨hs.1, Int32.le_trans hs.2 (by decide)⟩
              have ht := gh_put (gh_C (gh_0 hg ho hN) hJ) h17 h10 ha c1.1.2 c5 hb hs hin.2 (ft_no h17.1 (h10 _) ⟨hs.1, Int32.le_trans hs.2 (by decide)⟩ hin.2 cf) y3 tk3
              have hp := hP J3 (mF_le f3 (by omega)) ht.1 (hq_g hN ht)
              ((try clear hP); (try clear hrx); (try clear hrf); (try clear ho); (try clear hN); (try clear hm); (try clear hy); (try clear hl); (try clear hg); (try clear hF); (try clear f1); (try clear g1); (try clear f3); (try clear y3))
              simp only [q229_70, q229_71, as_nil, as_i, as_r, Nat.reduceAdd, Nat.reduceLeDiff, z_eq0, z_eq1, z_or, z_em, Classical.not_not, not_false_eq_true, not_true_eq_false, true_and, and_true, false_and, and_false, and_self, true_implies, false_implies, implies_true, Option.toList_some, Option.toList_none, List.cons_append, List.nil_append, Nat.add_eq_zero_iff, a_nl_i, a_nl_r, a_nl_n, true_or, or_true, eq_self, ok_4, ok_5, ok_6, ok_7, ok_9, ok_10, ok_20, ok_21, ok_24, ok_30, ok_48, ok_50, ok_60, ok_80, ok_120, ok_180, ok_192, ok_200, ok_900, ok_1000, ok_84000]
              exact hp
            ((try clear hP); (try clear hrx); (try clear hrf); (try clear ho); (try clear hN); (try clear hm); (try clear hy); (try clear hl); (try clear hg); (try clear hF); (try clear f1); (try clear g1))
            simp only [q229_53, q229_63, q229_64, q229_65, q229_66, q229_67, m_0 hS, m_K hS, as_nil, as_i, as_r, Nat.reduceAdd, Nat.reduceLeDiff, z_eq0, z_eq1, z_or, z_em, Classical.not_not, not_false_eq_true, not_true_eq_false, true_and, and_true, false_and, and_false, and_self, true_implies, false_implies, implies_true, Option.toList_some, Option.toList_none, List.cons_append, List.nil_append, Nat.add_eq_zero_iff, a_nl_i, a_nl_r, a_nl_n, true_or, or_true, eq_self, ok_4, ok_5, ok_6, ok_7, ok_9, ok_10, ok_20, ok_21, ok_24, ok_30, ok_48, ok_50, ok_60, ok_80, ok_120, ok_180, ok_192, ok_200, ok_900, ok_1000, ok_84000, cf]
            try simp only [true_and, and_true, true_implies, false_implies, implies_true, not_true_eq_false, not_false_eq_true]
            first
              | exact hgive
              | grind
          · rw [if_pos (Or.inr (Or.inr cf))] at hP
            have hr := hP (a_ui J (M + 23) 3 (J (M + 23) 3 + 1)) (mF_le (sF_refused f1) (by omega)) (gs_ui g1 (sR_refused g1.1) (by omega) ⟨by unfold ps1; omega, by omega⟩) (hq_ui (hq_C (hq_0 ho hN) hJ) (by omega))
            ((try clear hP); (try clear hrx); (try clear hrf); (try clear ho); (try clear hN); (try clear hm); (try clear hy); (try clear hl); (try clear hg); (try clear hF); (try clear f1); (try clear g1))
            simp only [q229_53, q229_56, q229_57, q229_59, q229_62, m_0 hS, m_K hS, sp_refuse_1 hS, sp_refuse_2 hS, sp_refuse_3 hS, sp_refuse_4 hS, sp_refuse_5 hS, sp_refuse_6 hS, as_nil, as_i, as_r, Nat.reduceAdd, Nat.reduceLeDiff, z_eq0, z_eq1, z_or, z_em, Classical.not_not, not_false_eq_true, not_true_eq_false, true_and, and_true, false_and, and_false, and_self, true_implies, false_implies, implies_true, Option.toList_some, Option.toList_none, List.cons_append, List.nil_append, Nat.add_eq_zero_iff, a_nl_i, a_nl_r, a_nl_n, true_or, or_true, eq_self, ok_4, ok_5, ok_6, ok_7, ok_9, ok_10, ok_20, ok_21, ok_24, ok_30, ok_48, ok_50, ok_60, ok_80, ok_120, ok_180, ok_192, ok_200, ok_900, ok_1000, ok_84000, cf]
            try simp only [true_and, and_true, true_implies, false_implies, implies_true, not_true_eq_false, not_false_eq_true]
            first
              | exact hr
              | grind
        ((try clear hP); (try clear hrx); (try clear hrf); (try clear ho); (try clear hN); (try clear hm); (try clear hy); (try clear hl); (try clear hg); (try clear hF))
        rw [a_enter1 (M := a_m229) rfl (a_cat_rf (a_cat_int (a_cat_int (a_cat_int a_cat_nil)))) (show 4 ≤ 4 by decide)]
        show a_at _ (a_xm a_m229) 0 [some (a_rf M), some (.int a), some (.int b), some (.int s)] [] _ _
        simp only [q229_0, q229_1, q229_2, q229_5, q229_8, q229_9, q229_10, q229_13, q229_16, q229_17, q229_20, q229_23, q229_24, q229_25, q229_28, q229_29, q229_30, q229_33, q229_34, q229_35, q229_38, q229_39, q229_40, q229_43, q229_46, q229_47, q229_48, q229_49, q229_50, m_0 hS, m_K hS, mR_isGone hS, mK_isGone hS, mL_isGone hS, sp_isAsk hS, sp_isBench hS, sp_isShift, sp_refuse_1 hS, sp_refuse_2 hS, sp_refuse_3 hS, sp_refuse_4 hS, sp_refuse_5 hS, sp_refuse_6 hS, sp_hasPlace hS, as_nil, as_i, as_r, Nat.reduceAdd, Nat.reduceLeDiff, z_eq0, z_eq1, z_or, z_em, Classical.not_not, not_false_eq_true, not_true_eq_false, true_and, and_true, false_and, and_false, and_self, true_implies, false_implies, implies_true, Option.toList_some, Option.toList_none, List.cons_append, List.nil_append, Nat.add_eq_zero_iff, a_nl_i, a_nl_r, a_nl_n, true_or, or_true, eq_self, ok_4, ok_5, ok_6, ok_7, ok_9, ok_10, ok_20, ok_21, ok_24, ok_30, ok_48, ok_50, ok_60, ok_80, ok_120, ok_180, ok_192, ok_200, ok_900, ok_1000, ok_84000, e17, m17, e6, m6, m199, c1, ha, e20, e18, c4, c5]
        try simp only [true_and, and_true, true_implies, false_implies, implies_true, not_true_eq_false, not_false_eq_true]
        first
          | exact hfit
          | grind
    · rw [if_pos (Or.inl c4)] at hP
      have hr := hP _ (hrf 3).1 (hrf 3).2 (hrx 3)
      ((try clear hP); (try clear hrx); (try clear hrf); (try clear ho); (try clear hN); (try clear hm); (try clear hy); (try clear hl); (try clear hg); (try clear hF))
      rw [a_enter1 (M := a_m229) rfl (a_cat_rf (a_cat_int (a_cat_int (a_cat_int a_cat_nil)))) (show 4 ≤ 4 by decide)]
      show a_at _ (a_xm a_m229) 0 [some (a_rf M), some (.int a), some (.int b), some (.int s)] [] _ _
      simp only [q229_0, q229_1, q229_2, q229_5, q229_8, q229_9, q229_10, q229_13, q229_16, q229_17, q229_20, q229_23, q229_24, q229_25, q229_28, q229_29, q229_30, q229_33, q229_34, q229_35, q229_38, q229_39, q229_40, q229_43, q229_46, q229_47, q229_48, q229_49, q229_50, q229_53, q229_56, q229_57, q229_59, q229_62, m_0 hS, m_K hS, mR_isGone hS, mK_isGone hS, mL_isGone hS, sp_isAsk hS, sp_isBench hS, sp_isShift, sp_refuse_1 hS, sp_refuse_2 hS, sp_refuse_3 hS, sp_refuse_4 hS, sp_refuse_5 hS, sp_refuse_6 hS, sp_hasPlace hS, as_nil, as_i, as_r, Nat.reduceAdd, Nat.reduceLeDiff, z_eq0, z_eq1, z_or, z_em, Classical.not_not, not_false_eq_true, not_true_eq_false, true_and, and_true, false_and, and_false, and_self, true_implies, false_implies, implies_true, Option.toList_some, Option.toList_none, List.cons_append, List.nil_append, Nat.add_eq_zero_iff, a_nl_i, a_nl_r, a_nl_n, true_or, or_true, eq_self, ok_4, ok_5, ok_6, ok_7, ok_9, ok_10, ok_20, ok_21, ok_24, ok_30, ok_48, ok_50, ok_60, ok_80, ok_120, ok_180, ok_192, ok_200, ok_900, ok_1000, ok_84000, e17, m17, e6, m6, m199, c1, ha, e20, e18, c4]
      try simp only [true_and, and_true, true_implies, false_implies, implies_true, not_true_eq_false, not_false_eq_true]
      first
        | exact hr
        | grind
  · rw [if_pos c1] at hP
    have hr := hP _ (hrf 1).1 (hrf 1).2 (hrx 1)
    ((try clear hP); (try clear hrx); (try clear hrf); (try clear ho); (try clear hN); (try clear hm); (try clear hy); (try clear hl); (try clear hg); (try clear hF))
    rw [a_enter1 (M := a_m229) rfl (a_cat_rf (a_cat_int (a_cat_int (a_cat_int a_cat_nil)))) (show 4 ≤ 4 by decide)]
    show a_at _ (a_xm a_m229) 0 [some (a_rf M), some (.int a), some (.int b), some (.int s)] [] _ _
    simp only [q229_0, q229_1, q229_2, q229_5, q229_8, q229_9, q229_10, q229_13, q229_16, q229_17, q229_20, q229_23, q229_24, q229_25, q229_28, m_0 hS, m_K hS, sp_isAsk hS, sp_isBench hS, sp_isShift, sp_refuse_1 hS, sp_refuse_2 hS, sp_refuse_3 hS, sp_refuse_4 hS, sp_refuse_5 hS, sp_refuse_6 hS, as_nil, as_i, as_r, Nat.reduceAdd, Nat.reduceLeDiff, z_eq0, z_eq1, z_or, z_em, Classical.not_not, not_false_eq_true, not_true_eq_false, true_and, and_true, false_and, and_false, and_self, true_implies, false_implies, implies_true, Option.toList_some, Option.toList_none, List.cons_append, List.nil_append, Nat.add_eq_zero_iff, a_nl_i, a_nl_r, a_nl_n, true_or, or_true, eq_self, ok_4, ok_5, ok_6, ok_7, ok_9, ok_10, ok_20, ok_21, ok_24, ok_30, ok_48, ok_50, ok_60, ok_80, ok_120, ok_180, ok_192, ok_200, ok_900, ok_1000, ok_84000, e17, m17, e6, m6, m199]
    try simp only [true_and, and_true, true_implies, false_implies, implies_true, not_true_eq_false, not_false_eq_true]
    by_cases q1 : 0 ≤ a ∧ a < Y 0 17
    · by_cases q2 : 0 ≤ b ∧ b < Y 0 6
      · have q3 : ¬ (0 ≤ s ∧ s < 200) := fun q => c1 ⟨q1, q2, q⟩
        simp only [q1, q2, q3]
        try simp only [true_and, and_true, true_implies, false_implies, implies_true, not_true_eq_false, not_false_eq_true]
        first
          | exact hr
          | grind
      · simp only [q1, q2]
        try simp only [true_and, and_true, true_implies, false_implies, implies_true, not_true_eq_false, not_false_eq_true]
        first
          | exact hr
          | grind
    · simp only [q1]
      try simp only [true_and, and_true, true_implies, false_implies, implies_true, not_true_eq_false, not_false_eq_true]
      first
        | exact hr
        | grind
theorem xp_again9 (hS : m_S M K L R) {I1 : Nat → Nat → Int32} (hm : okY Y) {c : Nat} (hc : c + 130 ≤ 84000) (hF : mF M c I1 I) (hg : gs M I0 I Y) (ho : eoM M I) (hN : hsN 6 (I M 0) (hdR M I) Y) (hP : ∀ J, mF M (c + 120) I1 J → gs M I0 J (agY Y).1 → hxQ M I J Y (agP Y).1 (agY Y).1 → P (some (.int (Int32.ofNat (agY Y).2))) (n, t, K, L, J, R)) : a_does (d + 13) 247 [a_rf M] (n, t, K, L, I, R) P := xt_again9 hS hm.2.1 hm.1.2.2.2.2.1 hm.1.2.1 hm.1.2.2.2.2.2.1 hm.1.2.2.1 hm.2.2 hc hF (J3 := I) (W1 := Y) (th_0 hg ho hN) rfl (fun J J4 q1 q2 q3 _ _ => hP J q1 q3.1 (hq_tg q2 q3))
theorem up_r {k j : Nat} {v : Int32} (hk : ¬ k = 20 ∧ ¬ k = 21 ∧ ¬ k = 10) : ∀ q, q = 20 ∨ q = 21 ∨ q = 10 → Y q = upY Y k j v q := fun q hq => funext (fun i => (up_no (by omega)).symm)
theorem hsN_up {nb n0 : Int32} {hd : Int32 → Int32 → Int32 → Int32} {k j : Nat} {v : Int32} (h : hsN nb n0 hd Y) (hk : ¬ k = 20 ∧ ¬ k = 21 ∧ ¬ k = 10 ∧ ¬ k = 0) : hsN nb n0 hd (upY Y k j v) := hsN_w h (up_no (by omega)) (fun q hq => (up_r (by omega) q hq).symm)
theorem inP_ow (e20 : Y 20 = Z 20) (e21 : Y 21 = Z 21) (e10 : Y 10 = Z 10) (h : inP Y) : inP Z := fun a ha p => by
  rw [← e20] at p
  rw [← e20, ← e21, ← e10]
  exact h a ha p
theorem xp_withdraw9 (hS : m_S M K L R) {I1 : Nat → Nat → Int32} (hm : okY Y) {c : Nat} (hc : c + 130 ≤ 84000) (hF : mF M c I1 I) (hg : gs M I0 I Y) (ho : eoM M I) (hN : hsN 6 (I M 0) (hdR M I) Y) {a : Int32} (hP : ∀ J, mF M (c + 120) I1 J → gs M I0 J (wdY Y a).2 → hxQ M I J Y (wdY Y a).2 (wdY Y a).2 → P (some (.int (wdY Y a).1)) (n, t, K, L, J, R)) : a_does (d + 13) 184 [a_rf M, .int a] (n, t, K, L, I, R) P := by
  have hy := hm.1
  have h17 := hy.2.2.2.2.1
  have h10 := hy.2.1
  have h6 := hy.2.2.2.2.2.1
  have hl := hy.2.2.1
  have hrf : ∀ k : Nat, mF M (c + 120) I1 (a_ui I (M + 23) k (I (M + 23) k + 1)) ∧ gs M I0 (a_ui I (M + 23) k (I (M + 23) k + 1)) Y := fun k => ⟨mF_le (sF_refused hF) (by omega), gs_ui hg (sR_refused hg.1) (by omega) ⟨by unfold ps1; omega, by omega⟩⟩
  have hrx : ∀ k : Nat, hxQ M I (a_ui I (M + 23) k (I (M + 23) k + 1)) Y Y Y := fun k => hq_ui (hq_0 ho hN) (by omega)
  have e17 : I M 17 = Y 0 17 := hg.2.2.1 0 17 (by unfold ps1; omega)
  have e6 : I M 6 = Y 0 6 := hg.2.2.1 0 6 (by unfold ps1; omega)
  have e0 : I M 0 = Y 0 0 := hg.2.2.1 0 0 (by unfold ps1; omega)
  have m17 : ∀ x : Int32, (x ≤ Y 0 17 - 1) = (x < Y 0 17) := fun x => le_m1 h17
  have m6 : ∀ x : Int32, (x ≤ Y 0 6 - 1) = (x < Y 0 6) := fun x => le_m1 ⟨h6.1, Int32.le_trans h6.2 (by decide)⟩
  have m199 : ∀ x : Int32, (x ≤ 199) = (x < 200) := fun x => propext ⟨fun q => Int32.lt_of_le_of_lt q (by decide), fun q => by ((try clear hP); (try clear hrx); (try clear hrf); (try clear ho); (try clear hN); (try clear hm); (try clear hg); (try clear hF)); grind⟩
  have e20 : I (M + 20) a.toNatClampNeg = Y 20 a.toNatClampNeg := hg.2.2.1 20 _ (by unfold ps1; omega)
  have e18 : I (M + 18) a.toNatClampNeg = Y 18 a.toNatClampNeg := hg.2.2.1 18 _ (by unfold ps1; omega)
  have b11 : (1 : Int32) &&& 1 = 1 := by decide
  unfold wdY at hP
  by_cases c1 : 0 ≤ a ∧ a < Y 0 17
  · have ha : 0 ≤ a ∧ a < 30 := ⟨c1.1, Int32.lt_of_lt_of_le c1.2 h17.2⟩
    rw [if_neg (fun q => q c1)] at hP
    by_cases c2 : Y 18 a.toNatClampNeg = 0
    · rw [if_neg (fun q => q c2)] at hP
      have f1 := sF_isGone hF (k := a.toNatClampNeg) (v := 1)
      have g1 := gs_up hg (k := 18) (j := a.toNatClampNeg) (v := 1) (Or.inr (Or.inl rfl)) (sR_isGone hg.1)
      have e20' : a_ui I (M + 18) a.toNatClampNeg 1 (M + 20) a.toNatClampNeg = Y 20 a.toNatClampNeg := by rw [ui_ap, if_neg (by omega)]; exact e20
      have eH : ∀ x j, hC M x j → a_ui I (M + 18) a.toNatClampNeg 1 x j = I x j := fun x j q => by rw [ui_ap, if_neg (fun e => by unfold hC at q; omega)]
      have ho1 : eoM M (a_ui I (M + 18) a.toNatClampNeg 1) := (hR_eq eH).2.2.2 ho
      have hN1 : hsN 6 (a_ui I (M + 18) a.toNatClampNeg 1 M 0) (hdR M (a_ui I (M + 18) a.toNatClampNeg 1)) (upY Y 18 a.toNatClampNeg 1) := by
        rw [(hR_eq eH).1, (hR_eq eH).2.2.1]
        exact hsN_up hN (by omega)
      have z17 : upY Y 18 a.toNatClampNeg 1 0 17 = Y 0 17 := up_no (by omega)
      have zr := up_r (Y := Y) (k := 18) (j := a.toNatClampNeg) (v := 1) (by omega)
      have eH2 : ∀ x j, hC M x j → I x j = a_ui I (M + 18) a.toNatClampNeg 1 x j := fun x j q => (eH x j q).symm
      generalize eJ : a_ui I (M + 18) a.toNatClampNeg 1 = J1 at f1 g1 e20' ho1 hN1 eH eH2
      dsimp only at hP
      by_cases c3 : 0 ≤ Y 20 a.toNatClampNeg
      · rw [if_pos c3] at hP
        have hcl : a_does (d + 12) 186 [a_rf M, .int a] (n, t, K, L, J1, R) (fun r h' => a_at (d + 12) (a_xm a_m184) 50 [some (a_rf M), some (.int a)] (r.toList ++ []) h' P) := by
          refine xh_takeFrom (d := d + 10) hS f1 (by omega) ha (fun J f2 _ y2 tk2 => ?_)
          have ht := th_un (th_0 g1 ho1 hN1) (by rw [← zr 10 (by omega)]; exact h10) (inP_ow (zr 20 (by omega)) (zr 21 (by omega)) (zr 10 (by omega)) hm.2.1.2.2.2.1) ha (by rw [z17]; exact c1.2) (by rw [← zr 20 (by omega)]; exact c3) y2 tk2
          have hp := hP J (mF_le f2 (by omega)) ht.1 (hq_b (hq_t ht) (fun x j q => (eH2 x j q).symm) z17.symm zr)
          ((try clear hP); (try clear hrx); (try clear hrf); (try clear ho); (try clear hN); (try clear hm); (try clear hy); (try clear hl); (try clear hg); (try clear hF); (try clear f1); (try clear g1); (try clear f2); (try clear y2))
          simp only [q184_50, q184_51, as_nil, as_i, as_r, Nat.reduceAdd, Nat.reduceLeDiff, z_eq0, z_eq1, z_or, z_em, Classical.not_not, not_false_eq_true, not_true_eq_false, true_and, and_true, false_and, and_false, and_self, true_implies, false_implies, implies_true, Option.toList_some, Option.toList_none, List.cons_append, List.nil_append, Nat.add_eq_zero_iff, a_nl_i, a_nl_r, a_nl_n, true_or, or_true, eq_self, ok_4, ok_5, ok_6, ok_7, ok_9, ok_10, ok_20, ok_21, ok_24, ok_30, ok_48, ok_50, ok_60, ok_80, ok_120, ok_180, ok_192, ok_200, ok_900, ok_1000, ok_84000]
          exact hp
        ((try clear hP); (try clear hrx); (try clear hrf); (try clear ho); (try clear hN); (try clear hm); (try clear hy); (try clear hl); (try clear hg); (try clear hF); (try clear f1); (try clear g1))
        rw [a_enter1 (M := a_m184) rfl (a_cat_rf (a_cat_int a_cat_nil)) (show 2 ≤ 2 by decide)]
        show a_at _ (a_xm a_m184) 0 [some (a_rf M), some (.int a)] [] _ _
        simp only [q184_0, q184_1, q184_2, q184_5, q184_8, q184_9, q184_10, q184_13, q184_14, q184_15, q184_18, q184_19, q184_20, q184_23, q184_24, q184_26, q184_29, q184_30, q184_31, q184_34, q184_35, q184_36, q184_37, q184_38, q184_39, q184_42, q184_45, q184_46, q184_47, m_0 hS, m_K hS, mR_isGone hS, mK_isGone hS, mL_isGone hS, sp_isAsk hS, sp_refuse_1 hS, sp_refuse_2 hS, sp_refuse_3 hS, sp_refuse_4 hS, sp_refuse_5 hS, sp_refuse_6 hS, sp_hasPlace hS, as_nil, as_i, as_r, Nat.reduceAdd, Nat.reduceLeDiff, z_eq0, z_eq1, z_or, z_em, Classical.not_not, not_false_eq_true, not_true_eq_false, true_and, and_true, false_and, and_false, and_self, true_implies, false_implies, implies_true, Option.toList_some, Option.toList_none, List.cons_append, List.nil_append, Nat.add_eq_zero_iff, a_nl_i, a_nl_r, a_nl_n, true_or, or_true, eq_self, ok_4, ok_5, ok_6, ok_7, ok_9, ok_10, ok_20, ok_21, ok_24, ok_30, ok_48, ok_50, ok_60, ok_80, ok_120, ok_180, ok_192, ok_200, ok_900, ok_1000, ok_84000, e17, m17, c1, ha, e18, c2, b11, eJ, e20', c3]
        try simp only [true_and, and_true, true_implies, false_implies, implies_true, not_true_eq_false, not_false_eq_true]
        first
          | exact hcl
          | grind
      · rw [if_neg c3] at hP
        have hp := hP J1 (mF_le f1 (by omega)) g1 (hq_b (hq_0 ho1 hN1) (fun x j q => (eH2 x j q).symm) z17.symm zr)
        ((try clear hP); (try clear hrx); (try clear hrf); (try clear ho); (try clear hN); (try clear hm); (try clear hy); (try clear hl); (try clear hg); (try clear hF); (try clear f1); (try clear g1))
        rw [a_enter1 (M := a_m184) rfl (a_cat_rf (a_cat_int a_cat_nil)) (show 2 ≤ 2 by decide)]
        show a_at _ (a_xm a_m184) 0 [some (a_rf M), some (.int a)] [] _ _
        simp only [q184_0, q184_1, q184_2, q184_5, q184_8, q184_9, q184_10, q184_13, q184_14, q184_15, q184_18, q184_19, q184_20, q184_23, q184_24, q184_26, q184_29, q184_30, q184_31, q184_34, q184_35, q184_36, q184_37, q184_38, q184_39, q184_42, q184_45, q184_46, q184_47, q184_50, q184_51, m_0 hS, m_K hS, mR_isGone hS, mK_isGone hS, mL_isGone hS, sp_isAsk hS, sp_refuse_1 hS, sp_refuse_2 hS, sp_refuse_3 hS, sp_refuse_4 hS, sp_refuse_5 hS, sp_refuse_6 hS, sp_hasPlace hS, as_nil, as_i, as_r, Nat.reduceAdd, Nat.reduceLeDiff, z_eq0, z_eq1, z_or, z_em, Classical.not_not, not_false_eq_true, not_true_eq_false, true_and, and_true, false_and, and_false, and_self, true_implies, false_implies, implies_true, Option.toList_some, Option.toList_none, List.cons_append, List.nil_append, Nat.add_eq_zero_iff, a_nl_i, a_nl_r, a_nl_n, true_or, or_true, eq_self, ok_4, ok_5, ok_6, ok_7, ok_9, ok_10, ok_20, ok_21, ok_24, ok_30, ok_48, ok_50, ok_60, ok_80, ok_120, ok_180, ok_192, ok_200, ok_900, ok_1000, ok_84000, e17, m17, c1, ha, e18, c2, b11, eJ, e20', c3]
        try simp only [true_and, and_true, true_implies, false_implies, implies_true, not_true_eq_false, not_false_eq_true]
        first
          | exact hp
          | grind
    · rw [if_pos c2] at hP
      have hr := hP _ (hrf 3).1 (hrf 3).2 (hrx 3)
      ((try clear hP); (try clear hrx); (try clear hrf); (try clear ho); (try clear hN); (try clear hm); (try clear hy); (try clear hl); (try clear hg); (try clear hF))
      rw [a_enter1 (M := a_m184) rfl (a_cat_rf (a_cat_int a_cat_nil)) (show 2 ≤ 2 by decide)]
      show a_at _ (a_xm a_m184) 0 [some (a_rf M), some (.int a)] [] _ _
      simp only [q184_0, q184_1, q184_2, q184_5, q184_8, q184_9, q184_10, q184_13, q184_14, q184_15, q184_18, q184_19, q184_20, q184_23, q184_24, q184_26, q184_29, m_0 hS, m_K hS, mR_isGone hS, mK_isGone hS, mL_isGone hS, sp_isAsk hS, sp_refuse_1 hS, sp_refuse_2 hS, sp_refuse_3 hS, sp_refuse_4 hS, sp_refuse_5 hS, sp_refuse_6 hS, as_nil, as_i, as_r, Nat.reduceAdd, Nat.reduceLeDiff, z_eq0, z_eq1, z_or, z_em, Classical.not_not, not_false_eq_true, not_true_eq_false, true_and, and_true, false_and, and_false, and_self, true_implies, false_implies, implies_true, Option.toList_some, Option.toList_none, List.cons_append, List.nil_append, Nat.add_eq_zero_iff, a_nl_i, a_nl_r, a_nl_n, true_or, or_true, eq_self, ok_4, ok_5, ok_6, ok_7, ok_9, ok_10, ok_20, ok_21, ok_24, ok_30, ok_48, ok_50, ok_60, ok_80, ok_120, ok_180, ok_192, ok_200, ok_900, ok_1000, ok_84000, e17, m17, c1, ha, e18, c2]
      try simp only [true_and, and_true, true_implies, false_implies, implies_true, not_true_eq_false, not_false_eq_true]
      first
        | exact hr
        | grind
  · rw [if_pos c1] at hP
    have hr := hP _ (hrf 1).1 (hrf 1).2 (hrx 1)
    ((try clear hP); (try clear hrx); (try clear hrf); (try clear ho); (try clear hN); (try clear hm); (try clear hy); (try clear hl); (try clear hg); (try clear hF))
    rw [a_enter1 (M := a_m184) rfl (a_cat_rf (a_cat_int a_cat_nil)) (show 2 ≤ 2 by decide)]
    show a_at _ (a_xm a_m184) 0 [some (a_rf M), some (.int a)] [] _ _
    simp only [q184_0, q184_1, q184_2, q184_5, q184_8, q184_9, q184_10, q184_13, m_0 hS, m_K hS, sp_isAsk hS, sp_refuse_1 hS, sp_refuse_2 hS, sp_refuse_3 hS, sp_refuse_4 hS, sp_refuse_5 hS, sp_refuse_6 hS, as_nil, as_i, as_r, Nat.reduceAdd, Nat.reduceLeDiff, z_eq0, z_eq1, z_or, z_em, Classical.not_not, not_false_eq_true, not_true_eq_false, true_and, and_true, false_and, and_false, and_self, true_implies, false_implies, implies_true, Option.toList_some, Option.toList_none, List.cons_append, List.nil_append, Nat.add_eq_zero_iff, a_nl_i, a_nl_r, a_nl_n, true_or, or_true, eq_self, ok_4, ok_5, ok_6, ok_7, ok_9, ok_10, ok_20, ok_21, ok_24, ok_30, ok_48, ok_50, ok_60, ok_80, ok_120, ok_180, ok_192, ok_200, ok_900, ok_1000, ok_84000, e17, m17, c1]
    try simp only [true_and, and_true, true_implies, false_implies, implies_true, not_true_eq_false, not_false_eq_true]
    first
      | exact hr
      | grind
theorem xp_danger9 (hS : m_S M K L R) {I1 : Nat → Nat → Int32} (hm : okY Y) {c : Nat} (hc : c + 130 ≤ 84000) (hF : mF M c I1 I) (hg : gs M I0 I Y) (ho : eoM M I) (hN : hsN 6 (I M 0) (hdR M I) Y) {a v : Int32} (hP : ∀ J, mF M (c + 120) I1 J → gs M I0 J (dgY Y a v).2 → hxQ M I J Y (dgY Y a v).2 (dgY Y a v).2 → P (some (.int (dgY Y a v).1)) (n, t, K, L, J, R)) : a_does (d + 13) 249 [a_rf M, .int a, .int v] (n, t, K, L, I, R) P := by
  have hy := hm.1
  have h17 := hy.2.2.2.2.1
  have h10 := hy.2.1
  have h6 := hy.2.2.2.2.2.1
  have hl := hy.2.2.1
  have hrf : ∀ k : Nat, mF M (c + 120) I1 (a_ui I (M + 23) k (I (M + 23) k + 1)) ∧ gs M I0 (a_ui I (M + 23) k (I (M + 23) k + 1)) Y := fun k => ⟨mF_le (sF_refused hF) (by omega), gs_ui hg (sR_refused hg.1) (by omega) ⟨by unfold ps1; omega, by omega⟩⟩
  have hrx : ∀ k : Nat, hxQ M I (a_ui I (M + 23) k (I (M + 23) k + 1)) Y Y Y := fun k => hq_ui (hq_0 ho hN) (by omega)
  have e17 : I M 17 = Y 0 17 := hg.2.2.1 0 17 (by unfold ps1; omega)
  have e6 : I M 6 = Y 0 6 := hg.2.2.1 0 6 (by unfold ps1; omega)
  have e0 : I M 0 = Y 0 0 := hg.2.2.1 0 0 (by unfold ps1; omega)
  have m17 : ∀ x : Int32, (x ≤ Y 0 17 - 1) = (x < Y 0 17) := fun x => le_m1 h17
  have m6 : ∀ x : Int32, (x ≤ Y 0 6 - 1) = (x < Y 0 6) := fun x => le_m1 ⟨h6.1, Int32.le_trans h6.2 (by decide)⟩
  have m199 : ∀ x : Int32, (x ≤ 199) = (x < 200) := fun x => propext ⟨fun q => Int32.lt_of_le_of_lt q (by decide), fun q => by ((try clear hP); (try clear hrx); (try clear hrf); (try clear ho); (try clear hN); (try clear hm); (try clear hg); (try clear hF)); grind⟩
  unfold dgY at hP
  by_cases c1 : 0 ≤ a ∧ a < Y 0 17
  · have ha : 0 ≤ a ∧ a < 30 := ⟨c1.1, Int32.lt_of_lt_of_le c1.2 h17.2⟩
    rw [if_neg (fun q => q c1)] at hP
    by_cases c2 : v < 0
    · rw [if_pos c2] at hP
      have c2' : ¬ 0 ≤ v := Int32.not_le.mpr c2
      have hr := hP _ (hrf 4).1 (hrf 4).2 (hrx 4)
      ((try clear hP); (try clear hrx); (try clear hrf); (try clear ho); (try clear hN); (try clear hm); (try clear hy); (try clear hl); (try clear hg); (try clear hF))
      rw [a_enter1 (M := a_m249) rfl (a_cat_rf (a_cat_int (a_cat_int a_cat_nil))) (show 3 ≤ 3 by decide)]
      show a_at _ (a_xm a_m249) 0 [some (a_rf M), some (.int a), some (.int v)] [] _ _
      simp only [q249_0, q249_1, q249_2, q249_5, q249_8, q249_9, q249_10, q249_13, q249_14, q249_15, q249_18, q249_19, q249_21, q249_24, m_0 hS, m_K hS, sp_isAsk hS, sp_refuse_1 hS, sp_refuse_2 hS, sp_refuse_3 hS, sp_refuse_4 hS, sp_refuse_5 hS, sp_refuse_6 hS, as_nil, as_i, as_r, Nat.reduceAdd, Nat.reduceLeDiff, z_eq0, z_eq1, z_or, z_em, Classical.not_not, not_false_eq_true, not_true_eq_false, true_and, and_true, false_and, and_false, and_self, true_implies, false_implies, implies_true, Option.toList_some, Option.toList_none, List.cons_append, List.nil_append, Nat.add_eq_zero_iff, a_nl_i, a_nl_r, a_nl_n, true_or, or_true, eq_self, ok_4, ok_5, ok_6, ok_7, ok_9, ok_10, ok_20, ok_21, ok_24, ok_30, ok_48, ok_50, ok_60, ok_80, ok_120, ok_180, ok_192, ok_200, ok_900, ok_1000, ok_84000, e17, m17, c1, ha, c2, c2']
      try simp only [true_and, and_true, true_implies, false_implies, implies_true, not_true_eq_false, not_false_eq_true]
      first
        | exact hr
        | grind
    · rw [if_neg c2] at hP
      have c2' : 0 ≤ v := Int32.not_lt.mp c2
      by_cases c3 : 9 < v
      · rw [if_pos c3] at hP
        have c3' : ¬ v ≤ 9 := Int32.not_le.mpr c3
        have hr := hP _ (hrf 6).1 (hrf 6).2 (hrx 6)
        ((try clear hP); (try clear hrx); (try clear hrf); (try clear ho); (try clear hN); (try clear hm); (try clear hy); (try clear hl); (try clear hg); (try clear hF))
        rw [a_enter1 (M := a_m249) rfl (a_cat_rf (a_cat_int (a_cat_int a_cat_nil))) (show 3 ≤ 3 by decide)]
        show a_at _ (a_xm a_m249) 0 [some (a_rf M), some (.int a), some (.int v)] [] _ _
        simp only [q249_0, q249_1, q249_2, q249_5, q249_8, q249_9, q249_10, q249_13, q249_14, q249_15, q249_18, q249_19, q249_21, q249_24, q249_25, q249_26, q249_28, q249_31, q249_32, q249_34, q249_37, m_0 hS, m_K hS, sp_isAsk hS, sp_refuse_1 hS, sp_refuse_2 hS, sp_refuse_3 hS, sp_refuse_4 hS, sp_refuse_5 hS, sp_refuse_6 hS, as_nil, as_i, as_r, Nat.reduceAdd, Nat.reduceLeDiff, z_eq0, z_eq1, z_or, z_em, Classical.not_not, not_false_eq_true, not_true_eq_false, true_and, and_true, false_and, and_false, and_self, true_implies, false_implies, implies_true, Option.toList_some, Option.toList_none, List.cons_append, List.nil_append, Nat.add_eq_zero_iff, a_nl_i, a_nl_r, a_nl_n, true_or, or_true, eq_self, ok_4, ok_5, ok_6, ok_7, ok_9, ok_10, ok_20, ok_21, ok_24, ok_30, ok_48, ok_50, ok_60, ok_80, ok_120, ok_180, ok_192, ok_200, ok_900, ok_1000, ok_84000, e17, m17, c1, ha, c2, c2', c3, c3']
        try simp only [true_and, and_true, true_implies, false_implies, implies_true, not_true_eq_false, not_false_eq_true]
        first
          | exact hr
          | grind
      · rw [if_neg c3] at hP
        have c3' : v ≤ 9 := Int32.not_lt.mp c3
        have f1 := sF_danger hF (k := a.toNatClampNeg) (v := v)
        have g1 := gs_up hg (k := 15) (j := a.toNatClampNeg) (v := v) (Or.inl rfl) (sR_danger hg.1)
        have ok1 : okY (upY Y 15 a.toNatClampNeg v) := ok_rw (rw_up9 (Or.inl rfl)) hm
        have z10 : upY Y 15 a.toNatClampNeg v 10 = Y 10 := rw_up9 (Or.inl rfl) 10 (by omega) (by omega) (by omega) (by omega)
        have e20' : a_ui I (M + 15) a.toNatClampNeg v (M + 20) a.toNatClampNeg = upY Y 15 a.toNatClampNeg v 20 a.toNatClampNeg := g1.2.2.1 20 _ (by unfold ps1; omega)
        have e17' : a_ui I (M + 15) a.toNatClampNeg v M 17 = upY Y 15 a.toNatClampNeg v 0 17 := g1.2.2.1 0 17 (by unfold ps1; omega)
        have eH : ∀ x j, hC M x j → a_ui I (M + 15) a.toNatClampNeg v x j = I x j := fun x j q => by rw [ui_ap, if_neg (fun e => by unfold hC at q; omega)]
        have ho1 : eoM M (a_ui I (M + 15) a.toNatClampNeg v) := (hR_eq eH).2.2.2 ho
        have hN1 : hsN 6 (a_ui I (M + 15) a.toNatClampNeg v M 0) (hdR M (a_ui I (M + 15) a.toNatClampNeg v)) (upY Y 15 a.toNatClampNeg v) := by
          rw [(hR_eq eH).1, (hR_eq eH).2.2.1]
          exact hsN_up hN (by omega)
        have z17 : upY Y 15 a.toNatClampNeg v 0 17 = Y 0 17 := up_no (by omega)
        have zr := up_r (Y := Y) (k := 15) (j := a.toNatClampNeg) (v := v) (by omega)
        generalize eZ : upY Y 15 a.toNatClampNeg v = Z at hP g1 ok1 z10 e20' e17' hN1 z17 zr
        generalize eJ : a_ui I (M + 15) a.toNatClampNeg v = J1 at f1 g1 e20' e17' ho1 hN1 eH
        have hcl : a_does (d + 12) 248 [a_rf M, .int a] (n, t, K, L, J1, R) (fun r h' => a_at (d + 12) (a_xm a_m249) 50 [some (a_rf M), some (.int a), some (.int v)] (r.toList ++ []) h' P) := by
          refine xt_fitsNoMore (d := d + 1) hS ok1.2.1 ok1.1.2.2.2.2.1 ok1.1.2.1 g1 ha (by rw [z10]; exact hl a c1.1 c1.2) (fun J hJ => ?_)
          have f2 := mF_C f1 hJ
          have g2 := gs_C g1 hJ
          by_cases ag : agB Z a = true
          · rw [if_pos ag] at hP ⊢
            have n10 : ¬ (1 : Int32) = 0 := by decide
            have htk : a_does (d + 12) 186 [a_rf M, .int a] (n, t, K, L, J, R) (fun r h' => a_at (d + 12) (a_xm a_m249) 58 [some (a_rf M), some (.int a), some (.int v)] (r.toList ++ []) h' P) := by
              refine xh_takeFrom (d := d + 10) hS f2 (by omega) ha (fun J3 f3 _ y3 tk3 => ?_)
              have ht := th_un (th_C (th_0 g1 ho1 hN1) hJ) ok1.1.2.1 ok1.2.1.2.2.2.1 ha (by rw [z17]; exact c1.2) (of_decide_eq_true ag).1.1 y3 tk3
              have hp := hP J3 (mF_le f3 (by omega)) ht.1 (hq_b (hq_t ht) eH z17.symm zr)
              ((try clear hP); (try clear hrx); (try clear hrf); (try clear ho); (try clear hN); (try clear hm); (try clear hy); (try clear hl); (try clear hg); (try clear hF); (try clear f1); (try clear g1); (try clear f2); (try clear g2); (try clear f3); (try clear y3))
              simp only [q249_58, q249_59, as_nil, as_i, as_r, Nat.reduceAdd, Nat.reduceLeDiff, z_eq0, z_eq1, z_or, z_em, Classical.not_not, not_false_eq_true, not_true_eq_false, true_and, and_true, false_and, and_false, and_self, true_implies, false_implies, implies_true, Option.toList_some, Option.toList_none, List.cons_append, List.nil_append, Nat.add_eq_zero_iff, a_nl_i, a_nl_r, a_nl_n, true_or, or_true, eq_self, ok_4, ok_5, ok_6, ok_7, ok_9, ok_10, ok_20, ok_21, ok_24, ok_30, ok_48, ok_50, ok_60, ok_80, ok_120, ok_180, ok_192, ok_200, ok_900, ok_1000, ok_84000]
              exact hp
            ((try clear hP); (try clear hrx); (try clear hrf); (try clear ho); (try clear hN); (try clear hm); (try clear hy); (try clear hl); (try clear hg); (try clear hF); (try clear f1); (try clear g1); (try clear f2); (try clear g2))
            simp only [q249_50, q249_53, q249_54, q249_55, m_0 hS, m_K hS, as_nil, as_i, as_r, Nat.reduceAdd, Nat.reduceLeDiff, z_eq0, z_eq1, z_or, z_em, Classical.not_not, not_false_eq_true, not_true_eq_false, true_and, and_true, false_and, and_false, and_self, true_implies, false_implies, implies_true, Option.toList_some, Option.toList_none, List.cons_append, List.nil_append, Nat.add_eq_zero_iff, a_nl_i, a_nl_r, a_nl_n, true_or, or_true, eq_self, ok_4, ok_5, ok_6, ok_7, ok_9, ok_10, ok_20, ok_21, ok_24, ok_30, ok_48, ok_50, ok_60, ok_80, ok_120, ok_180, ok_192, ok_200, ok_900, ok_1000, ok_84000, n10]
            try simp only [true_and, and_true, true_implies, false_implies, implies_true, not_true_eq_false, not_false_eq_true]
            first
              | exact htk
              | grind
          · rw [if_neg ag] at hP ⊢
            have hp := hP J (mF_le f2 (by omega)) g2 (hq_b (hq_C (hq_0 ho1 hN1) hJ) eH z17.symm zr)
            ((try clear hP); (try clear hrx); (try clear hrf); (try clear ho); (try clear hN); (try clear hm); (try clear hy); (try clear hl); (try clear hg); (try clear hF); (try clear f1); (try clear g1); (try clear f2); (try clear g2))
            simp only [q249_50, q249_60, q249_61, as_nil, as_i, as_r, Nat.reduceAdd, Nat.reduceLeDiff, z_eq0, z_eq1, z_or, z_em, Classical.not_not, not_false_eq_true, not_true_eq_false, true_and, and_true, false_and, and_false, and_self, true_implies, false_implies, implies_true, Option.toList_some, Option.toList_none, List.cons_append, List.nil_append, Nat.add_eq_zero_iff, a_nl_i, a_nl_r, a_nl_n, true_or, or_true, eq_self, ok_4, ok_5, ok_6, ok_7, ok_9, ok_10, ok_20, ok_21, ok_24, ok_30, ok_48, ok_50, ok_60, ok_80, ok_120, ok_180, ok_192, ok_200, ok_900, ok_1000, ok_84000]
            try simp only [true_and, and_true, true_implies, false_implies, implies_true, not_true_eq_false, not_false_eq_true]
            first
              | exact hp
              | grind
        ((try clear hP); (try clear hrx); (try clear hrf); (try clear ho); (try clear hN); (try clear hm); (try clear hy); (try clear hl); (try clear hg); (try clear hF); (try clear f1); (try clear g1); (try clear ok1))
        rw [a_enter1 (M := a_m249) rfl (a_cat_rf (a_cat_int (a_cat_int a_cat_nil))) (show 3 ≤ 3 by decide)]
        show a_at _ (a_xm a_m249) 0 [some (a_rf M), some (.int a), some (.int v)] [] _ _
        simp only [q249_0, q249_1, q249_2, q249_5, q249_8, q249_9, q249_10, q249_13, q249_14, q249_15, q249_18, q249_19, q249_21, q249_24, q249_25, q249_26, q249_28, q249_31, q249_32, q249_34, q249_37, q249_38, q249_39, q249_42, q249_43, q249_44, q249_45, q249_46, q249_47, m_0 hS, m_K hS, mR_danger hS, mK_danger hS, mL_danger hS, sp_isAsk hS, sp_refuse_1 hS, sp_refuse_2 hS, sp_refuse_3 hS, sp_refuse_4 hS, sp_refuse_5 hS, sp_refuse_6 hS, as_nil, as_i, as_r, Nat.reduceAdd, Nat.reduceLeDiff, z_eq0, z_eq1, z_or, z_em, Classical.not_not, not_false_eq_true, not_true_eq_false, true_and, and_true, false_and, and_false, and_self, true_implies, false_implies, implies_true, Option.toList_some, Option.toList_none, List.cons_append, List.nil_append, Nat.add_eq_zero_iff, a_nl_i, a_nl_r, a_nl_n, true_or, or_true, eq_self, ok_4, ok_5, ok_6, ok_7, ok_9, ok_10, ok_20, ok_21, ok_24, ok_30, ok_48, ok_50, ok_60, ok_80, ok_120, ok_180, ok_192, ok_200, ok_900, ok_1000, ok_84000, e17, m17, c1, ha, c2, c2', c3, c3', eJ]
        try simp only [true_and, and_true, true_implies, false_implies, implies_true, not_true_eq_false, not_false_eq_true]
        first
          | exact hcl
          | grind
  · rw [if_pos c1] at hP
    have hr := hP _ (hrf 1).1 (hrf 1).2 (hrx 1)
    ((try clear hP); (try clear hrx); (try clear hrf); (try clear ho); (try clear hN); (try clear hm); (try clear hy); (try clear hl); (try clear hg); (try clear hF))
    rw [a_enter1 (M := a_m249) rfl (a_cat_rf (a_cat_int (a_cat_int a_cat_nil))) (show 3 ≤ 3 by decide)]
    show a_at _ (a_xm a_m249) 0 [some (a_rf M), some (.int a), some (.int v)] [] _ _
    simp only [q249_0, q249_1, q249_2, q249_5, q249_8, q249_9, q249_10, q249_13, m_0 hS, m_K hS, sp_isAsk hS, sp_refuse_1 hS, sp_refuse_2 hS, sp_refuse_3 hS, sp_refuse_4 hS, sp_refuse_5 hS, sp_refuse_6 hS, as_nil, as_i, as_r, Nat.reduceAdd, Nat.reduceLeDiff, z_eq0, z_eq1, z_or, z_em, Classical.not_not, not_false_eq_true, not_true_eq_false, true_and, and_true, false_and, and_false, and_self, true_implies, false_implies, implies_true, Option.toList_some, Option.toList_none, List.cons_append, List.nil_append, Nat.add_eq_zero_iff, a_nl_i, a_nl_r, a_nl_n, true_or, or_true, eq_self, ok_4, ok_5, ok_6, ok_7, ok_9, ok_10, ok_20, ok_21, ok_24, ok_30, ok_48, ok_50, ok_60, ok_80, ok_120, ok_180, ok_192, ok_200, ok_900, ok_1000, ok_84000, e17, m17, c1]
    try simp only [true_and, and_true, true_implies, false_implies, implies_true, not_true_eq_false, not_false_eq_true]
    first
      | exact hr
      | grind
end HC1
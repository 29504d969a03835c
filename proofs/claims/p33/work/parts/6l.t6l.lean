/-! put -/
section YV0
variable {d n t C c : Nat} {K L : Nat → Nat} {I I0 J J0 J1 J2 : Nat → Nat → Int32} {R : Nat → Nat → Nat} {P : Option Value → AH → Prop}
variable {Y Z W : Nat → Nat → Int32}
def ptY (Y : Nat → Nat → Int32) (v : Int32) : Int32 × (Nat → Nat → Int32) := if Y 0 79 = 21 then (-6, Y) else (Y 0 79 + 1, (upY (upY Y 52 (Y 0 79).toNatClampNeg v) 0 79 (Y 0 79 + 1)))
theorem cu_pt {m : Nat} (hH : cH C c m t K L I R) (hu : cuP C K L I R Y) {v : Int32} (h0 : 0 ≤ Y 0 79 ∧ Y 0 79 < 21) : cuP C K L (a_ui (a_ui I (C + 43) (Y 0 79).toNatClampNeg v) C 10 (Y 0 79 + 1)) R (upY (upY Y 52 (Y 0 79).toNatClampNeg v) 0 79 (Y 0 79 + 1)) := by
  have hT := hH.1
  have hS := hT.s
  have hc := hu.1
  have hy := hc.2.2.2.2
  obtain ⟨-, s2, -, s4⟩ := lp_st h0.1 h0.2
  have z0 : ∀ j, ¬ j = 79 → (upY (upY Y 52 (Y 0 79).toNatClampNeg v) 0 79 (Y 0 79 + 1)) 0 j = Y 0 j := fun j h => by rw [up_no (by omega), up_no (by omega)]
  have zr : ∀ x, ¬ x = 52 → ¬ x = 0 → (upY (upY Y 52 (Y 0 79).toNatClampNeg v) 0 79 (Y 0 79 + 1)) x = Y x := fun x h h2 => funext (fun i => by rw [up_no (by omega), up_no (by omega)])
  have sbz : sbE Y (upY (upY Y 52 (Y 0 79).toNatClampNeg v) 0 79 (Y 0 79 + 1)) := fun x j p => by rw [up_no (by unfold sb at p; omega), up_no (by unfold sb at p; omega)]
  have cin : ∀ k, ¬ k = 0 → ¬ k = 43 → ∀ m, (a_ui (a_ui I (C + 43) (Y 0 79).toNatClampNeg v) C 10 (Y 0 79 + 1)) (C + k) m = I (C + k) m := fun k hk hk2 m => by rw [ui_ap, if_neg (by omega), ui_ap, if_neg (by omega)]
  have hc1 := cp_sc hT hc (k := 43) (j := (Y 0 79).toNatClampNeg) (v := v) (by omega) (by omega)
  have hT1 : cT C K L (a_ui I (C + 43) (Y 0 79).toNatClampNeg v) R := sT_BeamHall_row hT
  have hc2 : cpP C K L (a_ui (a_ui I (C + 43) (Y 0 79).toNatClampNeg v) C 10 (Y 0 79 + 1)) R Y := cp_sc hT1 hc1 (k := 0) (j := 10) (v := Y 0 79 + 1) (by omega) (by omega)
  have hT2 : cT C K L (a_ui (a_ui I (C + 43) (Y 0 79).toNatClampNeg v) C 10 (Y 0 79 + 1)) R := sT_BeamHall_rowSize hT1 ⟨s2, by clear hu hc hc1 hc2 hy sbz cin zr z0; grind⟩
  have hc3 : cpP C K L (a_ui (a_ui I (C + 43) (Y 0 79).toNatClampNeg v) C 10 (Y 0 79 + 1)) R (upY (upY Y 52 (Y 0 79).toNatClampNeg v) 0 79 (Y 0 79 + 1)) := by
    refine cp_mk hT2 hc2 sbz ?_ (fun _ _ => ⟨rfl, rfl⟩) (fun _ _ _ _ _ _ _ => rfl) (fun _ _ _ => rfl) (fun _ _ _ _ _ => rfl) (fun _ _ _ _ => rfl) (fun _ _ _ => rfl) (fun _ _ _ _ => rfl) (fun i i0 i1 => ?_) ?_
    · have := hy.2.2.2.2.2.2.1
      unfold inP at this ⊢
      rw [zr 20 (by omega) (by omega), zr 21 (by omega) (by omega), zr 10 (by omega) (by omega)]
      exact this
    · rw [zr 20 (by omega) (by omega), zr 21 (by omega) (by omega)]
      exact (hc2.2.2.1.2.2.2 i i0 i1).2.2.2.1
    · have := hc2.2.1.2.2.2
      unfold plP at this ⊢
      rw [zr 20 (by omega) (by omega), zr 21 (by omega) (by omega), zr 10 (by omega) (by omega), zr 22 (by omega) (by omega), z0 17 (by omega), z0 6 (by omega)]
      exact this
  obtain ⟨-, hse, ⟨⟨⟨h1, h2⟩, h3, h4, h5, h6⟩, ⟨⟨t1, t2⟩, ⟨t3, t4⟩, t5, t6⟩, ⟨d1, d2⟩, ⟨y1, y2, y3, y4, y5, y6, y7, y8⟩⟩, hno, hst⟩ := hu
  refine ⟨hc3, se_b hse sbz, ⟨⟨⟨by rw [cin _ (by omega) (by omega), z0 10 (by omega)]; exact h1, by rw [cin _ (by omega) (by omega), z0 11 (by omega)]; exact h2⟩, fun k hk => by rw [cin _ (by omega) (by omega), zr 38 (by omega) (by omega), zr 36 (by omega) (by omega)]; exact h3 k hk, fun r g hr' hg => by rw [cin _ (by omega) (by omega), zr 35 (by omega) (by omega)]; exact h4 r g hr' hg, fun r a hr' ha => by rw [cin _ (by omega) (by omega), zr 37 (by omega) (by omega)]; exact h5 r a hr' ha, fun x p hx hp => by rw [cin _ (by omega) (by omega), zr 47 (by omega) (by omega)]; exact h6 x p hx hp⟩, ⟨⟨by rw [cin _ (by omega) (by omega), z0 2 (by omega)]; exact t1, fun j hj => by rw [z0 2 (by omega)] at hj; rw [cin _ (by omega) (by omega), cin _ (by omega) (by omega), cin _ (by omega) (by omega), zr 2 (by omega) (by omega), zr 3 (by omega) (by omega), zr 4 (by omega) (by omega)]; exact t2 j hj⟩, ⟨by rw [cin _ (by omega) (by omega), z0 40 (by omega)]; exact t3, fun j => by rw [cin _ (by omega) (by omega), zr 27 (by omega) (by omega)]; exact t4 j⟩, by rw [ui_ap, if_pos ⟨rfl, rfl⟩, up_at], fun j hj => ?_⟩, ⟨by rw [z0 12 (by omega)]; exact d1, fun hd => ?_⟩, ?_⟩, ?_, ?_⟩
  · rw [up_at, s4] at hj
    rw [ui_ap, if_neg (by omega), ui_ap, up_no (by omega)]
    by_cases e : j = (Y 0 79).toNatClampNeg
    · rw [if_pos ⟨rfl, e⟩, e, up_at]
    · rw [if_neg (fun q => e q.2), up_no (fun q => e q.2)]
      exact t6 j (by omega)
  · obtain ⟨e1, e2, e3, e4⟩ := d2 hd
    have g1 := (hT.g_ask _ e1).1
    have ej : ∀ j, (a_ui (a_ui I (C + 43) (Y 0 79).toNatClampNeg v) C 10 (Y 0 79 + 1)) (R C 11) j = I (R C 11) j := fun j => by rw [ui_ap, if_neg (by omega), ui_ap, if_neg (by omega)]
    simp only [ej]
    rw [z0 13 (by omega), z0 14 (by omega), z0 15 (by omega), z0 16 (by omega), z0 17 (by omega)]
    exact ⟨e1, e2, e3, e4⟩
  · refine ⟨fun k => ?_, fun r a => ?_, fun a => ?_, fun x p hx hp hle => ?_, fun q hq => ?_, fun j hj => ?_, fun k => ?_, fun j hj => ?_⟩
    · rw [zr 38 (by omega) (by omega), zr 37 (by omega) (by omega)]
      exact y1 k
    · rw [z0 17 (by omega), zr 37 (by omega) (by omega)]
      exact y2 r a
    · rw [zr 37 (by omega) (by omega)]
      exact y3 a
    · rw [z0 17 (by omega)] at hle
      rw [zr 47 (by omega) (by omega)]
      exact y4 x p hx hp hle
    · rw [z0 41 (by omega)] at hq
      rw [wt_b sbz, zr 29 (by omega) (by omega)]
      exact y5 q hq
    · rw [z0 2 (by omega)] at hj
      rw [zr 2 (by omega) (by omega), zr 3 (by omega) (by omega)]
      exact y6 j hj
    · rw [zr 47 (by omega) (by omega)]
      exact y7 k
    · rw [z0 2 (by omega)] at hj
      rw [zr 4 (by omega) (by omega), z0 0 (by omega)]
      exact y8 j hj
  · unfold noP
    rw [zr 20 (by omega) (by omega), zr 21 (by omega) (by omega)]
    exact hno
  · have q := stP_f hc hst (J := (a_ui (a_ui I (C + 43) (Y 0 79).toNatClampNeg v) C 10 (Y 0 79 + 1))) (R' := R) (fun x hx => by have := (hT.g_txt x hx).1; rw [ui_ap, if_neg (by omega), ui_ap, if_neg (by omega)]) (fun _ => rfl)
    unfold stP at q ⊢
    rw [z0 41 (by omega), zr 31 (by omega) (by omega)]
    exact q
theorem ge_put (hH : cH C c (n + 1) t K L I R) (hu : cuP C K L I R Y) {v : Int32} (hP : ∀ n' t' K' L' J R', cH C c (n' + 1) t' K' L' J R' → cuP C K' L' J R' (ptY Y v).2 → P (some (.int (ptY Y v).1)) (n' + 1, t', K', L', J, R')) : a_does (d + 70) 163 [a_rf C, .int v] (n + 1, t, K, L, I, R) P := by
  have hT := hH.1
  have hS := hT.s
  have gA := hT.g_asksR
  have gB := hT.g_benchesR
  have gX := hT.g_textsR
  have hc := hu.1
  have h17 := hc.2.2.2.2.2.2.2.2.1
  have e4 : I (C + 14) 4 = Y 0 17 := hc.2.2.1.1
  have e10 : I C 10 = Y 0 79 := hu.2.2.1.2.1.2.2.1
  have g := hT.g_row
  rw [e10] at g
  unfold ptY at hP
  by_cases c1 : Y 0 79 = 21
  · rw [if_pos c1] at hP
    have hr : a_does (d + 69) 10 [a_rf C, .int (-6)] (n + 1, t, K, L, I, R) (fun r h' => a_at (d + 69) (a_xm a_m163) 15 [some (a_rf C), some (.int v)] (r.toList ++ []) h' P) := by
      refine ge_refuse (d := d + 68) hH hu (fun J z1 z2 => ?_)
      have hp := hP n t K L J R z1 z2
      clear hP hc hu
      simp only [q163_15, as_nil, as_i, as_r, Nat.reduceAdd, Nat.reduceLeDiff, z_eq0, z_eq1, z_or, z_em, Classical.not_not, not_false_eq_true, not_true_eq_false, true_and, and_true, false_and, and_false, and_self, true_implies, false_implies, implies_true, Option.toList_some, Option.toList_none, List.cons_append, List.nil_append, Nat.add_eq_zero_iff, a_nl_i, a_nl_r, a_nl_n, true_or, or_true, eq_self, a_isRA_22, a_isRA_24, a_isRA_32, a_isA_20, ok_4, ok_5, ok_6, ok_7, ok_9, ok_20, ok_21, ok_30, ok_50, ok_180, ok_192, ok_200]
      exact hp
    have n1 : ¬ (21 : Int32) < 21 := by decide
    have n2 : (21 : Int32) ≤ 21 := by decide
    clear hP hc hu
    rw [a_enter1 (M := a_m163) rfl (a_cat_rf (a_cat_int a_cat_nil)) (show 2 ≤ 2 by decide)]
    show a_at _ (a_xm a_m163) 0 [some (a_rf C), some (.int v)] [] _ _
    simp only [q163_0, q163_1, q163_4, q163_6, q163_9, q163_10, q163_12, k_0 hS, z_C hS, as_nil, as_i, as_r, Nat.reduceAdd, Nat.reduceLeDiff, z_eq0, z_eq1, z_or, z_em, Classical.not_not, not_false_eq_true, not_true_eq_false, true_and, and_true, false_and, and_false, and_self, true_implies, false_implies, implies_true, Option.toList_some, Option.toList_none, List.cons_append, List.nil_append, Nat.add_eq_zero_iff, a_nl_i, a_nl_r, a_nl_n, true_or, or_true, eq_self, a_isRA_22, a_isRA_24, a_isRA_32, a_isA_20, ok_4, ok_5, ok_6, ok_7, ok_9, ok_20, ok_21, ok_30, ok_50, ok_180, ok_192, ok_200, e10, c1, n1, n2]
    try simp only [true_and, and_true, true_implies, false_implies, implies_true, not_true_eq_false, not_false_eq_true]
    first
      | exact hr
      | grind
  · rw [if_neg c1] at hP
    have h0 : 0 ≤ Y 0 79 ∧ Y 0 79 < 21 := ⟨g.1, by clear hP hc hu; grind⟩
    have n2 : ¬ 21 ≤ Y 0 79 := Int32.not_le.mpr h0.2
    obtain ⟨-, s2, -, s4⟩ := lp_st h0.1 h0.2
    have hp := hP n t K L (a_ui (a_ui I (C + 43) (Y 0 79).toNatClampNeg v) C 10 (Y 0 79 + 1)) R (cH_J hH (sT_BeamHall_rowSize (sT_BeamHall_row hT) ⟨s2, by clear hP hc hu; grind⟩)) (cu_pt hH hu h0)
    clear hP hc hu
    rw [a_enter1 (M := a_m163) rfl (a_cat_rf (a_cat_int a_cat_nil)) (show 2 ≤ 2 by decide)]
    show a_at _ (a_xm a_m163) 0 [some (a_rf C), some (.int v)] [] _ _
    simp only [q163_0, q163_1, q163_4, q163_6, q163_16, q163_17, q163_20, q163_21, q163_24, q163_25, q163_26, q163_27, q163_28, q163_31, q163_32, q163_33, q163_36, q163_37, q163_40, k_0 hS, z_C hS, r_0_9 hS, k_43 hS, l_43 hS, z_43, as_nil, as_i, as_r, Nat.reduceAdd, Nat.reduceLeDiff, z_eq0, z_eq1, z_or, z_em, Classical.not_not, not_false_eq_true, not_true_eq_false, true_and, and_true, false_and, and_false, and_self, true_implies, false_implies, implies_true, Option.toList_some, Option.toList_none, List.cons_append, List.nil_append, Nat.add_eq_zero_iff, a_nl_i, a_nl_r, a_nl_n, true_or, or_true, eq_self, a_isRA_22, a_isRA_24, a_isRA_32, a_isA_20, ok_4, ok_5, ok_6, ok_7, ok_9, ok_20, ok_21, ok_30, ok_50, ok_180, ok_192, ok_200, ui_ap, cc_ne, cc_n0, cc_0n, Nat.reduceEqDiff, reduceIte, if_true, if_false, e10, n2, h0]
    try simp only [true_and, and_true, true_implies, false_implies, implies_true, not_true_eq_false, not_false_eq_true]
    first
      | exact hp
      | grind
end YV0
section YV1
variable {d n t M : Nat} {K L : Nat → Nat} {I I0 J J0 J1 J2 : Nat → Nat → Int32} {R : Nat → Nat → Nat} {P : Option Value → AH → Prop} {f : Nat → Int32} {e : Int32}
variable {Y Z W : Nat → Nat → Int32}
theorem xp_put (hS : m_S M K L R) {I1 : Nat → Nat → Int32} (hm : okY Y) {c : Nat} (hc : c + 130 ≤ 84000) (hF : mF M c I1 I) (hg : gs M I0 I Y) {v : Int32} (hP : ∀ J, J M 35 = I M 35 → gs M I0 J (ptY Y v).2 → P (some (.int (ptY Y v).1)) (n, t, K, L, J, R)) : a_does (d + 13) 259 [a_rf M, .int v] (n, t, K, L, I, R) P := by
  have hy := hm.1
  have h17 := hy.2.2.2.2.1
  have h10 := hy.2.1
  have h6 := hy.2.2.2.2.2.1
  have hl := hy.2.2.1
  have hrf : ∀ k : Nat, mF M (c + 120) I1 (a_ui I (M + 23) k (I (M + 23) k + 1)) ∧ gs M I0 (a_ui I (M + 23) k (I (M + 23) k + 1)) Y := fun k => ⟨mF_le (sF_refused hF) (by omega), gs_ui hg (sR_refused hg.1) (by omega) ⟨by unfold ps1; omega, by omega⟩⟩
  have e17 : I M 17 = Y 0 17 := hg.2.2.1 0 17 (by unfold ps1; omega)
  have e6 : I M 6 = Y 0 6 := hg.2.2.1 0 6 (by unfold ps1; omega)
  have e0 : I M 0 = Y 0 0 := hg.2.2.1 0 0 (by unfold ps1; omega)
  have m17 : ∀ x : Int32, (x ≤ Y 0 17 - 1) = (x < Y 0 17) := fun x => le_m1 h17
  have m6 : ∀ x : Int32, (x ≤ Y 0 6 - 1) = (x < Y 0 6) := fun x => le_m1 ⟨h6.1, Int32.le_trans h6.2 (by decide)⟩
  have m199 : ∀ x : Int32, (x ≤ 199) = (x < 200) := fun x => propext ⟨fun q => Int32.lt_of_le_of_lt q (by decide), fun q => by clear hP hrf hm hg hF; grind⟩
  have e79 : I M 79 = Y 0 79 := hg.2.2.1 0 79 (by unfold ps1; omega)
  have g := rg_rowMany hg.1
  rw [e79] at g
  unfold ptY at hP
  by_cases c1 : Y 0 79 = 21
  · rw [if_pos c1] at hP
    have hr := hP _ (by rw [ui_ap, if_neg (by omega)]) (hrf 6).2
    clear hP hrf hm hy hl hg hF
    rw [a_enter1 (M := a_m259) rfl (a_cat_rf (a_cat_int a_cat_nil)) (show 2 ≤ 2 by decide)]
    show a_at _ (a_xm a_m259) 0 [some (a_rf M), some (.int v)] [] _ _
    simp only [q259_0, q259_1, q259_4, q259_6, q259_9, q259_10, q259_12, q259_15, m_0 hS, m_K hS, sp_refuse_1 hS, sp_refuse_2 hS, sp_refuse_3 hS, sp_refuse_4 hS, sp_refuse_5 hS, sp_refuse_6 hS, as_nil, as_i, as_r, Nat.reduceAdd, Nat.reduceLeDiff, z_eq0, z_eq1, z_or, z_em, Classical.not_not, not_false_eq_true, not_true_eq_false, true_and, and_true, false_and, and_false, and_self, true_implies, false_implies, implies_true, Option.toList_some, Option.toList_none, List.cons_append, List.nil_append, Nat.add_eq_zero_iff, a_nl_i, a_nl_r, a_nl_n, true_or, or_true, eq_self, ok_4, ok_5, ok_6, ok_7, ok_9, ok_10, ok_20, ok_21, ok_24, ok_30, ok_48, ok_50, ok_60, ok_80, ok_120, ok_180, ok_192, ok_200, ok_900, ok_1000, ok_84000, e79, c1]
    try simp only [true_and, and_true, true_implies, false_implies, implies_true, not_true_eq_false, not_false_eq_true]
    first
      | exact hr
      | grind
  · rw [if_neg c1] at hP
    have h0 : 0 ≤ Y 0 79 ∧ Y 0 79 < 21 := ⟨g.1, by clear hP hrf hm hy hl hg hF; grind⟩
    obtain ⟨-, s2, -, s4⟩ := lp_st h0.1 h0.2
    have g1 := gs_up2 hg (k := 52) (j := (Y 0 79).toNatClampNeg) (v := v) (by omega) (by omega) (sR_row hg.1)
    have g2 := gs_up2 g1 (k := 0) (j := 79) (v := Y 0 79 + 1) (by omega) (by omega) (sR_rowMany g1.1 ⟨s2, by clear hP hrf hm hy hl hg hF g1; grind⟩)
    have hp := hP (a_ui (a_ui I (M + 52) (Y 0 79).toNatClampNeg v) M 79 (Y 0 79 + 1)) (by rw [ui_ap, if_neg (by omega), ui_ap, if_neg (by omega)]) g2
    clear hP hrf hm hy hl hg hF g1 g2
    rw [a_enter1 (M := a_m259) rfl (a_cat_rf (a_cat_int a_cat_nil)) (show 2 ≤ 2 by decide)]
    show a_at _ (a_xm a_m259) 0 [some (a_rf M), some (.int v)] [] _ _
    simp only [q259_0, q259_1, q259_4, q259_6, q259_16, q259_17, q259_20, q259_21, q259_24, q259_25, q259_26, q259_27, q259_28, q259_31, q259_32, q259_33, q259_36, q259_37, q259_40, m_0 hS, m_K hS, mR_row hS, mK_row hS, mL_row hS, as_nil, as_i, as_r, Nat.reduceAdd, Nat.reduceLeDiff, z_eq0, z_eq1, z_or, z_em, Classical.not_not, not_false_eq_true, not_true_eq_false, true_and, and_true, false_and, and_false, and_self, true_implies, false_implies, implies_true, Option.toList_some, Option.toList_none, List.cons_append, List.nil_append, Nat.add_eq_zero_iff, a_nl_i, a_nl_r, a_nl_n, true_or, or_true, eq_self, ok_4, ok_5, ok_6, ok_7, ok_9, ok_10, ok_20, ok_21, ok_24, ok_30, ok_48, ok_50, ok_60, ok_80, ok_120, ok_180, ok_192, ok_200, ok_900, ok_1000, ok_84000, ui_ap, cc_ne, cc_n0, cc_0n, Nat.reduceEqDiff, reduceIte, if_true, if_false, e79, c1, h0]
    try simp only [true_and, and_true, true_implies, false_implies, implies_true, not_true_eq_false, not_false_eq_true]
    first
      | exact hp
      | grind
end YV1
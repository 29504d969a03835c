/-! the class: free hosts of a bench -/
section YN
variable {d n t C : Nat} {K L : Nat → Nat} {I I0 J J0 J1 J2 : Nat → Nat → Int32} {R : Nat → Nat → Nat} {P : Option Value → AH → Prop}
variable {Y : Nat → Nat → Int32}
/-- the class's benches are the model's -/
def bhP (C : Nat) (K : Nat → Nat) (I : Nat → Nat → Int32) (R : Nat → Nat → Nat) (Y : Nat → Nat → Int32) : Prop := I (C + 14) 5 = Y 0 6 ∧ I (C + 14) 6 = Y 0 9 ∧ (∀ i : Int32, 0 ≤ i → i < Y 0 6 → K (R (C + 16) i.toNatClampNeg) = 3 ∧ ¬ (R (C + 16) i.toNatClampNeg) = 0 ∧ I (R (C + 16) i.toNatClampNeg) 0 = Y 5 i.toNatClampNeg ∧ I (R (C + 16) i.toNatClampNeg) 1 = Y 6 i.toNatClampNeg) ∧ plP (whC C I R) (snC C I R) Y
theorem le_freeHosts_32 (hT : cT C K L I R) (hB : bhP C K I R Y) {a : Nat} (ha : K a = 1) {b s f e : Int32} (hf : 0 ≤ f ∧ f ≤ e + 1) (he : e ≤ 199) {V : Int32} (hn : ∀ i u, a_at (d + 1) (a_xm a_m108) 78 [some (a_rf (C + 14)), some (a_rf a), some (.int b), some (.int s), some (.int f), some (.int e), some (.int V), some (.int i), u] [] (n, t, K, L, I, R) P) : ∀ i : Int32, i ≤ 6 → ∀ o u, 0 ≤ i → i ≤ Y 0 6 → ftB (whC C I R) (snC C I R) (I a 4) f ((e + 1).toNatClampNeg - f.toNatClampNeg) ((Y 0 6).toNatClampNeg - i.toNatClampNeg) i o = V → a_at (d + 1) (a_xm a_m108) 32 [some (a_rf (C + 14)), some (a_rf a), some (.int b), some (.int s), some (.int f), some (.int e), some (.int o), some (.int i), u] [] (n, t, K, L, I, R) P := by
  have hS := hT.s
  have gB := hT.g_benchesR
  have gc := hT.g_benches
  rw [hB.1] at gc
  obtain ⟨a1, a2, a4, a3⟩ := hT.g_ask a ha
  have a0 : (a = 0) = False := eq_false (by omega)
  refine up_ind 6 (fun i hk ih => ?_)
  intro o u q0 q1 hV
  have hexit : ¬ i < Y 0 6 → a_at (d + 1) (a_xm a_m108) 78 [some (a_rf (C + 14)), some (a_rf a), some (.int b), some (.int s), some (.int f), some (.int e), some (.int o), some (.int i), u] [] (n, t, K, L, I, R) P := fun w => by
    have ei : i = Y 0 6 := by
      clear ih hn hV hB hT hS gB a1 a2 a3 a4 a0 hf he
      grind
    have hc := hn i u
    rw [← ei, Nat.sub_self] at hV
    rw [← hV] at hc
    exact hc
  have hgo : i < Y 0 6 → a_at (d + 1) (a_xm a_m108) 32 [some (a_rf (C + 14)), some (a_rf a), some (.int b), some (.int s), some (.int f), some (.int e), some (.int (o ||| stI (whC C I R i) (snC C I R i) (I a 4) ((e + 1).toNatClampNeg - f.toNatClampNeg) f 0)), some (.int (i + 1)), some (a_rf (R (C + 16) i.toNatClampNeg))] [] (n, t, K, L, I, R) P := fun w => by
    have i6 : i < 6 := by
      clear ih hn hV hB hT hS gB a1 a2 a3 a4 a0 hf he hexit
      grind
    have i3 := cl_lt q0 w
    have ei : (i + 1).toNatClampNeg = i.toNatClampNeg + 1 := cl_up q0 (by
      clear ih hn hV hB hT hS gB a1 a2 a3 a4 a0 hf he hexit
      grind)
    refine ih i6 _ _ ?_ ?_ ?_
    · clear ih hn hV hB hT hS gB a1 a2 a3 a4 a0 hf he hexit
      grind
    · clear ih hn hV hB hT hS gB a1 a2 a3 a4 a0 hf he hexit
      grind
    · rw [← hV, ei, show (Y 0 6).toNatClampNeg - i.toNatClampNeg = ((Y 0 6).toNatClampNeg - (i.toNatClampNeg + 1)) + 1 by omega]
      rfl
  have h41 : i < Y 0 6 → a_at (d + 1) (a_xm a_m108) 41 [some (a_rf (C + 14)), some (a_rf a), some (.int b), some (.int s), some (.int f), some (.int e), some (.int o), some (.int i), u] [] (n, t, K, L, I, R) P := fun w => by
    have hgo := hgo w
    obtain ⟨k1, k2, k3, k4⟩ := hB.2.2.1 i q0 w
    have i6 : i < 6 := by
      clear ih hn hV hB hT hS gB a1 a2 a3 a4 a0 hf he hexit hgo
      grind
    have hc : 0 ≤ i ∧ i < I (C + 14) 5 ∧ i < 6 := ⟨q0, by rw [hB.1]; exact w, i6⟩
    simp only [q108_41, q108_42, q108_44, q108_47, q108_49, q108_51, q108_54, q108_56, q108_58, q108_60, q108_62, q108_63, q108_66, k_14 hS, z_14, sp_benchAt hS gB, as_nil, as_i, as_r, Nat.reduceAdd, Nat.reduceLeDiff, z_eq0, z_eq1, z_or, z_em, Classical.not_not, not_false_eq_true, not_true_eq_false, true_and, and_true, false_and, and_false, and_self, true_implies, false_implies, implies_true, Option.toList_some, Option.toList_none, List.cons_append, List.nil_append, Nat.add_eq_zero_iff, a_nl_i, a_nl_r, a_nl_n, true_or, or_true, eq_self, a_isRA_22, a_isRA_24, a_isRA_32, a_isA_20, ok_4, ok_5, ok_6, ok_7, ok_9, ok_20, ok_21, ok_30, ok_50, ok_180, ok_192, ok_200, ha, a0, hc, k1, k2]
    try simp only [true_and, and_true, true_implies, false_implies, implies_true, not_true_eq_false, not_false_eq_true]
    refine ce_standing k1 hT hf he ?_
    clear ih hn hV hB hexit
    simp only [q108_69, q108_70, q108_72, q108_75, as_nil, as_i, as_r, Nat.reduceAdd, Nat.reduceLeDiff, z_eq0, z_eq1, z_or, z_em, Classical.not_not, not_false_eq_true, not_true_eq_false, true_and, and_true, false_and, and_false, and_self, true_implies, false_implies, implies_true, Option.toList_some, Option.toList_none, List.cons_append, List.nil_append, Nat.add_eq_zero_iff, a_nl_i, a_nl_r, a_nl_n, true_or, or_true, eq_self, a_isRA_22, a_isRA_24, a_isRA_32, a_isA_20, ok_4, ok_5, ok_6, ok_7, ok_9, ok_20, ok_21, ok_30, ok_50, ok_180, ok_192, ok_200]
    exact hgo
  clear ih hn hV hgo
  rw [q108_32]
  simp only [q108_34, q108_35, q108_38, k_14 hS, z_14, as_nil, as_i, as_r, Nat.reduceAdd, Nat.reduceLeDiff, z_eq0, z_eq1, z_or, z_em, Classical.not_not, not_false_eq_true, not_true_eq_false, true_and, and_true, false_and, and_false, and_self, true_implies, false_implies, implies_true, Option.toList_some, Option.toList_none, List.cons_append, List.nil_append, Nat.add_eq_zero_iff, a_nl_i, a_nl_r, a_nl_n, true_or, or_true, eq_self, a_isRA_22, a_isRA_24, a_isRA_32, a_isA_20, ok_4, ok_5, ok_6, ok_7, ok_9, ok_20, ok_21, ok_30, ok_50, ok_180, ok_192, ok_200, ha, a0, hB.1]
  clear hB hT
  grind
theorem fe_is {s r f e : Int32} (hs : 0 ≤ s ∧ s < 200) (hr : 0 ≤ r ∧ r ≤ 3) (hf : f = if 0 < s - r then s - r else 0) (he : e = if s + r < 199 then s + r else 199) : (∀ x : Int32, (0 ≤ x ∧ x ≤ 199 ∧ x - s ≤ r ∧ -r ≤ x - s) ↔ (f ≤ x ∧ x ≤ e)) ∧ (0 ≤ f ∧ f ≤ e + 1) ∧ e ≤ 199 := by
  have s0 := Int32.le_iff_toInt_le.mp hs.1
  have s1 := Int32.lt_iff_toInt_lt.mp hs.2
  have r0 := Int32.le_iff_toInt_le.mp hr.1
  have r1 := Int32.le_iff_toInt_le.mp hr.2
  have w0 : (0 : Int32).toInt = 0 := rfl
  have w1 : (1 : Int32).toInt = 1 := rfl
  have w3 : (3 : Int32).toInt = 3 := rfl
  have w199 : (199 : Int32).toInt = 199 := rfl
  have w200 : (200 : Int32).toInt = 200 := rfl
  rw [w0] at s0 r0
  rw [w200] at s1
  rw [w3] at r1
  have d1 : (s - r).toInt = s.toInt - r.toInt := by rw [Int32.toInt_sub, in_bm (by omega) (by omega)]
  have d2 : (s + r).toInt = s.toInt + r.toInt := by rw [Int32.toInt_add, in_bm (by omega) (by omega)]
  have d3 : (-r).toInt = -r.toInt := by rw [Int32.toInt_neg, in_bm (by omega) (by omega)]
  have ef : f.toInt = if 0 < s.toInt - r.toInt then s.toInt - r.toInt else 0 := by
    rw [hf]
    by_cases c : 0 < s - r
    · have c2 := Int32.lt_iff_toInt_lt.mp c
      rw [d1, w0] at c2
      rw [if_pos c, if_pos c2, d1]
    · have c2 : ¬ 0 < s.toInt - r.toInt := fun q => c (by rw [Int32.lt_iff_toInt_lt, d1, w0]; exact q)
      rw [if_neg c, if_neg c2, w0]
  have ee : e.toInt = if s.toInt + r.toInt < 199 then s.toInt + r.toInt else 199 := by
    rw [he]
    by_cases c : s + r < 199
    · have c2 := Int32.lt_iff_toInt_lt.mp c
      rw [d2, w199] at c2
      rw [if_pos c, if_pos c2, d2]
    · have c2 : ¬ s.toInt + r.toInt < 199 := fun q => c (by rw [Int32.lt_iff_toInt_lt, d2, w199]; exact q)
      rw [if_neg c, if_neg c2, w199]
  have f0 : 0 ≤ f.toInt ∧ f.toInt ≤ 199 ∧ s.toInt - r.toInt ≤ f.toInt ∧ (f.toInt = s.toInt - r.toInt ∨ f.toInt = 0) := by
    rw [ef]
    split <;> omega
  have e0 : 0 ≤ e.toInt ∧ e.toInt ≤ 199 ∧ e.toInt ≤ s.toInt + r.toInt ∧ (e.toInt = s.toInt + r.toInt ∨ e.toInt = 199) := by
    rw [ee]
    split <;> omega
  clear ef ee hf he
  have e1 : (e + 1).toInt = e.toInt + 1 := by rw [Int32.toInt_add, w1, in_bm (by omega) (by omega)]
  refine ⟨fun x => ?_, ⟨by rw [Int32.le_iff_toInt_le, w0]; omega, by rw [Int32.le_iff_toInt_le, e1]; omega⟩, by rw [Int32.le_iff_toInt_le, w199]; omega⟩
  simp only [Int32.le_iff_toInt_le, w0, w199, d3]
  by_cases c : 0 ≤ x.toInt ∧ x.toInt ≤ 199
  · have d4 : (x - s).toInt = x.toInt - s.toInt := by rw [Int32.toInt_sub, in_bm (by omega) (by omega)]
    rw [d4]
    omega
  · omega
theorem ce_freeHosts (hT : cT C K L I R) (hB : bhP C K I R Y) (hl : ∀ j, 0 ≤ Y 10 j ∧ Y 10 j ≤ 4) (hr : 0 ≤ Y 0 9 ∧ Y 0 9 ≤ 3) (hn : 0 ≤ Y 0 17 ∧ Y 0 17 ≤ 30) {a : Nat} (ha : K a = 1) {b s : Int32} (hb : 0 ≤ b ∧ b < Y 0 6) (hs : 0 ≤ s ∧ s < 200) (hP : P (some (.int (fhY Y (I a 4) b s))) (n, t, K, L, I, R)) : a_does (d + 2) 108 [a_rf (C + 14), a_rf a, .int b, .int s] (n, t, K, L, I, R) P := by
  have hS := hT.s
  have gB := hT.g_benchesR
  have gc := hT.g_benches
  rw [hB.1] at gc
  obtain ⟨a1, a2, a4, a3⟩ := hT.g_ask a ha
  have a0 : (a = 0) = False := eq_false (by omega)
  have er := hB.2.1
  have b6 : b < 6 := by
    clear hB hT hS gB a1 a2 a3 a4 a0 hP hl
    grind
  have hgo : ∀ f e : Int32, (f = if 0 < s - Y 0 9 then s - Y 0 9 else 0) → (e = if s + Y 0 9 < 199 then s + Y 0 9 else 199) → a_at (d + 1) (a_xm a_m108) 32 [some (a_rf (C + 14)), some (a_rf a), some (.int b), some (.int s), some (.int f), some (.int e), some (.int 0), some (.int 0), none] [] (n, t, K, L, I, R) P := fun f e hf he => by
    obtain ⟨hfe, hf2, he2⟩ := fe_is hs hr hf he
    have hce : (e + 1).toNatClampNeg = f.toNatClampNeg + ((e + 1).toNatClampNeg - f.toNatClampNeg) := by
      have := cl_le0 hf2.1 hf2.2
      omega
    have hbq := busy_eq (a := I a 4) hB.2.2.2 hl hn gc hfe hf2 he2 hce
    refine le_freeHosts_32 (d := d) hT hB ha hf2 he2 (V := fbO Y (I a 4) s (Y 0 17).toNatClampNeg 0 0) (fun i u => ?_) 0 (by decide) 0 none (by decide) gc.1 (by rw [show (0 : Int32).toNatClampNeg = 0 from rfl, Nat.sub_zero]; exact hbq)
    obtain ⟨k1, k2, k3, k4⟩ := hB.2.2.1 b hb.1 hb.2
    have hc : 0 ≤ b ∧ b < I (C + 14) 5 ∧ b < 6 := ⟨hb.1, by rw [hB.1]; exact hb.2, b6⟩
    unfold fhY at hP
    rw [← k4] at hP
    clear hbq hce hfe hf he hB hl
    simp only [q108_78, q108_79, q108_80, q108_83, q108_85, q108_87, q108_90, q108_91, q108_94, q108_96, q108_99, q108_101, q108_102, q108_103, q108_104, k_14 hS, z_14, sp_benchAt hS gB, as_nil, as_i, as_r, Nat.reduceAdd, Nat.reduceLeDiff, z_eq0, z_eq1, z_or, z_em, Classical.not_not, not_false_eq_true, not_true_eq_false, true_and, and_true, false_and, and_false, and_self, true_implies, false_implies, implies_true, Option.toList_some, Option.toList_none, List.cons_append, List.nil_append, Nat.add_eq_zero_iff, a_nl_i, a_nl_r, a_nl_n, true_or, or_true, eq_self, a_isRA_22, a_isRA_24, a_isRA_32, a_isA_20, ok_4, ok_5, ok_6, ok_7, ok_9, ok_20, ok_21, ok_30, ok_50, ok_180, ok_192, ok_200, ha, a0, hc, k1, k2]
    try simp only [true_and, and_true, true_implies, false_implies, implies_true, not_true_eq_false, not_false_eq_true]
    exact hP
  rw [a_enter1 (M := a_m108) rfl (a_cat_rf (a_cat_rf (a_cat_int (a_cat_int a_cat_nil)))) (show 4 ≤ 9 by decide)]
  show a_at _ (a_xm a_m108) 0 [some (a_rf (C + 14)), some (a_rf a), some (.int b), some (.int s), none, none, none, none, none] [] _ _
  clear hP hl hB
  repeat' first
    | with_reducible apply And.intro
    | with_reducible assumption
    | with_reducible intro _
    | refine hgo _ _ ?_ ?_
    | simp only [q108_0, q108_1, q108_2, q108_3, q108_6, q108_7, q108_10, q108_12, q108_15, q108_16, q108_17, q108_20, q108_21, q108_24, q108_26, q108_27, q108_29, q108_30, k_14 hS, z_14, sp_max, sp_min, as_nil, as_i, as_r, Nat.reduceAdd, Nat.reduceLeDiff, z_eq0, z_eq1, z_or, z_em, Classical.not_not, not_false_eq_true, not_true_eq_false, true_and, and_true, false_and, and_false, and_self, true_implies, false_implies, implies_true, Option.toList_some, Option.toList_none, List.cons_append, List.nil_append, Nat.add_eq_zero_iff, a_nl_i, a_nl_r, a_nl_n, true_or, or_true, eq_self, a_isRA_22, a_isRA_24, a_isRA_32, a_isA_20, ok_4, ok_5, ok_6, ok_7, ok_9, ok_20, ok_21, ok_30, ok_50, ok_180, ok_192, ok_200, er]
  all_goals ((try clear hgo); (try clear hT); (try clear hS); (try clear gB); grind [ui_ap])
end YN
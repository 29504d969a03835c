/-! mark -/
section ZE0
variable {d n t C c n0 n' n'' t' : Nat} {K L K0 L0 K' L' K'' L'' : Nat → Nat} {I I0 J J0 J1 J2 : Nat → Nat → Int32} {R R0 R' R'' : Nat → Nat → Nat} {P : Option Value → AH → Prop}
variable {Y Z : Nat → Nat → Int32}
theorem bq_v {k : Nat} (hk : k < 32) (x : Int32) : ((x >>> (Int32.ofNat k &&& 31)) &&& 1) = if bq x k = true then 1 else 0 := by
  cases h : bq x k with
  | false =>
    rw [if_neg Bool.false_ne_true]
    exact (bq_at hk x).mpr h
  | true =>
    rw [if_pos rfl]
    refine bq_ext (fun i hi => ?_)
    rw [bq_and, bq_1 i hi]
    by_cases e : i = 0
    · subst e
      rw [bq_shr hk x (by decide), Nat.add_zero, if_pos hk, h]
      rfl
    · rw [decide_eq_false e, Bool.and_false]
theorem bq_vi {a : Int32} (h0 : 0 ≤ a) (h1 : a.toNatClampNeg < 32) (x : Int32) : ((x >>> (a &&& 31)) &&& 1) = if bq x a.toNatClampNeg = true then 1 else 0 := by
  have q := bq_v h1 x
  rw [← on_cl h0] at q
  exact q
theorem le_toldOf_4 (hS : cS C K L R) {a : Int32} (ha : 0 ≤ a ∧ a < 30) (hP : P (some (.int (Int32.ofNat (sm (fun x => if bq (I (C + 19) x) a.toNatClampNeg = true then 1 else 0) 6)))) (n, t, K, L, I, R)) : ∀ i : Int32, i ≤ 6 → ∀ o, 0 ≤ i → o = Int32.ofNat (sm (fun x => if bq (I (C + 19) x) a.toNatClampNeg = true then 1 else 0) i.toNatClampNeg) → a_at d (a_xm a_m94) 4 [some (a_rf (C + 17)), some (.int a), some (.int o), some (.int i)] [] (n, t, K, L, I, R) P := by
  have a30 : a.toNatClampNeg < 30 := a_lt30 ha
  refine up_ind 6 (fun i hk ih => ?_)
  intro o q0 eo
  have hend : ¬ i < 6 → P (some (.int o)) (n, t, K, L, I, R) := fun e => by
    have : i = 6 := by clear ih hP eo; grind
    subst this
    rw [eo]
    exact hP
  have hgo : i < 6 → a_at d (a_xm a_m94) 4 [some (a_rf (C + 17)), some (.int a), some (.int (o + ((I (C + 19) i.toNatClampNeg >>> (a &&& 31)) &&& 1))), some (.int (i + 1))] [] (n, t, K, L, I, R) P := fun e => by
    obtain ⟨-, s2, -, s4⟩ := lp_st q0 e
    refine ih e _ s2 ?_
    rw [s4]
    show _ = Int32.ofNat (sm (fun x => if bq (I (C + 19) x) a.toNatClampNeg = true then 1 else 0) i.toNatClampNeg + if bq (I (C + 19) i.toNatClampNeg) a.toNatClampNeg = true then 1 else 0)
    rw [Int32.ofNat_add, ← eo, bq_vi ha.1 (by omega)]
    congr 1
    split
    · rfl
    · rfl
  clear ih hP eo
  rw [q94_4]
  repeat' first
    | with_reducible apply And.intro
    | with_reducible assumption
    | with_reducible intro _
    | refine hend ?_
    | refine hgo ?_
    | simp only [q94_5, q94_7, q94_10, q94_11, q94_12, q94_15, q94_16, q94_17, q94_18, q94_19, q94_20, q94_21, q94_22, q94_23, q94_26, q94_29, q94_30, k_17 hS, z_17, r_17_2 hS, k_19 hS, l_19 hS, z_19, as_nil, as_i, as_r, Nat.reduceAdd, Nat.reduceLeDiff, z_eq0, z_eq1, z_or, z_em, Classical.not_not, not_false_eq_true, not_true_eq_false, true_and, and_true, false_and, and_false, and_self, true_implies, false_implies, implies_true, Option.toList_some, Option.toList_none, List.cons_append, List.nil_append, Nat.add_eq_zero_iff, a_nl_i, a_nl_r, a_nl_n, true_or, or_true, eq_self, a_isRA_22, a_isRA_24, a_isRA_32, a_isA_20, ok_4, ok_5, ok_6, ok_7, ok_9, ok_20, ok_21, ok_30, ok_50, ok_180, ok_192, ok_200]
  all_goals ((try clear hend); (try clear hgo); grind [ui_ap])
theorem ce_toldOf (hS : cS C K L R) {a : Int32} (ha : 0 ≤ a ∧ a < 30) (hP : P (some (.int (Int32.ofNat (sm (fun x => if bq (I (C + 19) x) a.toNatClampNeg = true then 1 else 0) 6)))) (n, t, K, L, I, R)) : a_does (d + 1) 94 [a_rf (C + 17), .int a] (n, t, K, L, I, R) P := by
  have hl := le_toldOf_4 (d := d) hS ha hP 0 (by decide) 0 (by decide) rfl
  rw [a_enter1 (M := a_m94) rfl (a_cat_rf (a_cat_int a_cat_nil)) (show 2 ≤ 4 by decide)]
  show a_at _ (a_xm a_m94) 0 [some (a_rf (C + 17)), some (.int a), none, none] [] _ _
  repeat' first
    | with_reducible apply And.intro
    | with_reducible assumption
    | with_reducible intro _
    | with_reducible apply hl
    | simp only [q94_0, q94_1, q94_2, q94_3, as_nil, as_i, as_r, Nat.reduceAdd, Nat.reduceLeDiff, z_eq0, z_eq1, z_or, z_em, Classical.not_not, not_false_eq_true, not_true_eq_false, true_and, and_true, false_and, and_false, and_self, true_implies, false_implies, implies_true, Option.toList_some, Option.toList_none, List.cons_append, List.nil_append, Nat.add_eq_zero_iff, a_nl_i, a_nl_r, a_nl_n, true_or, or_true, eq_self, a_isRA_22, a_isRA_24, a_isRA_32, a_isA_20, ok_4, ok_5, ok_6, ok_7, ok_9, ok_20, ok_21, ok_30, ok_50, ok_180, ok_192, ok_200]
  all_goals grind [ui_ap]
theorem ce_isTold (hS : cS C K L R) {r a : Int32} (hr : 0 ≤ r ∧ r < 6) (ha : 0 ≤ a ∧ a < 30) (hP : P (some (.int (if bq (I (C + 19) r.toNatClampNeg) a.toNatClampNeg = true then 1 else 0))) (n, t, K, L, I, R)) : a_does (d + 1) 93 [a_rf (C + 17), .int r, .int a] (n, t, K, L, I, R) P := by
  have a30 : a.toNatClampNeg < 30 := a_lt30 ha
  have e := bq_vi ha.1 (by omega) (I (C + 19) r.toNatClampNeg)
  have n10 : ¬ (1 : Int32) = 0 := by decide
  rw [a_enter1 (M := a_m93) rfl (a_cat_rf (a_cat_int (a_cat_int a_cat_nil))) (show 3 ≤ 3 by decide)]
  show a_at _ (a_xm a_m93) 0 [some (a_rf (C + 17)), some (.int r), some (.int a)] [] _ _
  by_cases c : bq (I (C + 19) r.toNatClampNeg) a.toNatClampNeg = true
  · rw [if_pos c] at hP e
    simp only [q93_0, q93_1, q93_4, q93_5, q93_6, q93_7, q93_8, q93_9, q93_10, q93_13, q93_14, q93_17, q93_18, k_17 hS, z_17, r_17_2 hS, k_19 hS, l_19 hS, z_19, as_nil, as_i, as_r, Nat.reduceAdd, Nat.reduceLeDiff, z_eq0, z_eq1, z_or, z_em, Classical.not_not, not_false_eq_true, not_true_eq_false, true_and, and_true, false_and, and_false, and_self, true_implies, false_implies, implies_true, Option.toList_some, Option.toList_none, List.cons_append, List.nil_append, Nat.add_eq_zero_iff, a_nl_i, a_nl_r, a_nl_n, true_or, or_true, eq_self, a_isRA_22, a_isRA_24, a_isRA_32, a_isA_20, ok_4, ok_5, ok_6, ok_7, ok_9, ok_20, ok_21, ok_30, ok_50, ok_180, ok_192, ok_200, hr, e, n10]
    try simp only [true_and, and_true, true_implies, false_implies, implies_true, not_true_eq_false, not_false_eq_true]
    first
      | exact hP
      | grind
  · rw [if_neg c] at hP e
    simp only [q93_0, q93_1, q93_4, q93_5, q93_6, q93_7, q93_8, q93_9, q93_10, q93_13, q93_14, q93_17, q93_18, k_17 hS, z_17, r_17_2 hS, k_19 hS, l_19 hS, z_19, as_nil, as_i, as_r, Nat.reduceAdd, Nat.reduceLeDiff, z_eq0, z_eq1, z_or, z_em, Classical.not_not, not_false_eq_true, not_true_eq_false, true_and, and_true, false_and, and_false, and_self, true_implies, false_implies, implies_true, Option.toList_some, Option.toList_none, List.cons_append, List.nil_append, Nat.add_eq_zero_iff, a_nl_i, a_nl_r, a_nl_n, true_or, or_true, eq_self, a_isRA_22, a_isRA_24, a_isRA_32, a_isA_20, ok_4, ok_5, ok_6, ok_7, ok_9, ok_20, ok_21, ok_30, ok_50, ok_180, ok_192, ok_200, hr, e]
    try simp only [true_and, and_true, true_implies, false_implies, implies_true, not_true_eq_false, not_false_eq_true]
    first
      | exact hP
      | grind
theorem ce_tell0 (hT : cT C K L I R) {a : Nat} (ha : K a = 1) (an0 : ¬ a = 0) {r v i g : Int32} (hr : 0 ≤ r ∧ r < 6) (hi : 0 ≤ i ∧ i < 30) (e4 : I a 4 = i) (e0 : I a 0 = g) (hk : ¬ (I (C + 18) r.toNatClampNeg >>> (g &&& 31)) &&& 1 = 0) (hP : cT C K L (a_ui I (C + 19) r.toNatClampNeg (I (C + 19) r.toNatClampNeg ||| ((1 : Int32) <<< (i &&& 31)))) R → P (some (.int 0)) (n, t, K, L, (a_ui I (C + 19) r.toNatClampNeg (I (C + 19) r.toNatClampNeg ||| ((1 : Int32) <<< (i &&& 31)))), R)) : a_does (d + 5) 95 [a_rf (C + 17), .int r, a_rf a, .int v] (n, t, K, L, I, R) P := by
  have hS := hT.s
  have a1 := (hT.g_ask _ ha).1
  have a0 : (a = 0) = False := eq_false an0
  have a19 : (a = C + 19) = False := eq_false (by omega)
  have hp := hP (sT_Panel_told hT)
  clear hP
  rw [a_enter1 (M := a_m95) rfl (a_cat_rf (a_cat_int (a_cat_rf (a_cat_int a_cat_nil)))) (show 4 ≤ 5 by decide)]
  show a_at _ (a_xm a_m95) 0 [some (a_rf (C + 17)), some (.int r), some (a_rf a), some (.int v), none] [] _ _
  simp only [q95_0, q95_1, q95_4, q95_5, q95_6, q95_7, q95_8, q95_9, q95_12, q95_13, q95_14, q95_15, q95_16, q95_19, q95_20, q95_21, q95_22, q95_25, q95_26, q95_27, q95_28, q95_31, q95_32, k_17 hS, z_17, r_17_2 hS, k_19 hS, l_19 hS, z_19, r_17_1 hS, k_18 hS, l_18 hS, z_18, as_nil, as_i, as_r, Nat.reduceAdd, Nat.reduceLeDiff, z_eq0, z_eq1, z_or, z_em, Classical.not_not, not_false_eq_true, not_true_eq_false, true_and, and_true, false_and, and_false, and_self, true_implies, false_implies, implies_true, Option.toList_some, Option.toList_none, List.cons_append, List.nil_append, Nat.add_eq_zero_iff, a_nl_i, a_nl_r, a_nl_n, true_or, or_true, eq_self, a_isRA_22, a_isRA_24, a_isRA_32, a_isA_20, ok_4, ok_5, ok_6, ok_7, ok_9, ok_20, ok_21, ok_30, ok_50, ok_180, ok_192, ok_200, ha, a0, a19, ui_ap, cc_ne, cc_n0, cc_0n, Nat.reduceEqDiff, reduceIte, if_true, if_false, hr, e4, e0, hk]
  try simp only [true_and, and_true, true_implies, false_implies, implies_true, not_true_eq_false, not_false_eq_true]
  first
    | exact hp
    | grind
theorem ce_tell1 (hT : cT C K L I R) {a : Nat} (ha : K a = 1) (an0 : ¬ a = 0) {r v i g : Int32} (hr : 0 ≤ r ∧ r < 6) (hi : 0 ≤ i ∧ i < 30) (e4 : I a 4 = i) (e0 : I a 0 = g) (hk : (I (C + 18) r.toNatClampNeg >>> (g &&& 31)) &&& 1 = 0) (hA : akP C K I R Z) (hm : cmP C (a_ui (a_ui I (C + 19) r.toNatClampNeg (I (C + 19) r.toNatClampNeg ||| ((1 : Int32) <<< (i &&& 31)))) (C + 20) (30 * r.toNatClampNeg + i.toNatClampNeg) v) Z) (hY : mkP Z) (hs : I (C + 17) 5 = Z 0 11) (hP : ∀ J, cT C K L J R → frM C K R Z (a_ui (a_ui I (C + 19) r.toNatClampNeg (I (C + 19) r.toNatClampNeg ||| ((1 : Int32) <<< (i &&& 31)))) (C + 20) (30 * r.toNatClampNeg + i.toNatClampNeg) v) J → mrP C J R Z → P (some (.int 1)) (n, t, K, L, J, R)) : a_does (d + 5) 95 [a_rf (C + 17), .int r, a_rf a, .int v] (n, t, K, L, I, R) P := by
  have hS := hT.s
  have a1 := (hT.g_ask _ ha).1
  have a0 : (a = 0) = False := eq_false an0
  have a19 : (a = C + 19) = False := eq_false (by omega)
  have a20 : (a = C + 20) = False := eq_false (by omega)
  obtain ⟨ex, hx, -⟩ := ix_180 (r := r) (a := i) hr hi
  rw [Int32.mul_comm] at ex hx
  have hA2 : akP C K (a_ui (a_ui I (C + 19) r.toNatClampNeg (I (C + 19) r.toNatClampNeg ||| ((1 : Int32) <<< (i &&& 31)))) (C + 20) (30 * r.toNatClampNeg + i.toNatClampNeg) v) R Z := fun o o0 o1 => by
    obtain ⟨k1, k2, k3⟩ := hA o o0 o1
    have := (hT.g_ask _ k1).1
    exact ⟨k1, k2, by rw [ui_ap, if_neg (by omega), ui_ap, if_neg (by omega)]; exact k3⟩
  have hcl : a_does (d + 4) 27 [a_rf (C + 17)] (n, t, K, L, (a_ui (a_ui I (C + 19) r.toNatClampNeg (I (C + 19) r.toNatClampNeg ||| ((1 : Int32) <<< (i &&& 31)))) (C + 20) (30 * r.toNatClampNeg + i.toNatClampNeg) v), R) (fun q h' => a_at (d + 4) (a_xm a_m95) 71 [some (a_rf (C + 17)), some (.int r), some (a_rf a), some (.int v), some (.int (r * 30 + i))] (q.toList ++ []) h' P) := by
    refine ce_reckonMarks (sT_Panel_marks (sT_Panel_told hT)) hA2 hm hY (by rw [ui_ap, if_neg (by omega), ui_ap, if_neg (by omega)]; exact hs) (fun J g1 g2 g3 => ?_)
    have hp := hP J g1 g2 g3
    clear hP hA hm hY hA2 g2 g3
    simp only [q95_71, q95_72, as_nil, as_i, as_r, Nat.reduceAdd, Nat.reduceLeDiff, z_eq0, z_eq1, z_or, z_em, Classical.not_not, not_false_eq_true, not_true_eq_false, true_and, and_true, false_and, and_false, and_self, true_implies, false_implies, implies_true, Option.toList_some, Option.toList_none, List.cons_append, List.nil_append, Nat.add_eq_zero_iff, a_nl_i, a_nl_r, a_nl_n, true_or, or_true, eq_self, a_isRA_22, a_isRA_24, a_isRA_32, a_isA_20, ok_4, ok_5, ok_6, ok_7, ok_9, ok_20, ok_21, ok_30, ok_50, ok_180, ok_192, ok_200]
    exact hp
  have h180 : ¬ 180 ≤ r * 30 + i := Int32.not_le.mpr hx.2
  have h0 : ¬ r * 30 + i < 0 := Int32.not_lt.mpr hx.1
  clear hP hA hm hY hA2
  rw [a_enter1 (M := a_m95) rfl (a_cat_rf (a_cat_int (a_cat_rf (a_cat_int a_cat_nil)))) (show 4 ≤ 5 by decide)]
  show a_at _ (a_xm a_m95) 0 [some (a_rf (C + 17)), some (.int r), some (a_rf a), some (.int v), none] [] _ _
  simp only [q95_0, q95_1, q95_4, q95_5, q95_6, q95_7, q95_8, q95_9, q95_12, q95_13, q95_14, q95_15, q95_16, q95_19, q95_20, q95_21, q95_22, q95_25, q95_26, q95_27, q95_28, q95_33, q95_34, q95_36, q95_37, q95_38, q95_41, q95_42, q95_44, q95_46, q95_49, q95_51, q95_52, q95_55, q95_56, q95_59, q95_60, q95_63, q95_65, q95_66, q95_67, q95_68, k_17 hS, z_17, r_17_2 hS, k_19 hS, l_19 hS, z_19, r_17_1 hS, k_18 hS, l_18 hS, z_18, r_17_3 hS, k_20 hS, l_20 hS, z_20, as_nil, as_i, as_r, Nat.reduceAdd, Nat.reduceLeDiff, z_eq0, z_eq1, z_or, z_em, Classical.not_not, not_false_eq_true, not_true_eq_false, true_and, and_true, false_and, and_false, and_self, true_implies, false_implies, implies_true, Option.toList_some, Option.toList_none, List.cons_append, List.nil_append, Nat.add_eq_zero_iff, a_nl_i, a_nl_r, a_nl_n, true_or, or_true, eq_self, a_isRA_22, a_isRA_24, a_isRA_32, a_isA_20, ok_4, ok_5, ok_6, ok_7, ok_9, ok_20, ok_21, ok_30, ok_50, ok_180, ok_192, ok_200, ha, a0, a19, a20, of_180, ui_ap, cc_ne, cc_n0, cc_0n, Nat.reduceEqDiff, reduceIte, if_true, if_false, hr, e4, e0, hk, h180, h0, ex, hx]
  try simp only [true_and, and_true, true_implies, false_implies, implies_true, not_true_eq_false, not_false_eq_true]
  first
    | exact hcl
    | grind
end ZE0
section ZE1
variable {d n t C c : Nat} {K L : Nat → Nat} {I I0 J J0 J1 J2 : Nat → Nat → Int32} {R : Nat → Nat → Nat} {P : Option Value → AH → Prop}
variable {Y Z W : Nat → Nat → Int32} {R' R1 : Nat → Nat → Nat} {K' L' : Nat → Nat}
/-- the words behind a mark -/
def mrW (Y : Nat → Nat → Int32) (r a v : Int32) : Nat → Nat → Int32 := upY (upY (upY Y 37 (30 * r.toNatClampNeg + a.toNatClampNeg) 1) 36 (30 * r.toNatClampNeg + a.toNatClampNeg) v) 38 (30 * r.toNatClampNeg + a.toNatClampNeg) (if Y 35 (10 * r.toNatClampNeg + (Y 8 a.toNatClampNeg).toNatClampNeg) = 0 then 1 else 0)
def mrY (Y : Nat → Nat → Int32) (r a v : Int32) : Int32 × (Nat → Nat → Int32) := if ¬ ((0 ≤ r ∧ r < 6) ∧ (0 ≤ a ∧ a < Y 0 17)) then (-1, Y) else if ¬ Y 37 (30 * r.toNatClampNeg + a.toNatClampNeg) = 0 ∨ sm (fun x => if Y 37 (30 * x + a.toNatClampNeg) = 0 then 0 else 1) 6 = 3 then (-3, Y) else if v < 0 then (-4, Y) else if 100 < v then (-6, Y) else (if Y 35 (10 * r.toNatClampNeg + (Y 8 a.toNatClampNeg).toNatClampNeg) = 0 then 1 else 0, mrW Y r a v)
theorem mw_no {r a v : Int32} {k j : Nat} (h : ¬ ((36 ≤ k ∧ k ≤ 38) ∧ j = (30 * r.toNatClampNeg + a.toNatClampNeg))) : mrW Y r a v k j = Y k j := by
  unfold mrW
  rw [up_no (by omega), up_no (by omega), up_no (by omega)]
theorem mw_at {r a v : Int32} : mrW Y r a v 37 (30 * r.toNatClampNeg + a.toNatClampNeg) = 1 ∧ mrW Y r a v 36 (30 * r.toNatClampNeg + a.toNatClampNeg) = v ∧ mrW Y r a v 38 (30 * r.toNatClampNeg + a.toNatClampNeg) = if Y 35 (10 * r.toNatClampNeg + (Y 8 a.toNatClampNeg).toNatClampNeg) = 0 then 1 else 0 := by
  unfold mrW
  refine ⟨?_, ?_, up_at⟩
  · rw [up_no (by omega), up_no (by omega), up_at]
  · rw [up_no (by omega), up_at]
/-- what is told stays sound -/
theorem sy_mw (hs : siY Y) {r a v : Int32} (hr : 0 ≤ r ∧ r < 6) (ha : 0 ≤ a ∧ a < Y 0 17) (h17 : 0 ≤ Y 0 17 ∧ Y 0 17 ≤ 30) (h3 : ¬ sm (fun x => if Y 37 (30 * x + a.toNatClampNeg) = 0 then 0 else 1) 6 = 3) (h37 : Y 37 (30 * r.toNatClampNeg + a.toNatClampNeg) = 0) : siY (mrW Y r a v) := by
  obtain ⟨y1, y2, y3, y4, y5, y6, y7, y8⟩ := hs
  obtain ⟨b1, b2, b3⟩ := mw_at (Y := Y) (r := r) (a := a) (v := v)
  obtain ⟨-, -, r6, a30⟩ := ix_180 (r := r) (a := a) hr ⟨ha.1, Int32.lt_of_lt_of_le ha.2 h17.2⟩
  have aN : a.toNatClampNeg < (Y 0 17).toNatClampNeg := cl_lt ha.1 ha.2
  have zr : ∀ k, ¬ (36 ≤ k ∧ k ≤ 38) → mrW Y r a v k = Y k := fun k hk => funext (fun j => mw_no (by omega))
  have wt : ∀ x, wtY (mrW Y r a v) x = wtY Y x := fun x => by
    unfold wtY
    rw [zr 28 (by omega)]
  unfold siY
  rw [zr 0 (by omega), zr 2 (by omega), zr 3 (by omega), zr 4 (by omega), zr 47 (by omega)]
  refine ⟨fun k q => ?_, fun x p hx hp hle => ?_, fun p hp => ?_, y4, fun x hx => by rw [wt, zr 29 (by omega)]; exact y5 x hx, y6, y7, y8⟩
  · by_cases e : k = (30 * r.toNatClampNeg + a.toNatClampNeg)
    · rw [e, b1]
      decide
    · rw [mw_no (by omega)] at q ⊢
      exact y1 k q
  · rw [mw_no (by omega)]
    exact y2 x p hx hp hle
  · by_cases e : p = a.toNatClampNeg
    · rw [e]
      have hsum := y3 a.toNatClampNeg a30
      have heq : sm (fun x => if mrW Y r a v 37 (30 * x + a.toNatClampNeg) = 0 then 0 else 1) 6 = sm (fun x => if x = r.toNatClampNeg then 1 else (fun x => if Y 37 (30 * x + a.toNatClampNeg) = 0 then 0 else 1) x) 6 := sm_eq (fun x hx => by
        show (if mrW Y r a v 37 (30 * x + a.toNatClampNeg) = 0 then 0 else 1) = if x = r.toNatClampNeg then 1 else if Y 37 (30 * x + a.toNatClampNeg) = 0 then 0 else 1
        by_cases e2 : x = r.toNatClampNeg
        · rw [if_pos e2, e2, b1, if_neg (by decide)]
        · rw [if_neg e2, mw_no (by omega)])
      have hup := sm_up (g := (fun x => if Y 37 (30 * x + a.toNatClampNeg) = 0 then 0 else 1)) (k := r.toNatClampNeg) (v := 1) (m := 6) r6
      rw [if_pos h37] at hup
      dsimp only at heq
      rw [heq]
      omega
    · have heq : sm (fun x => if mrW Y r a v 37 (30 * x + p) = 0 then 0 else 1) 6 = sm (fun x => if Y 37 (30 * x + p) = 0 then 0 else 1) 6 := sm_eq (fun x hx => by
        show (if mrW Y r a v 37 (30 * x + p) = 0 then 0 else 1) = if Y 37 (30 * x + p) = 0 then 0 else 1
        rw [mw_no (by omega)])
      rw [heq]
      exact y3 p hp
theorem mk_mw (hs : mkP Y) {r a v : Int32} (hv : 0 ≤ v ∧ v ≤ 100) : mkP (mrW Y r a v) := fun k q => by
  obtain ⟨b1, b2, b3⟩ := mw_at (Y := Y) (r := r) (a := a) (v := v)
  by_cases e : k = (30 * r.toNatClampNeg + a.toNatClampNeg)
  · rw [e, b2]
    exact hv
  · rw [mw_no (by omega)] at q ⊢
    exact hs k q
theorem told_eq (hs : siM C I Y) {a : Int32} (a30 : a.toNatClampNeg < 30) : sm (fun x => if bq (I (C + 19) x) a.toNatClampNeg = true then 1 else 0) 6 = sm (fun x => if Y 37 (30 * x + a.toNatClampNeg) = 0 then 0 else 1) 6 := sm_eq (fun x hx => by
  have q := hs.2.2.2.1 x a.toNatClampNeg hx a30
  show (if bq (I (C + 19) x) a.toNatClampNeg = true then 1 else 0) = if Y 37 (30 * x + a.toNatClampNeg) = 0 then 0 else 1
  by_cases c : Y 37 (30 * x + a.toNatClampNeg) = 0
  · rw [if_pos c, if_neg (fun w => q.mp w c)]
  · rw [if_neg c, if_pos (q.mpr c)])
end ZE1
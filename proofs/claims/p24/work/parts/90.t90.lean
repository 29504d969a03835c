/-! frames -/
def eD9 (C : Nat) (K : Nat → Nat) (x j : Nat) : Prop := eD C K x j ∨ (x = C + 22 ∧ j = 7) ∨ x = C + 24
def dG9 (C : Nat) (K L : Nat → Nat) (R : Nat → Nat → Nat) (I J : Nat → Nat → Int32) : Prop := cT C K L J R ∧ ∀ x j, eD9 C K x j → J x j = I x j
section K3
variable {C : Nat} {K L : Nat → Nat} {I I0 J J0 : Nat → Nat → Int32} {R : Nat → Nat → Nat}
theorem dG_refl9 (h : cT C K L I R) : dG9 C K L R I I := ⟨h, fun _ _ _ => rfl⟩
theorem dG_C9 (h : dG9 C K L R I0 I) (h2 : dC C K L R I J) : dG9 C K L R I0 J := ⟨h2.1, fun x j p => (h2.2 x j (by unfold eD9 eD at p; omega) (by unfold eD9 eD at p; omega)).trans (h.2 x j p)⟩
theorem dG_L9 (h : dG9 C K L R I0 I) (h2 : dL C K L R I J) : dG9 C K L R I0 J := ⟨h2.1, fun x j p => (h2.2 x j (by unfold eD9 eD at p; omega) (by unfold eD9 eD at p; omega) (by unfold eD9 eD at p; omega)).trans (h.2 x j p)⟩
theorem dG_ui9 (h : dG9 C K L R I J) {x k : Nat} {v : Int32} (hT : cT C K L (a_ui J x k v) R) (hx : ¬ eD9 C K x k) : dG9 C K L R I (a_ui J x k v) := ⟨hT, fun y j p => by rw [ui_ap, if_neg (fun e => hx (by rw [← e.1, ← e.2]; exact p))]; exact h.2 y j p⟩

theorem dG_199 (h : dG9 C K L R I J) {k : Nat} {v : Int32} : dG9 C K L R I (a_ui J (C + 19) k v) := dG_ui9 h (sT_Panel_told h.1) (by unfold eD9 eD; omega)
theorem dG_209 (h : dG9 C K L R I J) {k : Nat} {v : Int32} : dG9 C K L R I (a_ui J (C + 20) k v) := dG_ui9 h (sT_Panel_marks h.1) (by unfold eD9 eD; omega)
theorem dG_219 (h : dG9 C K L R I J) {k : Nat} {v : Int32} : dG9 C K L R I (a_ui J (C + 21) k v) := dG_ui9 h (sT_Panel_habits h.1) (by unfold eD9 eD; omega)
theorem dG_259 (h : dG9 C K L R I J) {k : Nat} {v : Int32} : dG9 C K L R I (a_ui J (C + 25) k v) := dG_ui9 h (sT_Planner_oldBench h.1) (by unfold eD9 eD; omega)
theorem dG_269 (h : dG9 C K L R I J) {k : Nat} {v : Int32} : dG9 C K L R I (a_ui J (C + 26) k v) := dG_ui9 h (sT_Planner_oldShift h.1) (by unfold eD9 eD; omega)
theorem dG_299 (h : dG9 C K L R I J) {k : Nat} {v : Int32} : dG9 C K L R I (a_ui J (C + 29) k v) := dG_ui9 h (sT_Best_spots h.1) (by unfold eD9 eD; omega)
theorem dG_309 (h : dG9 C K L R I J) {k : Nat} {v : Int32} : dG9 C K L R I (a_ui J (C + 30) k v) := dG_ui9 h (sT_Best_watches h.1) (by unfold eD9 eD; omega)
theorem dG_329 (h : dG9 C K L R I J) {k : Nat} {v : Int32} : dG9 C K L R I (a_ui J (C + 32) k v) := dG_ui9 h (sT_Best_reach h.1) (by unfold eD9 eD; omega)
theorem dG_339 (h : dG9 C K L R I J) {k : Nat} {v : Int32} : dG9 C K L R I (a_ui J (C + 33) k v) := dG_ui9 h (sT_Best_tried h.1) (by unfold eD9 eD; omega)
theorem dG_369 (h : dG9 C K L R I J) {k : Nat} {v : Int32} : dG9 C K L R I (a_ui J (C + 36) k v) := dG_ui9 h (sT_Circle_wishes h.1) (by unfold eD9 eD; omega)
theorem dG_379 (h : dG9 C K L R I J) {k : Nat} {v : Int32} : dG9 C K L R I (a_ui J (C + 37) k v) := dG_ui9 h (sT_Circle_sound h.1) (by unfold eD9 eD; omega)
theorem dG_429 (h : dG9 C K L R I J) {k : Nat} {v : Int32} : dG9 C K L R I (a_ui J (C + 42) k v) := dG_ui9 h (sT_BeamHall_refused h.1) (by unfold eD9 eD; omega)
theorem dG_319 (h : dG9 C K L R I J) {k : Nat} {v : Int32} (hv : 0 ≤ v ∧ v ≤ 48) : dG9 C K L R I (a_ui J (C + 31) k v) := dG_ui9 h (sT_Best_spotCounts h.1 hv) (by unfold eD9 eD; omega)
theorem dG_Planner_orderSize9 (h : dG9 C K L R I J) {v : Int32} (hv : 0 ≤ v ∧ v ≤ 30) : dG9 C K L R I (a_ui J (C + 22) 6 v) := dG_ui9 h (sT_Planner_orderSize h.1 hv) (by unfold eD9 eD; omega)
theorem dG_Best_size9 (h : dG9 C K L R I J) {v : Int32} (hv : 0 ≤ v ∧ v ≤ 4) : dG9 C K L R I (a_ui J (C + 27) 8 v) := dG_ui9 h (sT_Best_size h.1 hv) (by unfold eD9 eD; omega)
theorem dG_Circle_size9 (h : dG9 C K L R I J) {v : Int32} (hv : 0 ≤ v ∧ v ≤ 5) : dG9 C K L R I (a_ui J (C + 35) 7 v) := dG_ui9 h (sT_Circle_size h.1 hv) (by unfold eD9 eD; omega)
theorem dG_Best_sum9 (h : dG9 C K L R I J) {v : Int32} : dG9 C K L R I (a_ui J (C + 27) 9 v) := dG_ui9 h (sT_Best_sum h.1) (by unfold eD9 eD; omega)
theorem dG_askf9 (h : dG9 C K L R I J) {x k : Nat} {v : Int32} (hx : C + 96 < x) (hk : K x = 1) (hf : ¬ k = 2 ∧ ¬ k = 4 ∧ ¬ k = 13 ∧ ¬ k = 14) : dG9 C K L R I (a_ui J x k v) := dG_ui9 h (sT_askf h.1 hx hk hf) (by unfold eD9 eD; omega)
end K3

/-! the class: panels -/
section K9
variable {d n t C : Nat} {K L : Nat → Nat} {I I0 J J0 J1 J2 : Nat → Nat → Int32} {R : Nat → Nat → Nat} {P : Option Value → AH → Prop}
theorem lk_reckonMarks_399 (hP : ∀ J, dG9 C K L R I0 J → P none (n, t, K, L, J, R)) : ∀ i : Int32, i ≤ 30 → ∀ J u, 0 ≤ i → dG9 C K L R I0 J → a_at (d + 3) (a_xm a_m27) 39 [some (a_rf (C + 17)), some (.int i), u] [] (n, t, K, L, J, R) P := by
  refine up_ind 30 (fun i hk ih => ?_)
  intro J u q0 hJ
  have hT := hJ.1
  have hS := hT.s
  have gA := hT.g_asksR
  have gB := hT.g_benchesR
  have gX := hT.g_textsR
  have gc := hT.g_asks
  have gi := gA i.toNatClampNeg
  have hw : ∀ x v, K x = 1 → dG9 C K L R I0 (a_ui J x 12 v) := fun x v hx => dG_askf9 hJ (hT.g_ask x hx).1 hx (by decide)
  rw [q27_39]
  repeat' first
    | with_reducible apply And.intro
    | with_reducible assumption
    | with_reducible intro _
    | with_reducible apply hP
    | with_reducible apply ih
    | with_reducible apply ck_joinedMark hS
    | with_reducible apply hw
    | simp only [q27_40, q27_41, q27_44, q27_47, q27_50, q27_51, q27_54, q27_55, q27_58, q27_59, q27_60, q27_63, q27_64, q27_65, q27_66, q27_69, q27_72, q27_75, q27_78, k_17 hS, z_17, r_17_0 hS, k_14 hS, z_14, sp_askAt hS gA, as_nil, as_i, as_r, Nat.reduceAdd, Nat.reduceLeDiff, z_eq0, z_eq1, z_or, z_em, Classical.not_not, not_false_eq_true, not_true_eq_false, true_and, and_true, false_and, and_false, and_self, true_implies, false_implies, implies_true, Option.toList_some, Option.toList_none, List.cons_append, List.nil_append, Nat.add_eq_zero_iff, a_nl_i, a_nl_r, a_nl_n, true_or, or_true, eq_self, a_isRA_22, a_isRA_24, a_isRA_32, a_isA_20, ok_4, ok_5, ok_6, ok_7, ok_9, ok_20, ok_21, ok_30, ok_50, ok_180, ok_192, ok_200]
  all_goals grind [ui_ap]
theorem lk_reckonMarks_29 (hP : ∀ J, dG9 C K L R I0 J → P none (n, t, K, L, J, R)) : ∀ i : Int32, i ≤ 6 → ∀ J u, 0 ≤ i → dG9 C K L R I0 J → a_at (d + 3) (a_xm a_m27) 2 [some (a_rf (C + 17)), some (.int i), u] [] (n, t, K, L, J, R) P := by
  refine up_ind 6 (fun i hk ih => ?_)
  intro J u q0 hJ
  have hT := hJ.1
  have hS := hT.s
  have hw : ∀ k v, dG9 C K L R I0 (a_ui J (C + 21) k v) := fun k v => dG_219 hJ
  have hl := fun u => lk_reckonMarks_399 (d := d) hP 0 (by decide) J u (by decide) hJ
  rw [q27_2]
  repeat' first
    | with_reducible apply And.intro
    | with_reducible assumption
    | with_reducible intro _
    | with_reducible apply hl
    | with_reducible apply ih
    | with_reducible apply ck_habitOf
    | with_reducible apply hw
    | simp only [q27_3, q27_5, q27_8, q27_9, q27_12, q27_13, q27_14, q27_17, q27_18, q27_21, q27_22, q27_23, q27_26, q27_29, q27_30, q27_31, q27_34, q27_37, q27_38, k_17 hS, z_17, r_17_4 hS, k_21 hS, l_21 hS, z_21, as_nil, as_i, as_r, Nat.reduceAdd, Nat.reduceLeDiff, z_eq0, z_eq1, z_or, z_em, Classical.not_not, not_false_eq_true, not_true_eq_false, true_and, and_true, false_and, and_false, and_self, true_implies, false_implies, implies_true, Option.toList_some, Option.toList_none, List.cons_append, List.nil_append, Nat.add_eq_zero_iff, a_nl_i, a_nl_r, a_nl_n, true_or, or_true, eq_self, a_isRA_22, a_isRA_24, a_isRA_32, a_isA_20, ok_4, ok_5, ok_6, ok_7, ok_9, ok_20, ok_21, ok_30, ok_50, ok_180, ok_192, ok_200]
  all_goals grind [ui_ap]
theorem ck_reckonMarks9 (hG : dG9 C K L R I0 I) (hP : ∀ J, dG9 C K L R I0 J → P none (n, t, K, L, J, R)) : a_does (d + 4) 27 [a_rf (C + 17)] (n, t, K, L, I, R) P := by
  have hS := hG.1.s
  have hl := fun u => lk_reckonMarks_29 (d := d) hP 0 (by decide) I u (by decide) hG
  rw [a_enter1 (M := a_m27) rfl (a_cat_rf a_cat_nil) (show 1 ≤ 3 by decide)]
  show a_at _ (a_xm a_m27) 0 [some (a_rf (C + 17)), none, none] [] _ _
  repeat' first
    | with_reducible apply And.intro
    | with_reducible assumption
    | with_reducible intro _
    | with_reducible apply hl
    | simp only [q27_0, q27_1, as_nil, as_i, as_r, Nat.reduceAdd, Nat.reduceLeDiff, z_eq0, z_eq1, z_or, z_em, Classical.not_not, not_false_eq_true, not_true_eq_false, true_and, and_true, false_and, and_false, and_self, true_implies, false_implies, implies_true, Option.toList_some, Option.toList_none, List.cons_append, List.nil_append, Nat.add_eq_zero_iff, a_nl_i, a_nl_r, a_nl_n, true_or, or_true, eq_self, a_isRA_22, a_isRA_24, a_isRA_32, a_isA_20, ok_4, ok_5, ok_6, ok_7, ok_9, ok_20, ok_21, ok_30, ok_50, ok_180, ok_192, ok_200]
  all_goals grind [ui_ap]
theorem ck_changeScaled9 (hT : cT C K L I R) {v : Int32} (hP : ∀ J, dG9 C K L R (a_ui I (C + 17) 5 v) J → P (some (.int (I (C + 17) 5))) (n, t, K, L, J, R)) : a_does (d + 5) 26 [a_rf (C + 17), .int v] (n, t, K, L, I, R) P := by
  have hS := hT.s
  have hr := dG_refl9 (sT_Panel_scaled hT (v := v))
  rw [a_enter1 (M := a_m26) rfl (a_cat_rf (a_cat_int a_cat_nil)) (show 2 ≤ 3 by decide)]
  show a_at _ (a_xm a_m26) 0 [some (a_rf (C + 17)), some (.int v), none] [] _ _
  repeat' first
    | with_reducible apply And.intro
    | with_reducible assumption
    | with_reducible intro _
    | with_reducible apply hP
    | with_reducible apply ck_reckonMarks9 hr
    | simp only [q26_0, q26_1, q26_4, q26_5, q26_6, q26_7, q26_10, q26_11, q26_14, q26_15, k_17 hS, z_17, as_nil, as_i, as_r, Nat.reduceAdd, Nat.reduceLeDiff, z_eq0, z_eq1, z_or, z_em, Classical.not_not, not_false_eq_true, not_true_eq_false, true_and, and_true, false_and, and_false, and_self, true_implies, false_implies, implies_true, Option.toList_some, Option.toList_none, List.cons_append, List.nil_append, Nat.add_eq_zero_iff, a_nl_i, a_nl_r, a_nl_n, true_or, or_true, eq_self, a_isRA_22, a_isRA_24, a_isRA_32, a_isA_20, ok_4, ok_5, ok_6, ok_7, ok_9, ok_20, ok_21, ok_30, ok_50, ok_180, ok_192, ok_200]
  all_goals grind [ui_ap]
theorem ck_tell9 {a : Nat} (ha : K a = 1) (hG : dG9 C K L R I0 I) {r v : Int32} (hr : 0 ≤ r ∧ r < 6) (hP : ∀ v J, dG9 C K L R I0 J → P (some (.int v)) (n, t, K, L, J, R)) : a_does (d + 5) 95 [a_rf (C + 17), .int r, a_rf a, .int v] (n, t, K, L, I, R) P := by
  have hT := hG.1
  have hS := hT.s
  obtain ⟨a1, a2, a4, a3⟩ := hT.g_ask a ha
  have a0 : (a = 0) = False := eq_false (by omega)
  have a19 : (a = C + 19) = False := eq_false (by omega)
  have a20 : (a = C + 20) = False := eq_false (by omega)
  rw [a_enter1 (M := a_m95) rfl (a_cat_rf (a_cat_int (a_cat_rf (a_cat_int a_cat_nil)))) (show 4 ≤ 5 by decide)]
  show a_at _ (a_xm a_m95) 0 [some (a_rf (C + 17)), some (.int r), some (a_rf a), some (.int v), none] [] _ _
  repeat' first
    | with_reducible apply And.intro
    | with_reducible assumption
    | with_reducible intro _
    | with_reducible apply hP
    | with_reducible apply ck_reckonMarks9 (I0 := I0)
    | with_reducible apply dG_209
    | with_reducible apply dG_199
    | simp only [q95_0, q95_1, q95_4, q95_5, q95_6, q95_7, q95_8, q95_9, q95_12, q95_13, q95_14, q95_15, q95_16, q95_19, q95_20, q95_21, q95_22, q95_25, q95_26, q95_27, q95_28, q95_31, q95_32, q95_33, q95_34, q95_36, q95_37, q95_38, q95_41, q95_42, q95_44, q95_46, q95_49, q95_51, q95_52, q95_55, q95_56, q95_59, q95_60, q95_63, q95_65, q95_66, q95_67, q95_68, q95_71, q95_72, k_17 hS, z_17, r_17_2 hS, k_19 hS, l_19 hS, z_19, r_17_1 hS, k_18 hS, l_18 hS, z_18, r_17_3 hS, k_20 hS, l_20 hS, z_20, as_nil, as_i, as_r, Nat.reduceAdd, Nat.reduceLeDiff, z_eq0, z_eq1, z_or, z_em, Classical.not_not, not_false_eq_true, not_true_eq_false, true_and, and_true, false_and, and_false, and_self, true_implies, false_implies, implies_true, Option.toList_some, Option.toList_none, List.cons_append, List.nil_append, Nat.add_eq_zero_iff, a_nl_i, a_nl_r, a_nl_n, true_or, or_true, eq_self, a_isRA_22, a_isRA_24, a_isRA_32, a_isA_20, ok_4, ok_5, ok_6, ok_7, ok_9, ok_20, ok_21, ok_30, ok_50, ok_180, ok_192, ok_200, ha, a0, of_180, a19, ui_ap, cc_ne, cc_n0, cc_0n, Nat.reduceEqDiff, reduceIte, if_true, if_false]
  all_goals grind [ui_ap]
end K9
/-! the class: frames of public methods; what is added -/
def dX9 (C n : Nat) (K L : Nat → Nat) (I : Nat → Nat → Int32) (R : Nat → Nat → Nat) (n' : Nat) (K' L' : Nat → Nat) (J : Nat → Nat → Int32) (R' : Nat → Nat → Nat) : Prop := n ≤ n' ∧ (∀ x, x < n → K' x = K x) ∧ (∀ x, x < n → L' x = L x) ∧ (∀ x j, (x = C + 8 ∨ C + 44 ≤ x) → x ≤ C + 96 → R' x j = R x j) ∧ (∀ x j, eD9 C K x j → x < n → J x j = I x j)
def cZ9 (C c n0 : Nat) (K0 L0 : Nat → Nat) (I0 : Nat → Nat → Int32) (R0 : Nat → Nat → Nat) (n t : Nat) (K L : Nat → Nat) (J : Nat → Nat → Int32) (R : Nat → Nat → Nat) : Prop := C + 96 < n0 ∧ cH C c n t K L J R ∧ dX9 C n0 K0 L0 I0 R0 n K L J R
section KB
variable {d n t C c n0 n' n'' t' : Nat} {K L K0 L0 K' L' K'' L'' : Nat → Nat} {I I0 J J0 J1 J2 : Nat → Nat → Int32} {R R0 R' R'' : Nat → Nat → Nat} {P : Option Value → AH → Prop}
theorem dX_refl9 : dX9 C n K L I R n K L I R := ⟨Nat.le_refl _, fun _ _ => rfl, fun _ _ => rfl, fun _ _ _ _ => rfl, fun _ _ _ _ => rfl⟩
theorem eD_K9 {x j : Nat} (e : K' x = K x) (h : eD9 C K x j) : eD9 C K' x j := by
  unfold eD9 eD at h ⊢
  rw [e]
  exact h
theorem dX_X9 (h : dX9 C n K L I R n' K' L' J R') (h2 : dX9 C n' K' L' J R' n'' K'' L'' J0 R'') : dX9 C n K L I R n'' K'' L'' J0 R'' := by
  obtain ⟨p1, p2, p3, p4, p5⟩ := h
  obtain ⟨q1, q2, q3, q4, q5⟩ := h2
  exact ⟨by omega, fun x hx => (q2 x (by omega)).trans (p2 x hx), fun x hx => (q3 x (by omega)).trans (p3 x hx), fun x j h1 h2 => (q4 x j h1 h2).trans (p4 x j h1 h2), fun x j h1 h2 => (q5 x j (eD_K9 (p2 x h2) h1) (by omega)).trans (p5 x j h1 h2)⟩
theorem cZ_refl9 (h : cH C c n t K L I R) : cZ9 C c n K L I R n t K L I R := ⟨h.2.2.1, h, dX_refl9⟩
theorem cZ_le9 (h : cZ9 C c n0 K0 L0 I0 R0 n t K L J R) {c2 : Nat} (hc : c ≤ c2) : cZ9 C c2 n0 K0 L0 I0 R0 n t K L J R := ⟨h.1, cH_le h.2.1 hc, h.2.2⟩
theorem cZ_G9 (h : cZ9 C c n0 K0 L0 I0 R0 n t K L I R) (g : dG9 C K L R I J) : cZ9 C c n0 K0 L0 I0 R0 n t K L J R := ⟨h.1, cH_J h.2.1 g.1, dX_X9 h.2.2 ⟨Nat.le_refl _, fun _ _ => rfl, fun _ _ => rfl, fun _ _ _ _ => rfl, fun x j h1 _ => g.2 x j h1⟩⟩
theorem cZ_C9 (h : cZ9 C c n0 K0 L0 I0 R0 n t K L I R) (g : dC C K L R I J) : cZ9 C c n0 K0 L0 I0 R0 n t K L J R := cZ_G9 h (dG_C9 (dG_refl9 h.2.1.1) g)
theorem cZ_L9 (h : cZ9 C c n0 K0 L0 I0 R0 n t K L I R) (g : dL C K L R I J) : cZ9 C c n0 K0 L0 I0 R0 n t K L J R := cZ_G9 h (dG_L9 (dG_refl9 h.2.1.1) g)
theorem cZ_Q9 (h : cZ9 C c n0 K0 L0 I0 R0 n t K L I R) (g : dQ C n K L I R n' K' L' J R') (h2 : cH C c n' t' K' L' J R') : cZ9 C c n0 K0 L0 I0 R0 n' t' K' L' J R' := by
  have hC := h.2.1.2.2.1
  have hK : ∀ x, (x = C + 8 ∨ C + 44 ≤ x) → x ≤ C + 96 → ¬ K x = 3 := fun x p q e => by
    have := (h.2.1.1.g_bnc x e).1
    omega
  obtain ⟨q1, q2, q3, q4, q5⟩ := g
  refine ⟨h.1, h2, dX_X9 h.2.2 ⟨q1, q2, q3, fun x j p q => q4 x j (by omega) (hK x p q), fun x j p q => q5 x j q (by unfold eD9 eD at p; omega) (by unfold eD9 eD at p; omega) ?_⟩⟩
  intro r
  unfold eD9 eD at p
  omega
theorem cZ_R9 (h : cZ9 C c n0 K0 L0 I0 R0 n t K L J R) {k j v : Nat} (hk : k ≤ 43) (h16 : ¬ k = 16) (h8 : ¬ k = 8) (h2 : cT C K L J (a_ur R (C + k) j v)) : cZ9 C c n0 K0 L0 I0 R0 n t K L J (a_ur R (C + k) j v) := ⟨h.1, cH_R h.2.1 hk h16 h2, dX_X9 h.2.2 ⟨Nat.le_refl _, fun _ _ => rfl, fun _ _ => rfl, fun x i p q => by rw [ur_ap, if_neg (by omega)], fun _ _ _ _ => rfl⟩⟩
theorem cZ_R239 (h : cZ9 C c n0 K0 L0 I0 R0 n t K L J R) {j v : Nat} (hv : v = 0 ∨ K v = 1) : cZ9 C c n0 K0 L0 I0 R0 n t K L J (a_ur R (C + 23) j v) := cZ_R9 h (by decide) (by decide) (by decide) (sT_Rorder h.2.1.1 hv)
theorem cZ_R289 (h : cZ9 C c n0 K0 L0 I0 R0 n t K L J R) {j v : Nat} (hv : v = 0 ∨ K v = 1) : cZ9 C c n0 K0 L0 I0 R0 n t K L J (a_ur R (C + 28) j v) := cZ_R9 h (by decide) (by decide) (by decide) (sT_Rbest h.2.1.1 hv)
theorem cZ_R389 (h : cZ9 C c n0 K0 L0 I0 R0 n t K L J R) {j v : Nat} (hv : v = 0 ∨ K v = 1) : cZ9 C c n0 K0 L0 I0 R0 n t K L J (a_ur R (C + 38) j v) := cZ_R9 h (by decide) (by decide) (by decide) (sT_Rring h.2.1.1 hv)
theorem cZ_Rd9 (h : cZ9 C c n0 K0 L0 I0 R0 n t K L J R) {v : Nat} (hv : v = 0 ∨ K v = 1) : cZ9 C c n0 K0 L0 I0 R0 n t K L J (a_ur R C 11 v) := cZ_R9 (k := 0) h (by decide) (by decide) (by decide) (sT_Rdraft h.2.1.1 hv)
theorem cZ_new9 (h : cZ9 C c n0 K0 L0 I0 R0 (n + 1) t K L I R) {m s : Nat} (hm : 80 * m ≤ 800) (hs : s ≤ 1000) (hK : ∀ x, x < n + 1 → K' x = K x) (hL : ∀ x, x < n + 1 → L' x = L x) (hJ : ∀ x j, x < n + 1 → J x j = I x j) (hR : ∀ x j, x < n + 1 → R' x j = R x j) (hz : ∀ x, n + 1 + m ≤ x → K' x = 0) (na : ∀ a, n + 1 ≤ a → K' a = 1 → (C + 96 < a ∧ (1 ≤ J a 2 ∧ J a 2 ≤ 4) ∧ (0 ≤ J a 4 ∧ J a 4 ≤ 29) ∧ (0 ≤ J a 13 → 0 ≤ J a 14 ∧ J a 14 ≤ 199 ∧ J a 14 + J a 2 ≤ 200))) (nb : ∀ b, n + 1 ≤ b → K' b = 3 → (C + 96 < b ∧ (C + 96 < R' b 2 ∧ K' (R' b 2) = 20 ∧ L' (R' b 2) = 200) ∧ (C + 96 < R' b 3 ∧ K' (R' b 3) = 20 ∧ L' (R' b 3) = 200) ∧ (C + 96 < R' b 4 ∧ K' (R' b 4) = 20 ∧ L' (R' b 4) = 200) ∧ (C + 96 < R' b 5 ∧ K' (R' b 5) = 20 ∧ (∃ m, L' (R' b 5) = 80 * m ∧ 1 ≤ m ∧ m ≤ 2048)) ∧ (0 ≤ J b 6 ∧ J b 6 ≤ 16384 ∧ 5 * (J b 6).toNatClampNeg ≤ L' (R' b 5)))) (nx : ∀ x, n + 1 ≤ x → K' x = 11 → (C + 96 < x ∧ C + 96 < R' x 2 ∧ K' (R' x 2) = 20 ∧ L' (R' x 2) ≤ 50)) : cZ9 C (c + 1) n0 K0 L0 I0 R0 (n + 1 + m) (t + s) K' L' J R' := by
  obtain ⟨z1, ⟨p1, p2, p3, p4, p5, p6⟩, z3⟩ := h
  have hT := cT_grow p1 p2 p3 hK hL hJ hR na nb nx
  have hv : cV C L' R' = cV C L R := cV_eq (fun i => by
    rw [hR (C + 16) i (by omega)]
    rcases p1.g_benchesR i with q | q
    · rw [q, hR 0 5 (by omega), p4.1, hL 0 (by omega)]
    · have l1 := kn_lt p2 q (by decide)
      rw [hR _ 5 l1, hL _ (kn_lt p2 (p1.g_bnc _ q).2.2.2.2.1.2.1 (by decide))])
  refine ⟨z1, ⟨hT, hz, by omega, ⟨by rw [hR 0 5 (by omega)]; exact p4.1, by rw [hL 0 (by omega)]; exact p4.2⟩, by rw [hv]; omega, by rw [hv]; omega⟩, dX_X9 z3 ⟨by omega, hK, hL, fun x j q1 q2 => hR x j (by omega), fun x j _ q => hJ x j q⟩⟩
end KB
/-! the class: what is added -/
section KC
variable {d n t C c n0 n' n'' t' : Nat} {K L K0 L0 K' L' K'' L'' : Nat → Nat} {I I0 J J0 J1 J2 : Nat → Nat → Int32} {R R0 R' R'' : Nat → Nat → Nat} {P : Option Value → AH → Prop}
theorem ck_addBench9 (hH : cH C c (n + 1) t K L I R) {p q : Int32} (hc : ¬ 6 ≤ I (C + 14) 5) (hP : ∀ t' K' L' J R', cH C (c + 1) (n + 1 + 5) t' K' L' J R' → dX9 C (n + 1) K L (a_ui I (C + 14) 5 (I (C + 14) 5 + 1)) R (n + 1 + 5) K' L' J R' → P (some (.int (I (C + 14) 5 + 1 - 1))) (n + 1 + 5, t', K', L', J, R')) : a_does (d + 2) 21 [a_rf (C + 14), .int p, .int q] (n + 1, t, K, L, I, R) P := by
  have hT := hH.1
  have hS := hT.s
  have g := hT.g_benches
  have fr := hH.2.1
  have hC := hH.2.2.1
  have ok6 : 0 ≤ I (C + 14) 5 ∧ I (C + 14) 5 < 6 := ⟨g.1, Int32.not_le.mp hc⟩
  have hc' : I (C + 14) 5 < 6 := ok6.2
  have f1 : (n + 1 = 0) = False := eq_false (by omega)
  rw [a_enter1 (M := a_m21) rfl (a_cat_rf (a_cat_int (a_cat_int a_cat_nil))) (show 3 ≤ 3 by decide)]
  show a_at _ (a_xm a_m21) 0 [some (a_rf (C + 14)), some (.int p), some (.int q)] [] _ _
  simp only [q21_0, q21_1, q21_4, q21_6, q21_9, q21_11, q21_12, q21_13, q21_16, q21_17, q21_20, q21_23, q21_24, q21_25, q21_26, k_14 hS, z_14, r_14_3 hS, k_16 hS, l_16 hS, z_16, as_nil, as_i, as_r, Nat.reduceAdd, Nat.reduceLeDiff, z_eq0, z_eq1, z_or, z_em, Classical.not_not, not_false_eq_true, not_true_eq_false, true_and, and_true, false_and, and_false, and_self, true_implies, false_implies, implies_true, Option.toList_some, Option.toList_none, List.cons_append, List.nil_append, Nat.add_eq_zero_iff, a_nl_i, a_nl_r, a_nl_n, true_or, or_true, eq_self, a_isRA_22, a_isRA_24, a_isRA_32, a_isA_20, ok_4, ok_5, ok_6, ok_7, ok_9, ok_20, ok_21, ok_30, ok_50, ok_180, ok_192, ok_200, hc', hc, f1]
  refine ck_Binit fr (fun K' L' J' R' k1 k2 k3 k4 l0 l2 l3 l4 l5 j1 r1 r2 r3 r4 r5 j6 => ?_)
  have hT2 : cT C K' L' J' R' := by
    refine cT_grow hT fr hC k2 l0 j1 r1 (fun a h1 h2 => ?_) (fun b h1 h2 => ?_) (fun x h1 h2 => ?_)
    · rcases (by omega : a = n + 1 ∨ (n + 1 < a ∧ a < n + 1 + 5) ∨ n + 1 + 5 ≤ a) with e | e | e
      · rw [e, k1] at h2; cases h2
      · rw [k4 a e.1 e.2] at h2; cases h2
      · rw [k3 a e] at h2; cases h2
    · rcases (by omega : b = n + 1 ∨ (n + 1 < b ∧ b < n + 1 + 5) ∨ n + 1 + 5 ≤ b) with e | e | e
      · subst e
        rw [r2, r3, r4, r5, j6, l2, l3, l4, l5, k4 _ (by omega) (by omega), k4 _ (by omega) (by omega), k4 _ (by omega) (by omega), k4 _ (by omega) (by omega)]
        exact ⟨by omega, ⟨by omega, rfl, rfl⟩, ⟨by omega, rfl, rfl⟩, ⟨by omega, rfl, rfl⟩, ⟨by omega, rfl, 1, rfl, by decide, by decide⟩, by decide, by decide, by decide⟩
      · rw [k4 b e.1 e.2] at h2; cases h2
      · rw [k3 b e] at h2; cases h2
    · rcases (by omega : x = n + 1 ∨ (n + 1 < x ∧ x < n + 1 + 5) ∨ n + 1 + 5 ≤ x) with e | e | e
      · rw [e, k1] at h2; cases h2
      · rw [k4 x e.1 e.2] at h2; cases h2
      · rw [k3 x e] at h2; cases h2
  have e5 : J' (C + 14) 5 = I (C + 14) 5 := j1 _ _ (by omega)
  have hS2 := hT2.s
  have hT3 := sT_addBench hT2 k1 (by rw [e5]; exact hc)
  have hV : cV C L' (a_ur R' (C + 16) (I (C + 14) 5).toNatClampNeg (n + 1)) = cV C L R + 80 := by
    have hi : (I (C + 14) 5).toNatClampNeg < 6 := show _ < (6 : Int32).toNatClampNeg from cl_lt g.1 hc'
    have hv : ∀ i, L' (a_ur R' (C + 16) (I (C + 14) 5).toNatClampNeg (n + 1) (a_ur R' (C + 16) (I (C + 14) 5).toNatClampNeg (n + 1) (C + 16) i) 5) = L (R (R (C + 16) i) 5) + if i = (I (C + 14) 5).toNatClampNeg then 80 else 0 := fun i => by
      rw [ur_ap R' _ _ _ (C + 16) i]
      by_cases e : i = (I (C + 14) 5).toNatClampNeg
      · rw [if_pos ⟨rfl, e⟩, if_pos e, ur_ap, if_neg (by omega), r5, l5, hT.g_benN i (by omega), hH.2.2.2.1.1, hH.2.2.2.1.2]
      · rw [if_neg (fun q => e q.2), if_neg e, r1 _ _ (by omega)]
        rcases hT.g_benchesR i with q | q
        · rw [q, ur_ap, if_neg (by omega), r1 _ _ (by omega), hH.2.2.2.1.1, l0 _ (by omega)]
          rfl
        · have b1 := (hT.g_bnc _ q).1
          have l1 := kn_lt fr q (by decide)
          rw [ur_ap, if_neg (by omega), r1 _ _ l1, l0 _ (kn_lt fr (hT.g_bnc _ q).2.2.2.2.1.2.1 (by decide))]
          rfl
    unfold cV
    rw [hv 0, hv 1, hv 2, hv 3, hv 4, hv 5]
    generalize (I (C + 14) 5).toNatClampNeg = z at hi
    rcases (by omega : z = 0 ∨ z = 1 ∨ z = 2 ∨ z = 3 ∨ z = 4 ∨ z = 5) with e | e | e | e | e | e <;> subst e <;> simp <;> omega
  rw [e5] at hT3
  have hfin := hP (t + 7 + 680) K' L' (a_ui J' (C + 14) 5 (I (C + 14) 5 + 1)) (a_ur R' (C + 16) (I (C + 14) 5).toNatClampNeg (n + 1)) ⟨hT3, k3, by omega, ⟨by rw [ur_ap, if_neg (by omega), r1 _ _ (by omega)]; exact hH.2.2.2.1.1, by rw [l0 _ (by omega)]; exact hH.2.2.2.1.2⟩, by rw [hV]; have := hH.2.2.2.2.1; omega, by rw [hV]; have := hH.2.2.2.2.2; omega⟩ ⟨by omega, k2, l0, fun x j q1 q2 => by rw [ur_ap, if_neg (by omega)]; exact r1 x j (by omega), fun x j q1 q2 => by rw [ui_ap, ui_ap]; split; rfl; exact j1 x j q2⟩
  have hS := hS2
  simp only [q21_29, q21_30, q21_31, q21_32, q21_35, q21_36, q21_37, q21_40, q21_41, q21_44, q21_45, q21_46, k_14 hS, z_14, as_nil, as_i, as_r, Nat.reduceAdd, Nat.reduceLeDiff, z_eq0, z_eq1, z_or, z_em, Classical.not_not, not_false_eq_true, not_true_eq_false, true_and, and_true, false_and, and_false, and_self, true_implies, false_implies, implies_true, Option.toList_some, Option.toList_none, List.cons_append, List.nil_append, Nat.add_eq_zero_iff, a_nl_i, a_nl_r, a_nl_n, true_or, or_true, eq_self, a_isRA_22, a_isRA_24, a_isRA_32, a_isA_20, ok_4, ok_5, ok_6, ok_7, ok_9, ok_20, ok_21, ok_30, ok_50, ok_180, ok_192, ok_200, ui_ap, cc_ne, cc_n0, cc_0n, Nat.reduceEqDiff, reduceIte, if_true, if_false, k_16 hS, l_16 hS, z_16, e5, k1, hc', g.1]
  repeat' first
    | with_reducible apply And.intro
    | exact hfin
    | exact ok6.1
    | exact hc'
    | (right; rfl)
    | decide
theorem ck_Ainit9 (hZ : cZ9 C c n0 K0 L0 I0 R0 (n + 1) t K L I R) {g l m w : Int32} (hm : 1 ≤ m ∧ m ≤ 4) (hP : ∀ t' K' L' J R', cZ9 C (c + 1) n0 K0 L0 I0 R0 (n + 1 + 1) t' K' L' J R' → K' (n + 1) = 1 → (∀ x, x < n + 1 → K' x = K x) → P none (n + 1 + 1, t', K', L', J, R')) : a_does (d + 1) 37 [a_rf (n + 1), .int g, .int l, .int m, .int w] (n + 1 + 1, t + 17, a_up K (n + 1) 1, a_up L (n + 1) 17, a_zi I (n + 1), a_zr R (n + 1)) P := by
  have fr := hZ.2.1.2.1
  have hC := hZ.2.1.2.2.1
  have f0 : (n + 1 = 0) = False := eq_false (by omega)
  rw [a_enter1 (M := a_m37) rfl (a_cat_rf (a_cat_int (a_cat_int (a_cat_int (a_cat_int a_cat_nil))))) (show 5 ≤ 5 by decide)]
  show a_at _ (a_xm a_m37) 0 [some (a_rf (n+1)), some (.int g), some (.int l), some (.int m), some (.int w)] [] _ _
  simp only [q37_0, as_nil, as_i, as_r, Nat.reduceAdd, Nat.reduceLeDiff, z_eq0, z_eq1, z_or, z_em, Classical.not_not, not_false_eq_true, not_true_eq_false, true_and, and_true, false_and, and_false, and_self, true_implies, false_implies, implies_true, Option.toList_some, Option.toList_none, List.cons_append, List.nil_append, Nat.add_eq_zero_iff, a_nl_i, a_nl_r, a_nl_n, true_or, or_true, eq_self, a_isRA_22, a_isRA_24, a_isRA_32, a_isA_20, ok_4, ok_5, ok_6, ok_7, ok_9, ok_20, ok_21, ok_30, ok_50, ok_180, ok_192, ok_200]
  rw [q37_1 (show ¬ n + 1 = 0 by omega) (show a_sum [] ≤ 8 by decide)]
  simp only [q37_4, q37_5, q37_6, q37_9, q37_10, q37_11, q37_14, q37_15, q37_16, q37_19, q37_20, q37_22, q37_25, q37_26, q37_28, q37_31, q37_32, q37_34, q37_37, q37_38, q37_40, q37_43, as_nil, as_i, as_r, Nat.reduceAdd, Nat.reduceLeDiff, z_eq0, z_eq1, z_or, z_em, Classical.not_not, not_false_eq_true, not_true_eq_false, true_and, and_true, false_and, and_false, and_self, true_implies, false_implies, implies_true, Option.toList_some, Option.toList_none, List.cons_append, List.nil_append, Nat.add_eq_zero_iff, a_nl_i, a_nl_r, a_nl_n, true_or, or_true, eq_self, a_isRA_22, a_isRA_24, a_isRA_32, a_isA_20, ok_4, ok_5, ok_6, ok_7, ok_9, ok_20, ok_21, ok_30, ok_50, ok_180, ok_192, ok_200, up_ap, up_eq, Nat.add_left_cancel_iff, Nat.add_right_cancel_iff, Nat.reduceEqDiff, if_true, if_false, f0]
  generalize hi : a_ui (a_ui (a_ui (a_ui (a_ui (a_ui (a_ui (a_zi I (n + 1)) (n + 1) 0 g) (n + 1) 1 l) (n + 1) 2 m) (n + 1) 3 w) (n + 1) 12 (-9)) (n + 1) 13 (-9)) (n + 1) 14 (-9) = I5
  have i2 : I5 (n + 1) 2 = m := by rw [← hi]; simp [ui_ap]
  have i4 : I5 (n + 1) 4 = 0 := by rw [← hi]; simp [ui_ap, zi_ap]
  have i13 : I5 (n + 1) 13 = -9 := by rw [← hi]; simp [ui_ap]
  have ix : ∀ x j, x < n + 1 → I5 x j = I x j := fun x j hx => by
    have e : ¬ x = n + 1 := by omega
    rw [← hi]
    simp [ui_ap, zi_ap, e]
  clear hi
  refine hP (t + 17) _ _ I5 _ (cZ_new9 (m := 1) (s := 17) hZ (by decide) (by decide) (fun x hx => up_ne (by omega)) (fun x hx => up_ne (by omega)) ix (fun x j hx => zr_ne (by omega)) (fun x hx => ?_) (fun a h1 h2 => ?_) (fun b h1 h2 => ?_) (fun x h1 h2 => ?_)) up_eq (fun x hx => up_ne (by omega))
  · rw [up_ne (by omega)]
    exact fr x (by omega)
  · by_cases e : a = n + 1
    · subst e
      rw [i2, i4, i13]
      exact ⟨by omega, hm, by decide, fun h => absurd h (by decide)⟩
    · rw [up_ne e, fr a (by omega)] at h2; cases h2
  · by_cases e : b = n + 1
    · subst e
      rw [up_eq] at h2; cases h2
    · rw [up_ne e, fr b (by omega)] at h2; cases h2
  · by_cases e : x = n + 1
    · subst e
      rw [up_eq] at h2; cases h2
    · rw [up_ne e, fr x (by omega)] at h2; cases h2
theorem ck_want9 {a : Nat} (ha : K a = 1) (hG : dG9 C K L R I0 I) {p q r w : Int32} (hP : ∀ J, dG9 C K L R I0 J → P none (n, t, K, L, J, R)) : a_does (d + 1) 41 [a_rf a, .int p, .int q, .int r, .int w] (n, t, K, L, I, R) P := by
  have hT := hG.1
  obtain ⟨a1, a2, a4, a3⟩ := hT.g_ask a ha
  have a0 : (a = 0) = False := eq_false (by omega)
  have hw : ∀ J k v, dG9 C K L R I0 J → (¬ k = 2 ∧ ¬ k = 4 ∧ ¬ k = 13 ∧ ¬ k = 14) → dG9 C K L R I0 (a_ui J a k v) := fun J k v h hk => dG_askf9 h a1 ha hk
  rw [a_enter1 (M := a_m41) rfl (a_cat_rf (a_cat_int (a_cat_int (a_cat_int (a_cat_int a_cat_nil))))) (show 5 ≤ 5 by decide)]
  show a_at _ (a_xm a_m41) 0 [some (a_rf a), some (.int p), some (.int q), some (.int r), some (.int w)] [] _ _
  simp only [q41_0, q41_1, q41_2, q41_5, q41_6, q41_7, q41_10, q41_11, q41_12, q41_15, q41_16, q41_18, q41_21, as_nil, as_i, as_r, Nat.reduceAdd, Nat.reduceLeDiff, z_eq0, z_eq1, z_or, z_em, Classical.not_not, not_false_eq_true, not_true_eq_false, true_and, and_true, false_and, and_false, and_self, true_implies, false_implies, implies_true, Option.toList_some, Option.toList_none, List.cons_append, List.nil_append, Nat.add_eq_zero_iff, a_nl_i, a_nl_r, a_nl_n, true_or, or_true, eq_self, a_isRA_22, a_isRA_24, a_isRA_32, a_isA_20, ok_4, ok_5, ok_6, ok_7, ok_9, ok_20, ok_21, ok_30, ok_50, ok_180, ok_192, ok_200, ha, a0]
  exact hP _ (hw _ _ _ (hw _ _ _ (hw _ _ _ (hw _ _ _ hG (by decide)) (by decide)) (by decide)) (by decide))
theorem ck_bind9 {a : Nat} (ha : K a = 1) (hG : dG9 C K L R I0 I) {p q r : Int32} (hP : ∀ J, dG9 C K L R I0 J → P none (n, t, K, L, J, R)) : a_does (d + 1) 42 [a_rf a, .int p, .int q, .int r] (n, t, K, L, I, R) P := by
  have hT := hG.1
  obtain ⟨a1, a2, a4, a3⟩ := hT.g_ask a ha
  have a0 : (a = 0) = False := eq_false (by omega)
  have hw : ∀ J k v, dG9 C K L R I0 J → (¬ k = 2 ∧ ¬ k = 4 ∧ ¬ k = 13 ∧ ¬ k = 14) → dG9 C K L R I0 (a_ui J a k v) := fun J k v h hk => dG_askf9 h a1 ha hk
  rw [a_enter1 (M := a_m42) rfl (a_cat_rf (a_cat_int (a_cat_int (a_cat_int a_cat_nil)))) (show 4 ≤ 4 by decide)]
  show a_at _ (a_xm a_m42) 0 [some (a_rf a), some (.int p), some (.int q), some (.int r)] [] _ _
  simp only [q42_0, q42_1, q42_2, q42_5, q42_6, q42_7, q42_10, q42_11, q42_12, q42_15, as_nil, as_i, as_r, Nat.reduceAdd, Nat.reduceLeDiff, z_eq0, z_eq1, z_or, z_em, Classical.not_not, not_false_eq_true, not_true_eq_false, true_and, and_true, false_and, and_false, and_self, true_implies, false_implies, implies_true, Option.toList_some, Option.toList_none, List.cons_append, List.nil_append, Nat.add_eq_zero_iff, a_nl_i, a_nl_r, a_nl_n, true_or, or_true, eq_self, a_isRA_22, a_isRA_24, a_isRA_32, a_isA_20, ok_4, ok_5, ok_6, ok_7, ok_9, ok_20, ok_21, ok_30, ok_50, ok_180, ok_192, ok_200, ha, a0]
  exact hP _ (hw _ _ _ (hw _ _ _ (hw _ _ _ hG (by decide)) (by decide)) (by decide))
theorem ck_owedOne9 {a : Nat} (ha : K a = 1) (hZ : cZ9 C c n0 K0 L0 I0 R0 (n + 1) t K L I R) {m : Int32} (hm : 1 ≤ m ∧ m ≤ 4) (hP : ∀ t' K' L' J R', cZ9 C (c + 1) n0 K0 L0 I0 R0 (n + 1 + 1) t' K' L' J R' → K' (n + 1) = 1 → (∀ x, x < n + 1 → K' x = K x) → P (some (a_rf (n + 1))) (n + 1 + 1, t', K', L', J, R')) : a_does (d + 2) 142 [a_rf a, .int m] (n + 1, t, K, L, I, R) P := by
  have hT := hZ.2.1.1
  obtain ⟨a1, a2, a4, a3⟩ := hT.g_ask a ha
  have a0 : (a = 0) = False := eq_false (by omega)
  have fr := hZ.2.1.2.1
  have al := kn_lt fr ha (by decide)
  have an : (a = n + 1) = False := eq_false (by omega)
  have f0 : (n + 1 = 0) = False := eq_false (by omega)
  rw [a_enter1 (M := a_m142) rfl (a_cat_rf (a_cat_int a_cat_nil)) (show 2 ≤ 3 by decide)]
  show a_at _ (a_xm a_m142) 0 [some (a_rf a), some (.int m), none] [] _ _
  simp only [q142_0, q142_3, q142_4, q142_5, q142_8, q142_9, q142_12, q142_13, q142_14, q142_17, as_nil, as_i, as_r, Nat.reduceAdd, Nat.reduceLeDiff, z_eq0, z_eq1, z_or, z_em, Classical.not_not, not_false_eq_true, not_true_eq_false, true_and, and_true, false_and, and_false, and_self, true_implies, false_implies, implies_true, Option.toList_some, Option.toList_none, List.cons_append, List.nil_append, Nat.add_eq_zero_iff, a_nl_i, a_nl_r, a_nl_n, true_or, or_true, eq_self, a_isRA_22, a_isRA_24, a_isRA_32, a_isA_20, ok_4, ok_5, ok_6, ok_7, ok_9, ok_20, ok_21, ok_30, ok_50, ok_180, ok_192, ok_200, ha, a0, up_ap, an, f0, if_false]
  refine ck_Ainit9 hZ hm (fun t' K' L' J R' z k1 k2 => ?_)
  have ha' : K' a = 1 := by rw [k2 a al]; exact ha
  simp only [q142_20, q142_21, q142_22, q142_23, q142_26, q142_27, q142_30, q142_31, q142_34, q142_35, q142_38, as_nil, as_i, as_r, Nat.reduceAdd, Nat.reduceLeDiff, z_eq0, z_eq1, z_or, z_em, Classical.not_not, not_false_eq_true, not_true_eq_false, true_and, and_true, false_and, and_false, and_self, true_implies, false_implies, implies_true, Option.toList_some, Option.toList_none, List.cons_append, List.nil_append, Nat.add_eq_zero_iff, a_nl_i, a_nl_r, a_nl_n, true_or, or_true, eq_self, a_isRA_22, a_isRA_24, a_isRA_32, a_isA_20, ok_4, ok_5, ok_6, ok_7, ok_9, ok_20, ok_21, ok_30, ok_50, ok_180, ok_192, ok_200, a0, ha', k1, f0]
  refine ck_want9 k1 (dG_refl9 z.2.1.1) (fun J2 g2 => ?_)
  simp only [q142_41, q142_42, q142_43, q142_44, q142_45, as_nil, as_i, as_r, Nat.reduceAdd, Nat.reduceLeDiff, z_eq0, z_eq1, z_or, z_em, Classical.not_not, not_false_eq_true, not_true_eq_false, true_and, and_true, false_and, and_false, and_self, true_implies, false_implies, implies_true, Option.toList_some, Option.toList_none, List.cons_append, List.nil_append, Nat.add_eq_zero_iff, a_nl_i, a_nl_r, a_nl_n, true_or, or_true, eq_self, a_isRA_22, a_isRA_24, a_isRA_32, a_isA_20, ok_4, ok_5, ok_6, ok_7, ok_9, ok_20, ok_21, ok_30, ok_50, ok_180, ok_192, ok_200, a0, ha', k1, f0]
  refine ck_bind9 k1 g2 (fun J3 g3 => ?_)
  simp only [q142_48, q142_49, as_nil, as_i, as_r, Nat.reduceAdd, Nat.reduceLeDiff, z_eq0, z_eq1, z_or, z_em, Classical.not_not, not_false_eq_true, not_true_eq_false, true_and, and_true, false_and, and_false, and_self, true_implies, false_implies, implies_true, Option.toList_some, Option.toList_none, List.cons_append, List.nil_append, Nat.add_eq_zero_iff, a_nl_i, a_nl_r, a_nl_n, true_or, or_true, eq_self, a_isRA_22, a_isRA_24, a_isRA_32, a_isA_20, ok_4, ok_5, ok_6, ok_7, ok_9, ok_20, ok_21, ok_30, ok_50, ok_180, ok_192, ok_200, a0, ha', k1, f0]
  exact hP t' K' L' J3 R' (cZ_G9 z g3) k1 k2
theorem ck_addAsk9 {a : Nat} (ha : K a = 1) (hZ : cZ9 C c n0 K0 L0 I0 R0 n t K L I R) (hc : ¬ 30 ≤ I (C + 14) 4) (hP : ∀ v J R', cZ9 C c n0 K0 L0 I0 R0 n t K L J R' → P (some (.int v)) (n, t, K, L, J, R')) : a_does (d + 1) 43 [a_rf (C + 14), a_rf a] (n, t, K, L, I, R) P := by
  have hT := hZ.2.1.1
  have hS := hT.s
  obtain ⟨a1, a2, a4, a3⟩ := hT.g_ask a ha
  have a0 : (a = 0) = False := eq_false (by omega)
  have g := hT.g_asks
  have h1 := sT_addAsk hT ha hc
  have hC := hT.s.1
  have hc' : I (C + 14) 4 < 30 := Int32.not_le.mp hc
  have g0 : 0 ≤ I (C + 14) 4 := g.1
  have an : (a = C + 14) = False := eq_false (by omega)
  have na : (C + 14 = a) = False := eq_false (by omega)
  have z : cZ9 C c n0 K0 L0 I0 R0 n t K L (a_ui (a_ui I a 4 (I (C + 14) 4)) (C + 14) 4 (I (C + 14) 4 + 1)) (a_ur R (C + 15) (I (C + 14) 4).toNatClampNeg a) := by
    obtain ⟨z1, ⟨p1, p2, p3, p4, p5, p6⟩, z3⟩ := hZ
    have hv : cV C L (a_ur R (C + 15) (I (C + 14) 4).toNatClampNeg a) = cV C L R := cV_eq (fun i => by
      have e1 : a_ur R (C + 15) (I (C + 14) 4).toNatClampNeg a (C + 16) i = R (C + 16) i := by rw [ur_ap, if_neg (by omega)]
      rw [e1, ur_ap, if_neg ?_]
      intro e
      rcases p1.g_benchesR i with q | q
      · omega
      · have := (p1.g_bnc _ q).1
        omega)
    exact ⟨z1, ⟨h1, p2, p3, by rw [ur_ap, if_neg (by omega)]; exact p4, by rw [hv]; exact p5, by rw [hv]; exact p6⟩, dX_X9 z3 ⟨Nat.le_refl _, fun _ _ => rfl, fun _ _ => rfl, fun x j p q => by rw [ur_ap, if_neg (by omega)], fun x j p q => by rw [ui_ap, if_neg (fun e => by unfold eD9 eD at p; omega), ui_ap, if_neg (fun e => by rw [e.1] at p; unfold eD9 eD at p; omega)]⟩⟩
  rw [a_enter1 (M := a_m43) rfl (a_cat_rf (a_cat_rf a_cat_nil)) (show 2 ≤ 2 by decide)]
  show a_at _ (a_xm a_m43) 0 [some (a_rf (C + 14)), some (a_rf a)] [] _ _
  simp only [q43_0, q43_1, q43_4, q43_6, q43_9, q43_11, q43_12, q43_13, q43_16, q43_17, q43_20, q43_21, q43_22, q43_23, q43_24, q43_27, q43_30, q43_31, q43_32, q43_35, q43_36, q43_37, q43_40, q43_41, q43_44, k_14 hS, z_14, r_14_2 hS, k_15 hS, l_15 hS, z_15, as_nil, as_i, as_r, Nat.reduceAdd, Nat.reduceLeDiff, z_eq0, z_eq1, z_or, z_em, Classical.not_not, not_false_eq_true, not_true_eq_false, true_and, and_true, false_and, and_false, and_self, true_implies, false_implies, implies_true, Option.toList_some, Option.toList_none, List.cons_append, List.nil_append, Nat.add_eq_zero_iff, a_nl_i, a_nl_r, a_nl_n, true_or, or_true, eq_self, a_isRA_22, a_isRA_24, a_isRA_32, a_isA_20, ok_4, ok_5, ok_6, ok_7, ok_9, ok_20, ok_21, ok_30, ok_50, ok_180, ok_192, ok_200, ui_ap, cc_ne, cc_n0, cc_0n, Nat.reduceEqDiff, reduceIte, if_true, if_false, ha, a0, hc', hc, g0, an, na]
  have hfin := fun v => hP v _ _ z
  repeat' first
    | with_reducible apply And.intro
    | exact hfin _
    | (right; rfl)
    | decide
theorem ck_written9 (hZ : cZ9 C c n0 K0 L0 I0 R0 (n + 1) t K L I R) (hP : ∀ t' K' L' J R', cZ9 C (c + 1) n0 K0 L0 I0 R0 (n + 1 + 1) t' K' L' J R' → K' (n + 1) = 20 → L' (n + 1) ≤ 50 → P (some (a_rf (n + 1))) (n + 1 + 1, t', K', L', J, R')) : a_does (d + 1) 81 [a_rf (C + 11)] (n + 1, t, K, L, I, R) P := by
  have hT := hZ.2.1.1
  have hS := hT.s
  have fr := hZ.2.1.2.1
  have hC := hZ.2.1.2.2.1
  have g := hT.g_code
  have f0 : (n + 1 = 0) = False := eq_false (by omega)
  have e0 := Int32.le_iff_toInt_le.mp g.1
  have e1 := Int32.le_iff_toInt_le.mp g.2
  have c0 : (0 : Int32).toInt = 0 := rfl
  have c50 : (50 : Int32).toInt = 50 := rfl
  have hm : (I (C + 11) 3).toNatClampNeg ≤ 50 := by
    show (I (C + 11) 3).toInt.toNat ≤ 50
    omega
  have h6 : (I (C + 11) 3).toNatClampNeg ≤ 1000000 := by omega
  have hn0 : (I (C + 11) 3 < 0) = False := eq_false (Int32.not_lt.mpr g.1)
  have n11 : (C + 11 = n + 1) = False := eq_false (by omega)
  have n13 : (C + 13 = n + 1) = False := eq_false (by omega)
  rw [a_enter1 (M := a_m81) rfl (a_cat_rf a_cat_nil) (show 1 ≤ 2 by decide)]
  show a_at _ (a_xm a_m81) 0 [some (a_rf (C + 11)), none] [] _ _
  simp only [q81_0, q81_1, q81_4, q81_6, q81_7, q81_8, q81_11, q81_12, q81_13, q81_14, q81_15, k_11 hS, z_11, r_11_1 hS, k_13 hS, l_13 hS, z_13, as_nil, as_i, as_r, Nat.reduceAdd, Nat.reduceLeDiff, z_eq0, z_eq1, z_or, z_em, Classical.not_not, not_false_eq_true, not_true_eq_false, true_and, and_true, false_and, and_false, and_self, true_implies, false_implies, implies_true, Option.toList_some, Option.toList_none, List.cons_append, List.nil_append, Nat.add_eq_zero_iff, a_nl_i, a_nl_r, a_nl_n, true_or, or_true, eq_self, a_isRA_22, a_isRA_24, a_isRA_32, a_isA_20, ok_4, ok_5, ok_6, ok_7, ok_9, ok_20, ok_21, ok_30, ok_50, ok_180, ok_192, ok_200, up_ap, up_eq, zi_ap, zr_ap, if_true, if_false, hn0, h6, n11, n13, f0, a_copy_eq, a_kd_eq, a_ln_eq, cn00, lt00, Nat.zero_add]
  generalize hk : (I (C + 11) 3).toNatClampNeg = k at hm ⊢
  simp only [q81_18, q81_21, q81_22, as_nil, as_i, as_r, Nat.reduceAdd, Nat.reduceLeDiff, z_eq0, z_eq1, z_or, z_em, Classical.not_not, not_false_eq_true, not_true_eq_false, true_and, and_true, false_and, and_false, and_self, true_implies, false_implies, implies_true, Option.toList_some, Option.toList_none, List.cons_append, List.nil_append, Nat.add_eq_zero_iff, a_nl_i, a_nl_r, a_nl_n, true_or, or_true, eq_self, a_isRA_22, a_isRA_24, a_isRA_32, a_isA_20, ok_4, ok_5, ok_6, ok_7, ok_9, ok_20, ok_21, ok_30, ok_50, ok_180, ok_192, ok_200, up_ap, up_eq, zi_ap, zr_ap, if_true, if_false, k_11 hS, z_11, k_13 hS, l_13 hS, z_13, hn0, hk, n11, n13, f0, a_copy_eq, a_kd_eq, a_ln_eq, cn00, lt00, Nat.zero_add, Nat.le_refl, hm]
  have ix : ∀ x j, x < n + 1 → a_ci (a_zi I (n + 1)) (C + 13) (n + 1) 0 0 k x j = I x j := fun x j hx => by rw [ci_ne (by omega), zi_ne (by omega)]
  have z := cZ_new9 (m := 1) (s := k) (K' := a_up K (n + 1) 20) (L' := a_up L (n + 1) k) (J := a_ci (a_zi I (n + 1)) (C + 13) (n + 1) 0 0 k) (R' := a_zr R (n + 1)) hZ (by decide) (by omega) (fun x hx => up_ne (by omega)) (fun x hx => up_ne (by omega)) ix (fun x j hx => zr_ne (by omega)) (fun x hx => by rw [up_ne (by omega)]; exact fr x (by omega)) (fun a h1 h2 => by
    by_cases e : a = n + 1
    · rw [e, up_eq] at h2; cases h2
    · rw [up_ne e, fr a (by omega)] at h2; cases h2) (fun a h1 h2 => by
    by_cases e : a = n + 1
    · rw [e, up_eq] at h2; cases h2
    · rw [up_ne e, fr a (by omega)] at h2; cases h2) (fun a h1 h2 => by
    by_cases e : a = n + 1
    · rw [e, up_eq] at h2; cases h2
    · rw [up_ne e, fr a (by omega)] at h2; cases h2)
  exact hP _ _ _ _ _ z up_eq (by rw [up_eq]; exact hm)
theorem ck_addText9 (hZ : cZ9 C c n0 K0 L0 I0 R0 (n + 1) t K L I R) {x : Nat} (hx : K x = 20) (x1 : C + 96 < x) (hl : L x ≤ 50) {p q : Int32} (hc : ¬ 20 ≤ I (C + 7) 3) (hP : ∀ t' K' L' J R', cZ9 C (c + 1) n0 K0 L0 I0 R0 (n + 1 + 1) t' K' L' J R' → J (C + 7) 3 = I (C + 7) 3 → K' (n + 1) = 11 → J (n + 1) 4 = 0 → cH C (c + 1) (n + 1 + 1) t' K' L' J (a_ur R' (C + 8) (I (C + 7) 3).toNatClampNeg (n + 1)) → P (some (.int (I (C + 7) 3 + 1 - 1))) (n + 1 + 1, t', K', L', a_ui J (C + 7) 3 (I (C + 7) 3 + 1), a_ur R' (C + 8) (I (C + 7) 3).toNatClampNeg (n + 1))) : a_does (d + 2) 82 [a_rf (C + 7), .int p, .int q, a_rf x] (n + 1, t, K, L, I, R) P := by
  have hT := hZ.2.1.1
  have hS := hT.s
  have fr := hZ.2.1.2.1
  have hC := hZ.2.1.2.2.1
  have g := hT.g_texts
  have xl := kn_lt fr hx (by decide)
  have hc' : I (C + 7) 3 < 20 := Int32.not_le.mp hc
  have g0 : 0 ≤ I (C + 7) 3 := g.1
  have f0 : (n + 1 = 0) = False := eq_false (by omega)
  have n7 : (C + 7 = n + 1) = False := eq_false (by omega)
  have n8 : (C + 8 = n + 1) = False := eq_false (by omega)
  rw [a_enter1 (M := a_m82) rfl (a_cat_rf (a_cat_int (a_cat_int (a_cat_rf a_cat_nil)))) (show 4 ≤ 4 by decide)]
  show a_at _ (a_xm a_m82) 0 [some (a_rf (C + 7)), some (.int p), some (.int q), some (a_rf x)] [] _ _
  simp only [q82_0, q82_1, q82_4, q82_6, q82_9, q82_11, q82_12, q82_13, q82_16, q82_17, q82_20, q82_23, q82_24, q82_25, q82_26, q82_27, k_7 hS, z_7, r_7_0 hS, k_8 hS, l_8 hS, z_8, as_nil, as_i, as_r, Nat.reduceAdd, Nat.reduceLeDiff, z_eq0, z_eq1, z_or, z_em, Classical.not_not, not_false_eq_true, not_true_eq_false, true_and, and_true, false_and, and_false, and_self, true_implies, false_implies, implies_true, Option.toList_some, Option.toList_none, List.cons_append, List.nil_append, Nat.add_eq_zero_iff, a_nl_i, a_nl_r, a_nl_n, true_or, or_true, eq_self, a_isRA_22, a_isRA_24, a_isRA_32, a_isA_20, ok_4, ok_5, ok_6, ok_7, ok_9, ok_20, ok_21, ok_30, ok_50, ok_180, ok_192, ok_200, up_ap, up_eq, zi_ap, zr_ap, if_true, if_false, hc', hc, n7, n8, f0]
  rw [a_enter1 (M := a_m83) rfl (a_cat_rf (a_cat_int (a_cat_int (a_cat_rf a_cat_nil)))) (show 4 ≤ 4 by decide)]
  show a_at _ (a_xm a_m83) 0 [some (a_rf (n+1)), some (.int p), some (.int q), some (a_rf x)] [] _ _
  simp only [q83_0, as_nil, as_i, as_r, Nat.reduceAdd, Nat.reduceLeDiff, z_eq0, z_eq1, z_or, z_em, Classical.not_not, not_false_eq_true, not_true_eq_false, true_and, and_true, false_and, and_false, and_self, true_implies, false_implies, implies_true, Option.toList_some, Option.toList_none, List.cons_append, List.nil_append, Nat.add_eq_zero_iff, a_nl_i, a_nl_r, a_nl_n, true_or, or_true, eq_self, a_isRA_22, a_isRA_24, a_isRA_32, a_isA_20, ok_4, ok_5, ok_6, ok_7, ok_9, ok_20, ok_21, ok_30, ok_50, ok_180, ok_192, ok_200]
  rw [q83_1 (show ¬ n + 1 = 0 by omega) (show a_sum [] ≤ 8 by decide)]
  simp only [q83_4, q83_5, q83_6, q83_9, q83_10, q83_11, q83_14, q83_15, q83_16, q83_19, q83_20, q83_23, q83_26, as_nil, as_i, as_r, Nat.reduceAdd, Nat.reduceLeDiff, z_eq0, z_eq1, z_or, z_em, Classical.not_not, not_false_eq_true, not_true_eq_false, true_and, and_true, false_and, and_false, and_self, true_implies, false_implies, implies_true, Option.toList_some, Option.toList_none, List.cons_append, List.nil_append, Nat.add_eq_zero_iff, a_nl_i, a_nl_r, a_nl_n, true_or, or_true, eq_self, a_isRA_22, a_isRA_24, a_isRA_32, a_isA_20, ok_4, ok_5, ok_6, ok_7, ok_9, ok_20, ok_21, ok_30, ok_50, ok_180, ok_192, ok_200, up_ap, up_eq, Nat.add_left_cancel_iff, Nat.add_right_cancel_iff, Nat.reduceEqDiff, if_true, if_false, f0]
  generalize hi : a_ui (a_ui (a_ui (a_zi I (n + 1)) (n + 1) 0 p) (n + 1) 1 q) (n + 1) 3 200 = I5
  have ix : ∀ x j, x < n + 1 → I5 x j = I x j := fun x j hx => by
    have e : ¬ x = n + 1 := by omega
    rw [← hi]
    simp [ui_ap, zi_ap, e]
  have i4 : I5 (n + 1) 4 = 0 := by rw [← hi]; simp [ui_ap, zi_ap]
  clear hi
  have z := cZ_new9 (m := 1) (s := 5) (K' := a_up K (n + 1) 11) (L' := a_up L (n + 1) 5) (J := I5) (R' := a_ur (a_zr R (n + 1)) (n + 1) 2 x) hZ (by decide) (by decide) (fun x hx => up_ne (by omega)) (fun x hx => up_ne (by omega)) ix (fun x j hx => by rw [ur_ap, if_neg (by omega), zr_ne (by omega)]) (fun x hx => by rw [up_ne (by omega)]; exact fr x (by omega)) (fun a h1 h2 => by
    by_cases e : a = n + 1
    · rw [e, up_eq] at h2; cases h2
    · rw [up_ne e, fr a (by omega)] at h2; cases h2) (fun a h1 h2 => by
    by_cases e : a = n + 1
    · rw [e, up_eq] at h2; cases h2
    · rw [up_ne e, fr a (by omega)] at h2; cases h2) (fun a h1 h2 => by
    by_cases e : a = n + 1
    · subst e
      rw [ur_ap, if_pos ⟨rfl, rfl⟩, up_ne (by omega), up_ne (by omega)]
      exact ⟨by omega, x1, hx, hl⟩
    · rw [up_ne e, fr a (by omega)] at h2; cases h2)
  have z2 := cH_R8 z.2.1 (j := (I (C + 7) 3).toNatClampNeg) (Or.inr (up_eq (f := K) (a := n + 1) (v := 11)))
  have e5 : I5 (C + 7) 3 = I (C + 7) 3 := ix _ _ (by omega)
  have hfin := hP _ _ _ _ _ z e5 up_eq i4 z2
  have hS := z.2.1.1.s
  have k11 : a_up K (n + 1) 11 (n + 1) = 11 := up_eq
  simp only [q82_30, q82_31, q82_32, q82_33, q82_36, q82_37, q82_38, q82_41, q82_42, q82_45, q82_46, q82_47, k_7 hS, z_7, as_nil, as_i, as_r, Nat.reduceAdd, Nat.reduceLeDiff, z_eq0, z_eq1, z_or, z_em, Classical.not_not, not_false_eq_true, not_true_eq_false, true_and, and_true, false_and, and_false, and_self, true_implies, false_implies, implies_true, Option.toList_some, Option.toList_none, List.cons_append, List.nil_append, Nat.add_eq_zero_iff, a_nl_i, a_nl_r, a_nl_n, true_or, or_true, eq_self, a_isRA_22, a_isRA_24, a_isRA_32, a_isA_20, ok_4, ok_5, ok_6, ok_7, ok_9, ok_20, ok_21, ok_30, ok_50, ok_180, ok_192, ok_200, ui_ap, cc_ne, cc_n0, cc_0n, Nat.reduceEqDiff, reduceIte, if_true, if_false, k_8 hS, l_8 hS, z_8, e5, k11, hc', g0]
  repeat' first
    | with_reducible apply And.intro
    | exact hfin
    | (right; rfl)
    | decide
end KC
/-! the class: plans -/
section KD
variable {d n t C c n0 n' n'' t' : Nat} {K L K0 L0 K' L' K'' L'' : Nat → Nat} {I I0 J J0 J1 J2 : Nat → Nat → Int32} {R R0 R' R'' : Nat → Nat → Nat} {P : Option Value → AH → Prop}
theorem lk_enter_159 {a : Nat} (ha : K a = 1) {m : Int32} (hm : 0 ≤ m ∧ m < 30) (h6 : I (C + 22) 6 = m) (hP : ∀ J R1, cZ9 C c n0 K0 L0 I0 R0 n t K L J R1 → J (C + 22) 6 = m + 1 → J (C + 22) 7 = I (C + 22) 7 → (∀ p, nnP C R1 (m + 1) p) → P none (n, t, K, L, J, R1)) : ∀ q : Int32, 0 ≤ q → ∀ R1, q ≤ m → cZ9 C c n0 K0 L0 I0 R0 n t K L I R1 → nnP C R1 (m + 1) q → a_at (d + 2) (a_xm a_m120) 15 [some (a_rf (C + 22)), some (a_rf a), some (.int q)] [] (n, t, K, L, I, R1) P := by
  refine dn_ind 0 (fun q hk ih => ?_)
  intro R1 q1 hZ hN
  have hT := hZ.2.1.1
  have hS := hT.s
  obtain ⟨a1, a2, a4, a3⟩ := hT.g_ask a ha
  have a0 : (a = 0) = False := eq_false (by omega)
  have go := hT.g_orderR (q - 1).toNatClampNeg
  have gn : 0 < q → ¬ R1 (C + 23) (q - 1).toNatClampNeg = 0 := fun h => hN (q - 1) (by clear hN ih hP; grind) (by clear hN ih hP; grind) (by clear hN ih hP; grind)
  have hs : 0 < q → nnP C (a_ur R1 (C + 23) q.toNatClampNeg (R1 (C + 23) (q - 1).toNatClampNeg)) (m + 1) (q + (-1)) := fun h => by
    have := nn_shift hN h (by clear hN ih hP; grind) (by clear hN ih hP; grind)
    have e : q + (-1) = q - 1 := by clear hN ih hP; grind
    rw [e]
    exact this
  have hzs : cZ9 C c n0 K0 L0 I0 R0 n t K L I (a_ur R1 (C + 23) q.toNatClampNeg (R1 (C + 23) (q - 1).toNatClampNeg)) := cZ_R239 hZ go
  have zf := cZ_R239 (j := q.toNatClampNeg) (v := a) hZ (Or.inr ha)
  have zg := cZ_G9 zf (dG_Planner_orderSize9 (dG_refl9 zf.2.1.1) (v := m + 1) (by clear zf hzs hs hN ih hP hZ hT hS go gn; grind))
  have hfin := hP _ _ zg (by rw [ui_ap, if_pos ⟨rfl, rfl⟩]) (by rw [ui_ap, if_neg (by omega)]) (nn_put hN (by omega))
  rw [q120_15]
  simp only [q120_16, q120_19, q120_20, q120_21, q120_24, q120_25, q120_26, q120_27, q120_28, k_22 hS, z_22, r_22_2 hS, k_23 hS, l_23 hS, z_23, as_nil, as_i, as_r, Nat.reduceAdd, Nat.reduceLeDiff, z_eq0, z_eq1, z_or, z_em, Classical.not_not, not_false_eq_true, not_true_eq_false, true_and, and_true, false_and, and_false, and_self, true_implies, false_implies, implies_true, Option.toList_some, Option.toList_none, List.cons_append, List.nil_append, Nat.add_eq_zero_iff, a_nl_i, a_nl_r, a_nl_n, true_or, or_true, eq_self, a_isRA_22, a_isRA_24, a_isRA_32, a_isA_20, ok_4, ok_5, ok_6, ok_7, ok_9, ok_20, ok_21, ok_30, ok_50, ok_180, ok_192, ok_200, ha, a0]
  have hend : a_at (d + 2) (a_xm a_m120) 54 [some (a_rf (C + 22)), some (a_rf a), some (.int q)] [] (n, t, K, L, I, R1) P := by
    simp only [q120_54, q120_55, q120_58, q120_59, q120_60, q120_61, q120_62, q120_63, q120_66, q120_67, q120_68, q120_71, k_22 hS, z_22, r_22_2 hS, k_23 hS, l_23 hS, z_23, as_nil, as_i, as_r, Nat.reduceAdd, Nat.reduceLeDiff, z_eq0, z_eq1, z_or, z_em, Classical.not_not, not_false_eq_true, not_true_eq_false, true_and, and_true, false_and, and_false, and_self, true_implies, false_implies, implies_true, Option.toList_some, Option.toList_none, List.cons_append, List.nil_append, Nat.add_eq_zero_iff, a_nl_i, a_nl_r, a_nl_n, true_or, or_true, eq_self, a_isRA_22, a_isRA_24, a_isRA_32, a_isA_20, ok_4, ok_5, ok_6, ok_7, ok_9, ok_20, ok_21, ok_30, ok_50, ok_180, ok_192, ok_200, ha, a0, ur_ap, cc_ne, Nat.reduceEqDiff, if_false, h6]
    repeat' first
      | with_reducible apply And.intro
      | exact hfin
      | exact hk
      | (right; rfl)
      | decide
    all_goals (clear hfin zg zf hzs hs hN ih hP hZ hT hS go gn; grind)
  refine ⟨fun h => hend, fun h => ?_⟩
  have hq : 0 < q := Int32.not_le.mp h
  have gn := gn hq
  have gk := go.resolve_left gn
  refine ⟨?_, ?_⟩
  · clear hfin zg zf hzs hs hN ih hP hZ hT hS go
    first
      | grind
      | (refine ⟨?_, ?_⟩ <;> grind)
  · refine ck_isAheadOf (by omega) ha gn gk (fun v => ?_)
    simp only [q120_31, q120_34, q120_35, q120_38, q120_39, q120_40, q120_43, q120_44, q120_45, q120_46, q120_47, q120_48, q120_51, k_22 hS, z_22, r_22_2 hS, k_23 hS, l_23 hS, z_23, as_nil, as_i, as_r, Nat.reduceAdd, Nat.reduceLeDiff, z_eq0, z_eq1, z_or, z_em, Classical.not_not, not_false_eq_true, not_true_eq_false, true_and, and_true, false_and, and_false, and_self, true_implies, false_implies, implies_true, Option.toList_some, Option.toList_none, List.cons_append, List.nil_append, Nat.add_eq_zero_iff, a_nl_i, a_nl_r, a_nl_n, true_or, or_true, eq_self, a_isRA_22, a_isRA_24, a_isRA_32, a_isA_20, ok_4, ok_5, ok_6, ok_7, ok_9, ok_20, ok_21, ok_30, ok_50, ok_180, ok_192, ok_200, ha, a0, gk, gn]
    refine ⟨fun _ => hend, fun _ => ?_⟩
    have hi := ih hq _ (by clear hfin zg zf hzs hs hN ih hP hZ hT hS go; grind) hzs (hs hq)
    repeat' first
      | with_reducible apply And.intro
      | exact hi
      | exact hk
      | (right; rfl)
      | decide
    all_goals (clear hi hfin zg zf hzs hs hN ih hP hZ hT hS go; grind)
theorem ck_enter9 {a : Nat} (ha : K a = 1) {m : Int32} (hZ : cZ9 C c n0 K0 L0 I0 R0 n t K L I R) (h6 : I (C + 22) 6 = m) (hm : m < 30) (hN : ∀ p, nnP C R m p) (hP : ∀ J R1, cZ9 C c n0 K0 L0 I0 R0 n t K L J R1 → J (C + 22) 6 = m + 1 → J (C + 22) 7 = I (C + 22) 7 → (∀ p, nnP C R1 (m + 1) p) → P none (n, t, K, L, J, R1)) : a_does (d + 3) 120 [a_rf (C + 22), a_rf a] (n, t, K, L, I, R) P := by
  have hT := hZ.2.1.1
  have hS := hT.s
  have g := hT.g_orderSize
  rw [h6] at g
  have hm' : ¬ 30 ≤ m := Int32.not_le.mpr hm
  have hl := lk_enter_159 (d := d) (m := m) ha ⟨g.1, hm⟩ h6 hP m g.1 R (Int32.le_refl _) hZ (nn_open hN g.1 g.2)
  rw [a_enter1 (M := a_m120) rfl (a_cat_rf (a_cat_rf a_cat_nil)) (show 2 ≤ 3 by decide)]
  show a_at _ (a_xm a_m120) 0 [some (a_rf (C + 22)), some (a_rf a), none] [] _ _
  simp only [q120_0, q120_1, q120_4, q120_6, q120_9, q120_10, q120_11, q120_14, k_22 hS, z_22, as_nil, as_i, as_r, Nat.reduceAdd, Nat.reduceLeDiff, z_eq0, z_eq1, z_or, z_em, Classical.not_not, not_false_eq_true, not_true_eq_false, true_and, and_true, false_and, and_false, and_self, true_implies, false_implies, implies_true, Option.toList_some, Option.toList_none, List.cons_append, List.nil_append, Nat.add_eq_zero_iff, a_nl_i, a_nl_r, a_nl_n, true_or, or_true, eq_self, a_isRA_22, a_isRA_24, a_isRA_32, a_isA_20, ok_4, ok_5, ok_6, ok_7, ok_9, ok_20, ok_21, ok_30, ok_50, ok_180, ok_192, ok_200, h6, hm, hm']
  first
    | exact hl
    | exact ⟨fun _ => hl, fun h => absurd hm h⟩
end KD
/-! the class: plans, whole -/
section KE
variable {d n t C c n0 n' n'' t' : Nat} {K L K0 L0 K' L' K'' L'' : Nat → Nat} {I I0 J J0 J1 J2 : Nat → Nat → Int32} {R R0 R' R'' : Nat → Nat → Nat} {P : Option Value → AH → Prop}
theorem lk_planAgain_779 {m : Int32} (hm : m ≤ 30) (hN : ∀ p, nnP C R m p) (hP : ∀ v J, cZ9 C c n0 K0 L0 I0 R0 (n + 1) t K L J R → P (some (.int v)) (n + 1, t, K, L, J, R)) : ∀ i : Int32, i ≤ 30 → ∀ J o u, 0 ≤ i → cZ9 C c n0 K0 L0 I0 R0 (n + 1) t K L J R → J (C + 22) 6 = m → a_at (d + 7) (a_xm a_m144) 77 [some (a_rf (C + 22)), some (.int o), some (.int i), u] [] (n + 1, t, K, L, J, R) P := by
  refine up_ind 30 (fun i hk ih => ?_)
  intro J o u q0 hZ h6
  have hT := hZ.2.1.1
  have hS := hT.s
  have gi := hT.g_orderR i.toNatClampNeg
  have gn : i < m → ¬ R (C + 23) i.toNatClampNeg = 0 := fun h => hN (-1) i q0 h (by clear hN ih hP; grind)
  have hnow := hT.g_now
  have n8 : ¬ (8 : Int32) = 0 := by decide
  rw [q144_77]
  simp only [q144_78, q144_79, q144_82, q144_85, q144_86, q144_89, q144_90, q144_91, q144_92, q144_93, q144_94, q144_95, q144_98, q144_101, q144_103, q144_104, q144_105, q144_106, q144_109, k_22 hS, z_22, r_22_2 hS, k_23 hS, l_23 hS, z_23, r_22_1 hS, k_1 hS, z_1, as_nil, as_i, as_r, Nat.reduceAdd, Nat.reduceLeDiff, z_eq0, z_eq1, z_or, z_em, Classical.not_not, not_false_eq_true, not_true_eq_false, true_and, and_true, false_and, and_false, and_self, true_implies, false_implies, implies_true, Option.toList_some, Option.toList_none, List.cons_append, List.nil_append, Nat.add_eq_zero_iff, a_nl_i, a_nl_r, a_nl_n, true_or, or_true, eq_self, a_isRA_22, a_isRA_24, a_isRA_32, a_isA_20, ok_4, ok_5, ok_6, ok_7, ok_9, ok_20, ok_21, ok_30, ok_50, ok_180, ok_192, ok_200, h6, n8]
  refine ⟨fun h1 => ?_, fun h1 => ?_⟩
  · simp only [q144_154, q144_155, as_nil, as_i, as_r, Nat.reduceAdd, Nat.reduceLeDiff, z_eq0, z_eq1, z_or, z_em, Classical.not_not, not_false_eq_true, not_true_eq_false, true_and, and_true, false_and, and_false, and_self, true_implies, false_implies, implies_true, Option.toList_some, Option.toList_none, List.cons_append, List.nil_append, Nat.add_eq_zero_iff, a_nl_i, a_nl_r, a_nl_n, true_or, or_true, eq_self, a_isRA_22, a_isRA_24, a_isRA_32, a_isA_20, ok_4, ok_5, ok_6, ok_7, ok_9, ok_20, ok_21, ok_30, ok_50, ok_180, ok_192, ok_200]
    exact hP _ _ hZ
  · have h1 : i < m := Int32.not_le.mp h1
    have gn := gn h1
    have ha := gi.resolve_left gn
    have hi30 : i < 30 := by clear hN ih hP; grind
    have ih := ih hi30
    refine ⟨⟨q0, hi30⟩, ?_⟩
    have hp : 0 ≤ J (C + 1) 6 / 8 + 1 ∧ J (C + 1) 6 / 8 + 1 ≤ 210 := now8 hnow
    refine ck_placeFirst ha hT hp (by decide) (fun v2 J2 _ j2 => ?_)
    have z2 := cZ_L9 hZ j2
    have hT := j2.1
    have e6 : J2 (C + 22) 6 = m := by rw [j2.2 _ _ (by omega) (by omega) (by omega)]; exact h6
    have g4 := (hT.g_ask _ ha).2.2.1
    have hi := fun o u => ih J2 o u (by clear hN ih hP; grind) z2 e6
    have g29 : J2 (R (C + 23) i.toNatClampNeg) 4 < 30 := by clear hi hN ih hP hZ hT z2; grind
    simp only [q144_112, q144_113, q144_114, q144_117, q144_118, q144_121, q144_122, q144_125, q144_126, q144_129, q144_130, q144_133, q144_134, q144_137, q144_138, q144_141, q144_142, q144_145, q144_148, q144_151, k_22 hS, z_22, r_22_4 hS, k_25 hS, l_25 hS, z_25, r_22_5 hS, k_26 hS, l_26 hS, z_26, as_nil, as_i, as_r, Nat.reduceAdd, Nat.reduceLeDiff, z_eq0, z_eq1, z_or, z_em, Classical.not_not, not_false_eq_true, not_true_eq_false, true_and, and_true, false_and, and_false, and_self, true_implies, false_implies, implies_true, Option.toList_some, Option.toList_none, List.cons_append, List.nil_append, Nat.add_eq_zero_iff, a_nl_i, a_nl_r, a_nl_n, true_or, or_true, eq_self, a_isRA_22, a_isRA_24, a_isRA_32, a_isA_20, ok_4, ok_5, ok_6, ok_7, ok_9, ok_20, ok_21, ok_30, ok_50, ok_180, ok_192, ok_200, ha, gn]
    repeat' first
      | with_reducible apply And.intro
      | with_reducible intro _
      | exact hi _ _
      | exact g4.1
      | exact g29
theorem lk_planAgain_79 (hP : ∀ v n t K L J R, cZ9 C c n0 K0 L0 I0 R0 (n + 1) t K L J R → P (some (.int v)) (n + 1, t, K, L, J, R)) : ∀ i : Int32, i ≤ 30 → ∀ n t K L J R u w, 0 ≤ i → cZ9 C c n0 K0 L0 I0 R0 (n + 1) t K L J R → J (C + 22) 6 ≤ i → (∀ p, nnP C R (J (C + 22) 6) p) → a_at (d + 7) (a_xm a_m144) 7 [some (a_rf (C + 22)), some (.int i), u, w] [] (n + 1, t, K, L, J, R) P := by
  refine up_ind 30 (fun i hk ih => ?_)
  intro n t K L J R u w q0 hZ h6 hN
  have hT := hZ.2.1.1
  have hS := hT.s
  have gA := hT.g_asksR
  have gB := hT.g_benchesR
  have gX := hT.g_textsR
  have gc := hT.g_asks
  have gi := gA i.toNatClampNeg
  have go := hT.g_orderSize
  have hend := fun w => lk_planAgain_779 (d := d) (m := J (C + 22) 6) go.2 hN (fun v J h => hP v n t K L J R h) 0 (by decide) J 0 w (by decide) hZ rfl
  have hnext : i < 30 → ∀ n t K L J R u w, cZ9 C c n0 K0 L0 I0 R0 (n + 1) t K L J R → J (C + 22) 6 ≤ i + 1 → (∀ p, nnP C R (J (C + 22) 6) p) → a_at (d + 7) (a_xm a_m144) 67 [some (a_rf (C + 22)), some (.int i), u, w] [] (n + 1, t, K, L, J, R) P := fun hi n t K L J R u w z a6 aN => by
    simp only [q144_67, q144_70, as_nil, as_i, as_r, Nat.reduceAdd, Nat.reduceLeDiff, z_eq0, z_eq1, z_or, z_em, Classical.not_not, not_false_eq_true, not_true_eq_false, true_and, and_true, false_and, and_false, and_self, true_implies, false_implies, implies_true, Option.toList_some, Option.toList_none, List.cons_append, List.nil_append, Nat.add_eq_zero_iff, a_nl_i, a_nl_r, a_nl_n, true_or, or_true, eq_self, a_isRA_22, a_isRA_24, a_isRA_32, a_isA_20, ok_4, ok_5, ok_6, ok_7, ok_9, ok_20, ok_21, ok_30, ok_50, ok_180, ok_192, ok_200]
    exact ih hi n t K L J R u w (by clear hend ih hP; grind) z a6 aN
  rw [q144_7]
  simp only [q144_8, q144_9, q144_12, q144_15, q144_18, q144_19, q144_22, q144_23, k_22 hS, z_22, r_22_0 hS, k_14 hS, z_14, sp_askAt hS gA, as_nil, as_i, as_r, Nat.reduceAdd, Nat.reduceLeDiff, z_eq0, z_eq1, z_or, z_em, Classical.not_not, not_false_eq_true, not_true_eq_false, true_and, and_true, false_and, and_false, and_self, true_implies, false_implies, implies_true, Option.toList_some, Option.toList_none, List.cons_append, List.nil_append, Nat.add_eq_zero_iff, a_nl_i, a_nl_r, a_nl_n, true_or, or_true, eq_self, a_isRA_22, a_isRA_24, a_isRA_32, a_isA_20, ok_4, ok_5, ok_6, ok_7, ok_9, ok_20, ok_21, ok_30, ok_50, ok_180, ok_192, ok_200]
  refine ⟨fun h1 => ?_, fun h1 => ?_⟩
  · simp only [q144_73, q144_74, q144_75, q144_76, as_nil, as_i, as_r, Nat.reduceAdd, Nat.reduceLeDiff, z_eq0, z_eq1, z_or, z_em, Classical.not_not, not_false_eq_true, not_true_eq_false, true_and, and_true, false_and, and_false, and_self, true_implies, false_implies, implies_true, Option.toList_some, Option.toList_none, List.cons_append, List.nil_append, Nat.add_eq_zero_iff, a_nl_i, a_nl_r, a_nl_n, true_or, or_true, eq_self, a_isRA_22, a_isRA_24, a_isRA_32, a_isA_20, ok_4, ok_5, ok_6, ok_7, ok_9, ok_20, ok_21, ok_30, ok_50, ok_180, ok_192, ok_200]
    exact hend _
  · have hi : i < 30 := by clear hend ih hP hnext hN; grind
    have hsame := fun u w => hnext hi n t K L J R u w hZ (by clear hend ih hP hnext hN; grind) hN
    refine ⟨fun h2 => ?_, fun h2 => ?_⟩
    · simp only [q144_26, q144_27, q144_28, as_nil, as_i, as_r, Nat.reduceAdd, Nat.reduceLeDiff, z_eq0, z_eq1, z_or, z_em, Classical.not_not, not_false_eq_true, not_true_eq_false, true_and, and_true, false_and, and_false, and_self, true_implies, false_implies, implies_true, Option.toList_some, Option.toList_none, List.cons_append, List.nil_append, Nat.add_eq_zero_iff, a_nl_i, a_nl_r, a_nl_n, true_or, or_true, eq_self, a_isRA_22, a_isRA_24, a_isRA_32, a_isA_20, ok_4, ok_5, ok_6, ok_7, ok_9, ok_20, ok_21, ok_30, ok_50, ok_180, ok_192, ok_200]
      refine ⟨fun h3 => hsame _ _, fun h3 => ?_⟩
      have ha := gi.resolve_left h3
      have ga := hT.g_ask _ ha
      have na : ¬ R (C + 15) i.toNatClampNeg = C + 25 := by omega
      have nb : ¬ R (C + 15) i.toNatClampNeg = C + 26 := by omega
      simp only [q144_31, q144_32, q144_35, q144_36, q144_37, q144_40, q144_41, q144_42, q144_45, q144_46, q144_47, q144_50, q144_51, q144_52, q144_55, q144_56, k_22 hS, z_22, r_22_4 hS, k_25 hS, l_25 hS, z_25, r_22_5 hS, k_26 hS, l_26 hS, z_26, r_22_0 hS, k_14 hS, z_14, as_nil, as_i, as_r, Nat.reduceAdd, Nat.reduceLeDiff, z_eq0, z_eq1, z_or, z_em, Classical.not_not, not_false_eq_true, not_true_eq_false, true_and, and_true, false_and, and_false, and_self, true_implies, false_implies, implies_true, Option.toList_some, Option.toList_none, List.cons_append, List.nil_append, Nat.add_eq_zero_iff, a_nl_i, a_nl_r, a_nl_n, true_or, or_true, eq_self, a_isRA_22, a_isRA_24, a_isRA_32, a_isA_20, ok_4, ok_5, ok_6, ok_7, ok_9, ok_20, ok_21, ok_30, ok_50, ok_180, ok_192, ok_200, ui_ap, cc_ne, cc_n0, cc_0n, Nat.reduceEqDiff, reduceIte, if_true, if_false, ha, h3, na, nb]
      have z1 := cZ_G9 hZ (dG_269 (dG_259 (dG_refl9 hT) (k := i.toNatClampNeg) (v := J (R (C + 15) i.toNatClampNeg) 13)) (k := i.toNatClampNeg) (v := J (R (C + 15) i.toNatClampNeg) 14))
      refine ⟨⟨q0, hi⟩, ⟨q0, hi⟩, ?_⟩
      refine ck_clearUnfit ha z1.2.1 (fun v n' t' K' L' J' R' hH' hQ => ?_)
      have al := kn_lt hZ.2.1.2.1 ha (by decide)
      have hC := hZ.2.1.2.2.1
      have z2 := cZ_Q9 z1 hQ hH'
      have hS := hH'.1.s
      have ha' : K' (R (C + 15) i.toNatClampNeg) = 1 := by rw [hQ.2.1 _ al]; exact ha
      have k22 : K (C + 22) = 8 := k_22 hT.s
      have k23 : K (C + 23) = 22 := k_23 hT.s
      have e6 : J' (C + 22) 6 = J (C + 22) 6 := by
        rw [hQ.2.2.2.2 _ _ (by omega) (by omega) (by omega) (by omega), ui_ap, if_neg (by omega), ui_ap, if_neg (by omega)]
      have eN : ∀ p, nnP C R' (J' (C + 22) 6) p := fun p j h0 h1 h2 => by
        rw [e6] at h1
        rw [hQ.2.2.2.1 _ _ (by omega) (by rw [k23]; decide)]
        exact hN p j h0 h1 h2
      have h6' : J' (C + 22) 6 ≤ i + 1 := by rw [e6]; clear hend ih hP hnext hN hsame z1 z2 hZ hH' hQ hT; grind
      simp only [q144_59, q144_62, q144_63, q144_64, k_22 hS, z_22, as_nil, as_i, as_r, Nat.reduceAdd, Nat.reduceLeDiff, z_eq0, z_eq1, z_or, z_em, Classical.not_not, not_false_eq_true, not_true_eq_false, true_and, and_true, false_and, and_false, and_self, true_implies, false_implies, implies_true, Option.toList_some, Option.toList_none, List.cons_append, List.nil_append, Nat.add_eq_zero_iff, a_nl_i, a_nl_r, a_nl_n, true_or, or_true, eq_self, a_isRA_22, a_isRA_24, a_isRA_32, a_isA_20, ok_4, ok_5, ok_6, ok_7, ok_9, ok_20, ok_21, ok_30, ok_50, ok_180, ok_192, ok_200, ui_ap, cc_ne, cc_n0, cc_0n, Nat.reduceEqDiff, reduceIte, if_true, if_false, ha', h3]
      refine ⟨fun _ => hnext hi n' t' K' L' J' R' _ _ z2 h6' eN, fun _ => ?_⟩
      refine ck_enter9 (m := J' (C + 22) 6) ha' z2 rfl (by rw [e6]; clear hend ih hP hnext hN hsame z1 z2 hZ hH' hQ hT; grind) eN (fun J2 R2 z3 a6 a7 aN => ?_)
      exact hnext hi n' t' K' L' J2 R2 _ _ z3 (by rw [a6, e6]; clear hend ih hP hnext hN hsame z1 z2 hZ hH' hQ hT; grind) (by rw [a6]; exact aN)
    · simp only [q144_26, q144_27, q144_28, as_nil, as_i, as_r, Nat.reduceAdd, Nat.reduceLeDiff, z_eq0, z_eq1, z_or, z_em, Classical.not_not, not_false_eq_true, not_true_eq_false, true_and, and_true, false_and, and_false, and_self, true_implies, false_implies, implies_true, Option.toList_some, Option.toList_none, List.cons_append, List.nil_append, Nat.add_eq_zero_iff, a_nl_i, a_nl_r, a_nl_n, true_or, or_true, eq_self, a_isRA_22, a_isRA_24, a_isRA_32, a_isA_20, ok_4, ok_5, ok_6, ok_7, ok_9, ok_20, ok_21, ok_30, ok_50, ok_180, ok_192, ok_200]
      first
        | exact hsame _ _
        | exact ⟨fun _ => hsame _ _, fun h => absurd rfl h⟩
theorem ck_planAgain9 (hZ : cZ9 C c n0 K0 L0 I0 R0 (n + 1) t K L I R) (hP : ∀ v n t K L J R, cZ9 C c n0 K0 L0 I0 R0 (n + 1) t K L J R → P (some (.int v)) (n + 1, t, K, L, J, R)) : a_does (d + 8) 144 [a_rf (C + 22)] (n + 1, t, K, L, I, R) P := by
  have hT := hZ.2.1.1
  have hS := hT.s
  have z : cZ9 C c n0 K0 L0 I0 R0 (n + 1) t K L (a_ui I (C + 22) 6 0) R := cZ_G9 hZ (dG_Planner_orderSize9 (dG_refl9 hT) (by decide))
  have e6 : a_ui I (C + 22) 6 0 (C + 22) 6 = 0 := by rw [ui_ap, if_pos ⟨rfl, rfl⟩]
  have hl := fun u w => lk_planAgain_79 (d := d) hP 0 (by decide) n t K L _ R u w (by decide) z (by rw [e6]; decide) (by rw [e6]; exact nn_0)
  rw [a_enter1 (M := a_m144) rfl (a_cat_rf a_cat_nil) (show 1 ≤ 4 by decide)]
  show a_at _ (a_xm a_m144) 0 [some (a_rf (C + 22)), none, none, none] [] _ _
  simp only [q144_0, q144_1, q144_2, q144_5, q144_6, k_22 hS, z_22, as_nil, as_i, as_r, Nat.reduceAdd, Nat.reduceLeDiff, z_eq0, z_eq1, z_or, z_em, Classical.not_not, not_false_eq_true, not_true_eq_false, true_and, and_true, false_and, and_false, and_self, true_implies, false_implies, implies_true, Option.toList_some, Option.toList_none, List.cons_append, List.nil_append, Nat.add_eq_zero_iff, a_nl_i, a_nl_r, a_nl_n, true_or, or_true, eq_self, a_isRA_22, a_isRA_24, a_isRA_32, a_isA_20, ok_4, ok_5, ok_6, ok_7, ok_9, ok_20, ok_21, ok_30, ok_50, ok_180, ok_192, ok_200]
  exact hl _ _
end KE
/-! the class: the best -/
def dB9 (C : Nat) (K L : Nat → Nat) (R : Nat → Nat → Nat) (I J : Nat → Nat → Int32) : Prop := dG9 C K L R I J ∧ J (C + 27) 8 = I (C + 27) 8
section KF
variable {d n t C c n0 n' n'' t' : Nat} {K L K0 L0 K' L' K'' L'' : Nat → Nat} {I I0 J J0 J1 J2 : Nat → Nat → Int32} {R R0 R' R'' : Nat → Nat → Nat} {P : Option Value → AH → Prop}
theorem dB_refl9 (h : cT C K L I R) : dB9 C K L R I I := ⟨dG_refl9 h, rfl⟩
theorem dB_C9 (h : dB9 C K L R I0 I) (h2 : dC C K L R I J) : dB9 C K L R I0 J := ⟨dG_C9 h.1 h2, (h2.2 _ _ (by omega) (by omega)).trans h.2⟩
theorem dB_L9 (h : dB9 C K L R I0 I) (h2 : dL C K L R I J) : dB9 C K L R I0 J := ⟨dG_L9 h.1 h2, (h2.2 _ _ (by omega) (by omega) (by omega)).trans h.2⟩
theorem dB_299 (h : dB9 C K L R I J) {k : Nat} {v : Int32} : dB9 C K L R I (a_ui J (C + 29) k v) := ⟨dG_299 h.1, by rw [ui_ap, if_neg (by omega)]; exact h.2⟩
theorem dB_309 (h : dB9 C K L R I J) {k : Nat} {v : Int32} : dB9 C K L R I (a_ui J (C + 30) k v) := ⟨dG_309 h.1, by rw [ui_ap, if_neg (by omega)]; exact h.2⟩
theorem dB_319 (h : dB9 C K L R I J) {k : Nat} {v : Int32} (hv : 0 ≤ v ∧ v ≤ 48) : dB9 C K L R I (a_ui J (C + 31) k v) := ⟨dG_319 h.1 hv, by rw [ui_ap, if_neg (by omega)]; exact h.2⟩
theorem dB_329 (h : dB9 C K L R I J) {k : Nat} {v : Int32} : dB9 C K L R I (a_ui J (C + 32) k v) := ⟨dG_329 h.1, by rw [ui_ap, if_neg (by omega)]; exact h.2⟩
theorem dB_339 (h : dB9 C K L R I J) {k : Nat} {v : Int32} : dB9 C K L R I (a_ui J (C + 33) k v) := ⟨dG_339 h.1, by rw [ui_ap, if_neg (by omega)]; exact h.2⟩
theorem dB_sum9 (h : dB9 C K L R I J) {v : Int32} : dB9 C K L R I (a_ui J (C + 27) 9 v) := ⟨dG_Best_sum9 h.1, by rw [ui_ap, if_neg (by omega)]; exact h.2⟩
theorem dB_349 (h : dB9 C K L R I J) {a sp dp m : Nat} : dB9 C K L R I (a_ci J a (C + 34) sp dp m) := ⟨⟨sT_34 h.1.1 (fun x j e => ci_ne e), fun x j p => by rw [ci_ne (by unfold eD9 eD at p; omega)]; exact h.1.2 x j p⟩, by rw [ci_ne (by omega)]; exact h.2⟩
theorem lk_collectIn_109 {i : Int32} (hi : 0 ≤ i ∧ i < 4) (hn : ¬ R (C + 28) i.toNatClampNeg = 0) {s : Int32} (hP : ∀ J, dB9 C K L R I0 J → P none (n, t, K, L, J, R)) : ∀ b : Int32, b ≤ 6 → ∀ J u w, 0 ≤ b → dB9 C K L R I0 J → a_at (d + 6) (a_xm a_m134) 10 [some (a_rf (C + 27)), some (.int i), some (.int s), some (a_rf (R (C + 28) i.toNatClampNeg)), some (.int b), u, w] [] (n, t, K, L, J, R) P := by
  refine up_ind 6 (fun b hk ih => ?_)
  intro J u w q0 hB
  have hT := hB.1.1
  have hS := hT.s
  have ha := (hT.g_bestR i.toNatClampNeg).resolve_left hn
  have gc := hT.g_benches
  have hnext : b < 6 → ∀ J u w, dB9 C K L R I0 J → a_at (d + 6) (a_xm a_m134) 125 [some (a_rf (C + 27)), some (.int i), some (.int s), some (a_rf (R (C + 28) i.toNatClampNeg)), some (.int b), u, w] [] (n, t, K, L, J, R) P := fun h J u w hJ => by
    simp only [q134_125, q134_128, as_nil, as_i, as_r, Nat.reduceAdd, Nat.reduceLeDiff, z_eq0, z_eq1, z_or, z_em, Classical.not_not, not_false_eq_true, not_true_eq_false, true_and, and_true, false_and, and_false, and_self, true_implies, false_implies, implies_true, Option.toList_some, Option.toList_none, List.cons_append, List.nil_append, Nat.add_eq_zero_iff, a_nl_i, a_nl_r, a_nl_n, true_or, or_true, eq_self, a_isRA_22, a_isRA_24, a_isRA_32, a_isA_20, ok_4, ok_5, ok_6, ok_7, ok_9, ok_20, ok_21, ok_30, ok_50, ok_180, ok_192, ok_200]
    exact ih h J u w (by clear ih hP; grind) hJ
  rw [q134_10]
  simp only [q134_12, q134_13, q134_16, q134_19, q134_22, q134_23, q134_26, q134_27, q134_29, q134_30, k_27 hS, z_27, r_27_0 hS, k_14 hS, z_14, as_nil, as_i, as_r, Nat.reduceAdd, Nat.reduceLeDiff, z_eq0, z_eq1, z_or, z_em, Classical.not_not, not_false_eq_true, not_true_eq_false, true_and, and_true, false_and, and_false, and_self, true_implies, false_implies, implies_true, Option.toList_some, Option.toList_none, List.cons_append, List.nil_append, Nat.add_eq_zero_iff, a_nl_i, a_nl_r, a_nl_n, true_or, or_true, eq_self, a_isRA_22, a_isRA_24, a_isRA_32, a_isA_20, ok_4, ok_5, ok_6, ok_7, ok_9, ok_20, ok_21, ok_30, ok_50, ok_180, ok_192, ok_200, ha, hn]
  refine ⟨fun h1 => ?_, fun h1 => ?_⟩
  · simp only [q134_131, as_nil, as_i, as_r, Nat.reduceAdd, Nat.reduceLeDiff, z_eq0, z_eq1, z_or, z_em, Classical.not_not, not_false_eq_true, not_true_eq_false, true_and, and_true, false_and, and_false, and_self, true_implies, false_implies, implies_true, Option.toList_some, Option.toList_none, List.cons_append, List.nil_append, Nat.add_eq_zero_iff, a_nl_i, a_nl_r, a_nl_n, true_or, or_true, eq_self, a_isRA_22, a_isRA_24, a_isRA_32, a_isA_20, ok_4, ok_5, ok_6, ok_7, ok_9, ok_20, ok_21, ok_30, ok_50, ok_180, ok_192, ok_200]
    exact hP J hB
  · have hb : b < 6 := by clear ih hP hnext; grind
    have hnext := hnext hb
    refine ck_suits ha hT (fun v J1 j1 => ?_)
    have b1 := dB_C9 hB j1
    have hT1 := j1.1
    have g31 := hT1.g_spots i.toNatClampNeg
    simp only [q134_33, q134_36, q134_37, q134_40, q134_41, q134_42, q134_44, q134_47, q134_50, q134_51, q134_54, q134_55, q134_57, q134_58, k_27 hS, z_27, r_27_4 hS, k_31 hS, l_31 hS, z_31, r_27_0 hS, k_14 hS, z_14, as_nil, as_i, as_r, Nat.reduceAdd, Nat.reduceLeDiff, z_eq0, z_eq1, z_or, z_em, Classical.not_not, not_false_eq_true, not_true_eq_false, true_and, and_true, false_and, and_false, and_self, true_implies, false_implies, implies_true, Option.toList_some, Option.toList_none, List.cons_append, List.nil_append, Nat.add_eq_zero_iff, a_nl_i, a_nl_r, a_nl_n, true_or, or_true, eq_self, a_isRA_22, a_isRA_24, a_isRA_32, a_isA_20, ok_4, ok_5, ok_6, ok_7, ok_9, ok_20, ok_21, ok_30, ok_50, ok_180, ok_192, ok_200, ha, hn]
    refine ⟨fun _ => hnext J1 u w b1, fun _ => ⟨hi, fun h3 => ?_, fun h3 => ?_⟩⟩
    · refine ck_watchOf ha hT1 (fun v2 J2 j2 => ?_)
      have b2 := dB_C9 b1 j2
      have hT2 := j2.1
      have e31 : J2 (C + 31) i.toNatClampNeg = J1 (C + 31) i.toNatClampNeg := j2.2 _ _ (by omega) (by omega)
      have hx := ix48 hi (c := J1 (C + 31) i.toNatClampNeg) ⟨g31.1, h3⟩
      simp only [q134_61, q134_63, q134_64, q134_67, q134_68, q134_70, q134_71, q134_73, k_27 hS, z_27, r_27_0 hS, k_14 hS, z_14, as_nil, as_i, as_r, Nat.reduceAdd, Nat.reduceLeDiff, z_eq0, z_eq1, z_or, z_em, Classical.not_not, not_false_eq_true, not_true_eq_false, true_and, and_true, false_and, and_false, and_self, true_implies, false_implies, implies_true, Option.toList_some, Option.toList_none, List.cons_append, List.nil_append, Nat.add_eq_zero_iff, a_nl_i, a_nl_r, a_nl_n, true_or, or_true, eq_self, a_isRA_22, a_isRA_24, a_isRA_32, a_isA_20, ok_4, ok_5, ok_6, ok_7, ok_9, ok_20, ok_21, ok_30, ok_50, ok_180, ok_192, ok_200, ha, hn]
      refine ck_isOpen ha hT2 (fun v3 _ => ?_)
      have bf := dB_319 (dB_309 (dB_299 b2 (k := (i * 48 + J1 (C + 31) i.toNatClampNeg).toNatClampNeg) (v := 8 * s + b)) (k := (i * 48 + J1 (C + 31) i.toNatClampNeg).toNatClampNeg) (v := v2)) (k := i.toNatClampNeg) (v := J1 (C + 31) i.toNatClampNeg + 1) (by clear ih hP hnext hT hT1 hT2 hB b1 b2; grind)
      simp only [q134_76, q134_79, q134_80, q134_82, q134_83, q134_84, q134_87, q134_88, q134_89, q134_90, q134_92, q134_93, q134_96, q134_98, q134_100, q134_101, q134_102, q134_104, q134_105, q134_106, q134_107, q134_110, q134_112, q134_114, q134_115, q134_116, q134_119, q134_120, q134_121, q134_122, q134_123, q134_124, k_27 hS, z_27, r_27_4 hS, k_31 hS, l_31 hS, z_31, r_27_2 hS, k_29 hS, l_29 hS, z_29, r_27_3 hS, k_30 hS, l_30 hS, z_30, as_nil, as_i, as_r, Nat.reduceAdd, Nat.reduceLeDiff, z_eq0, z_eq1, z_or, z_em, Classical.not_not, not_false_eq_true, not_true_eq_false, true_and, and_true, false_and, and_false, and_self, true_implies, false_implies, implies_true, Option.toList_some, Option.toList_none, List.cons_append, List.nil_append, Nat.add_eq_zero_iff, a_nl_i, a_nl_r, a_nl_n, true_or, or_true, eq_self, a_isRA_22, a_isRA_24, a_isRA_32, a_isA_20, ok_4, ok_5, ok_6, ok_7, ok_9, ok_20, ok_21, ok_30, ok_50, ok_180, ok_192, ok_200, ui_ap, cc_ne, cc_n0, cc_0n, Nat.reduceEqDiff, reduceIte, if_true, if_false, e31]
      repeat' first
        | with_reducible apply And.intro
        | with_reducible intro _
        | exact hi.1
        | exact hi.2
        | exact hx.1
        | exact hx.2
        | exact hnext _ _ _ bf
        | exact hnext _ _ _ b2
    · exact hnext J1 u w b1
theorem ck_collectIn9 {i : Int32} (hi : 0 ≤ i ∧ i < 4) (hn : ¬ R (C + 28) i.toNatClampNeg = 0) (hB : dB9 C K L R I0 I) {s : Int32} (hP : ∀ J, dB9 C K L R I0 J → P none (n, t, K, L, J, R)) : a_does (d + 7) 134 [a_rf (C + 27), .int i, .int s] (n, t, K, L, I, R) P := by
  have hT := hB.1.1
  have hS := hT.s
  have ha := (hT.g_bestR i.toNatClampNeg).resolve_left hn
  have hl := fun u w => lk_collectIn_109 (d := d) hi hn (s := s) hP 0 (by decide) I u w (by decide) hB
  rw [a_enter1 (M := a_m134) rfl (a_cat_rf (a_cat_int (a_cat_int a_cat_nil))) (show 3 ≤ 7 by decide)]
  show a_at _ (a_xm a_m134) 0 [some (a_rf (C + 27)), some (.int i), some (.int s), none, none, none, none] [] _ _
  simp only [q134_0, q134_1, q134_4, q134_5, q134_6, q134_7, q134_8, k_27 hS, z_27, r_27_1 hS, k_28 hS, l_28 hS, z_28, as_nil, as_i, as_r, Nat.reduceAdd, Nat.reduceLeDiff, z_eq0, z_eq1, z_or, z_em, Classical.not_not, not_false_eq_true, not_true_eq_false, true_and, and_true, false_and, and_false, and_self, true_implies, false_implies, implies_true, Option.toList_some, Option.toList_none, List.cons_append, List.nil_append, Nat.add_eq_zero_iff, a_nl_i, a_nl_r, a_nl_n, true_or, or_true, eq_self, a_isRA_22, a_isRA_24, a_isRA_32, a_isA_20, ok_4, ok_5, ok_6, ok_7, ok_9, ok_20, ok_21, ok_30, ok_50, ok_180, ok_192, ok_200]
  exact ⟨hi, hl _ _⟩
theorem lk_collect_479 {i : Int32} (hi : 0 ≤ i ∧ i < 4) (hn : ¬ R (C + 28) i.toNatClampNeg = 0) {p q r w : Int32} (hq : q ≤ 199) (hP : ∀ J, dB9 C K L R I0 J → P none (n, t, K, L, J, R)) : ∀ s : Int32, s ≤ 210 → ∀ J, 0 ≤ s → dB9 C K L R I0 J → a_at (d + 7) (a_xm a_m133) 47 [some (a_rf (C + 27)), some (.int i), some (.int p), some (.int q), some (.int r), some (a_rf (R (C + 28) i.toNatClampNeg)), some (.int w), some (.int s)] [] (n, t, K, L, J, R) P := by
  refine up_ind 210 (fun s hk ih => ?_)
  intro J q0 hB
  have hT := hB.1.1
  have hS := hT.s
  have ha := (hT.g_bestR i.toNatClampNeg).resolve_left hn
  have a2 := (hT.g_ask _ ha).2.1
  rw [q133_47]
  simp only [q133_49, q133_51, q133_54, q133_55, q133_56, q133_57, q133_58, k_27 hS, z_27, as_nil, as_i, as_r, Nat.reduceAdd, Nat.reduceLeDiff, z_eq0, z_eq1, z_or, z_em, Classical.not_not, not_false_eq_true, not_true_eq_false, true_and, and_true, false_and, and_false, and_self, true_implies, false_implies, implies_true, Option.toList_some, Option.toList_none, List.cons_append, List.nil_append, Nat.add_eq_zero_iff, a_nl_i, a_nl_r, a_nl_n, true_or, or_true, eq_self, a_isRA_22, a_isRA_24, a_isRA_32, a_isA_20, ok_4, ok_5, ok_6, ok_7, ok_9, ok_20, ok_21, ok_30, ok_50, ok_180, ok_192, ok_200, ha, hn]
  refine ⟨fun h1 => ?_, fun h1 => ?_⟩
  · simp only [q133_93, as_nil, as_i, as_r, Nat.reduceAdd, Nat.reduceLeDiff, z_eq0, z_eq1, z_or, z_em, Classical.not_not, not_false_eq_true, not_true_eq_false, true_and, and_true, false_and, and_false, and_self, true_implies, false_implies, implies_true, Option.toList_some, Option.toList_none, List.cons_append, List.nil_append, Nat.add_eq_zero_iff, a_nl_i, a_nl_r, a_nl_n, true_or, or_true, eq_self, a_isRA_22, a_isRA_24, a_isRA_32, a_isA_20, ok_4, ok_5, ok_6, ok_7, ok_9, ok_20, ok_21, ok_30, ok_50, ok_180, ok_192, ok_200]
    exact hP J hB
  · obtain ⟨g1, g2⟩ := pf_next q0 hk a2 hq h1
    have ih := ih g1
    have hnext : ∀ J, dB9 C K L R I0 J → a_at (d + 7) (a_xm a_m133) 87 [some (a_rf (C + 27)), some (.int i), some (.int p), some (.int q), some (.int r), some (a_rf (R (C + 28) i.toNatClampNeg)), some (.int w), some (.int s)] [] (n, t, K, L, J, R) P := fun J hJ => by
      simp only [q133_87, q133_90, as_nil, as_i, as_r, Nat.reduceAdd, Nat.reduceLeDiff, z_eq0, z_eq1, z_or, z_em, Classical.not_not, not_false_eq_true, not_true_eq_false, true_and, and_true, false_and, and_false, and_self, true_implies, false_implies, implies_true, Option.toList_some, Option.toList_none, List.cons_append, List.nil_append, Nat.add_eq_zero_iff, a_nl_i, a_nl_r, a_nl_n, true_or, or_true, eq_self, a_isRA_22, a_isRA_24, a_isRA_32, a_isA_20, ok_4, ok_5, ok_6, ok_7, ok_9, ok_20, ok_21, ok_30, ok_50, ok_180, ok_192, ok_200]
      exact ih J g2 hJ
    have hc : a_at (d + 7) (a_xm a_m133) 80 [some (a_rf (C + 27)), some (.int i), some (.int p), some (.int q), some (.int r), some (a_rf (R (C + 28) i.toNatClampNeg)), some (.int w), some (.int s)] [] (n, t, K, L, J, R) P := by
      simp only [q133_80, q133_81, q133_82, q133_84, k_27 hS, z_27, as_nil, as_i, as_r, Nat.reduceAdd, Nat.reduceLeDiff, z_eq0, z_eq1, z_or, z_em, Classical.not_not, not_false_eq_true, not_true_eq_false, true_and, and_true, false_and, and_false, and_self, true_implies, false_implies, implies_true, Option.toList_some, Option.toList_none, List.cons_append, List.nil_append, Nat.add_eq_zero_iff, a_nl_i, a_nl_r, a_nl_n, true_or, or_true, eq_self, a_isRA_22, a_isRA_24, a_isRA_32, a_isA_20, ok_4, ok_5, ok_6, ok_7, ok_9, ok_20, ok_21, ok_30, ok_50, ok_180, ok_192, ok_200]
      exact ck_collectIn9 hi hn hB hnext
    simp only [q133_61, q133_63, q133_66, q133_67, q133_70, q133_72, q133_74, k_27 hS, z_27, r_27_0 hS, k_14 hS, z_14, as_nil, as_i, as_r, Nat.reduceAdd, Nat.reduceLeDiff, z_eq0, z_eq1, z_or, z_em, Classical.not_not, not_false_eq_true, not_true_eq_false, true_and, and_true, false_and, and_false, and_self, true_implies, false_implies, implies_true, Option.toList_some, Option.toList_none, List.cons_append, List.nil_append, Nat.add_eq_zero_iff, a_nl_i, a_nl_r, a_nl_n, true_or, or_true, eq_self, a_isRA_22, a_isRA_24, a_isRA_32, a_isA_20, ok_4, ok_5, ok_6, ok_7, ok_9, ok_20, ok_21, ok_30, ok_50, ok_180, ok_192, ok_200, ha, hn]
    refine ⟨fun _ => hc, fun _ => ck_isTooNear ha hT (fun v => ?_)⟩
    simp only [q133_77, as_nil, as_i, as_r, Nat.reduceAdd, Nat.reduceLeDiff, z_eq0, z_eq1, z_or, z_em, Classical.not_not, not_false_eq_true, not_true_eq_false, true_and, and_true, false_and, and_false, and_self, true_implies, false_implies, implies_true, Option.toList_some, Option.toList_none, List.cons_append, List.nil_append, Nat.add_eq_zero_iff, a_nl_i, a_nl_r, a_nl_n, true_or, or_true, eq_self, a_isRA_22, a_isRA_24, a_isRA_32, a_isA_20, ok_4, ok_5, ok_6, ok_7, ok_9, ok_20, ok_21, ok_30, ok_50, ok_180, ok_192, ok_200]
    exact ⟨fun _ => hnext J hB, fun _ => hc⟩
theorem ck_collect9 {i : Int32} (hi : 0 ≤ i ∧ i < 4) (hn : ¬ R (C + 28) i.toNatClampNeg = 0) (hB : dB9 C K L R I0 I) {p q r : Int32} (hp : 0 ≤ p ∧ p ≤ 210) (hq : q ≤ 199) (hP : ∀ J, dB9 C K L R I0 J → P none (n, t, K, L, J, R)) : a_does (d + 8) 133 [a_rf (C + 27), .int i, .int p, .int q, .int r] (n, t, K, L, I, R) P := by
  have hT := hB.1.1
  have hS := hT.s
  have ha := (hT.g_bestR i.toNatClampNeg).resolve_left hn
  have hB1 := dB_319 (k := i.toNatClampNeg) (v := 0) hB (by decide)
  have hl := fun w => lk_collect_479 (d := d) hi hn (p := p) (r := r) (w := w) hq hP p hp.2 _ hp.1 hB1
  have g := (hT.g_ask _ ha).1
  have na : ¬ R (C + 28) i.toNatClampNeg = C + 31 := by omega
  rw [a_enter1 (M := a_m133) rfl (a_cat_rf (a_cat_int (a_cat_int (a_cat_int (a_cat_int a_cat_nil))))) (show 5 ≤ 8 by decide)]
  show a_at _ (a_xm a_m133) 0 [some (a_rf (C + 27)), some (.int i), some (.int p), some (.int q), some (.int r), none, none, none] [] _ _
  repeat' first
    | with_reducible apply And.intro
    | with_reducible assumption
    | with_reducible intro _
    | with_reducible apply hl
    | with_reducible apply ck_isIn
    | simp only [q133_0, q133_1, q133_4, q133_5, q133_6, q133_8, q133_9, q133_12, q133_13, q133_14, q133_15, q133_17, q133_20, q133_21, q133_24, q133_26, q133_28, q133_31, q133_34, q133_37, q133_38, q133_41, q133_42, q133_44, q133_45, k_27 hS, z_27, r_27_1 hS, k_28 hS, l_28 hS, z_28, r_27_4 hS, k_31 hS, l_31 hS, z_31, as_nil, as_i, as_r, Nat.reduceAdd, Nat.reduceLeDiff, z_eq0, z_eq1, z_or, z_em, Classical.not_not, not_false_eq_true, not_true_eq_false, true_and, and_true, false_and, and_false, and_self, true_implies, false_implies, implies_true, Option.toList_some, Option.toList_none, List.cons_append, List.nil_append, Nat.add_eq_zero_iff, a_nl_i, a_nl_r, a_nl_n, true_or, or_true, eq_self, a_isRA_22, a_isRA_24, a_isRA_32, a_isA_20, ok_4, ok_5, ok_6, ok_7, ok_9, ok_20, ok_21, ok_30, ok_50, ok_180, ok_192, ok_200, ha, hn, na, ui_ap, cc_ne, cc_n0, cc_0n, Nat.reduceEqDiff, reduceIte, if_true, if_false]
  all_goals ((try clear ih); (try clear hP); (try clear hl); (try clear hq); (try clear a3); grind [ui_ap])
def kEX9 (C n t : Nat) (K L : Nat → Nat) (R : Nat → Nat → Nat) (I0 : Nat → Nat → Int32) (z : Nat) : Prop := ∀ (at_ : Int32) (sf : Int32) (I : Nat → Nat → Int32) (D : Nat) (P : Option Value → AH → Prop), 0 ≤ at_ → at_.toInt + z = (I0 (C + 27) 8).toInt → z + 20 ≤ D → dB9 C K L R I0 I → (∀ J, dB9 C K L R I0 J → P none (n, t, K, L, J, R)) → a_does D 138 [a_rf (C + 27), .int at_, .int sf] (n, t, K, L, I, R) P
theorem lk_extend_719 {E : Nat} {i sf w : Int32} (hi : 0 ≤ i ∧ i < 4) (hn : ¬ R (C + 28) i.toNatClampNeg = 0) (hr : ∀ (sf : Int32) (J : Nat → Nat → Int32) (P : Option Value → AH → Prop), dB9 C K L R I0 J → (∀ J, dB9 C K L R I0 J → P none (n, t, K, L, J, R)) → a_does (E + 19) 138 [a_rf (C + 27), .int (i + 1), .int sf] (n, t, K, L, J, R) P) (hP : ∀ J, dB9 C K L R I0 J → P none (n, t, K, L, J, R)) : ∀ k : Int32, k ≤ 48 → ∀ J u1 u2, 0 ≤ k → dB9 C K L R I0 J → a_at (E + 19) (a_xm a_m138) 71 [some (a_rf (C + 27)), some (.int i), some (.int sf), some (a_rf (R (C + 28) i.toNatClampNeg)), some (.int w), some (.int k), u1, u2] [] (n, t, K, L, J, R) P := by
  refine up_ind 48 (fun k hk ih => ?_)
  intro J u1 u2 q0 hB
  have hT := hB.1.1
  have hS := hT.s
  have ha := (hT.g_bestR i.toNatClampNeg).resolve_left hn
  have g31 := hT.g_spots i.toNatClampNeg
  have n8 : ¬ (8 : Int32) = 0 := by decide
  have hi5 : 0 ≤ i + 1 ∧ i + 1 < 5 := by clear hr hP ih; grind
  have hend : ∀ u1 u2, a_at (E + 19) (a_xm a_m138) 218 [some (a_rf (C + 27)), some (.int i), some (.int sf), some (a_rf (R (C + 28) i.toNatClampNeg)), some (.int w), some (.int k), u1, u2] [] (n, t, K, L, J, R) P := fun u1 u2 => by
    simp only [q138_218, q138_219, q138_222, q138_223, q138_225, q138_226, q138_227, q138_228, q138_229, q138_230, q138_231, k_27 hS, z_27, r_27_6 hS, k_33 hS, l_33 hS, z_33, as_nil, as_i, as_r, Nat.reduceAdd, Nat.reduceLeDiff, z_eq0, z_eq1, z_or, z_em, Classical.not_not, not_false_eq_true, not_true_eq_false, true_and, and_true, false_and, and_false, and_self, true_implies, false_implies, implies_true, Option.toList_some, Option.toList_none, List.cons_append, List.nil_append, Nat.add_eq_zero_iff, a_nl_i, a_nl_r, a_nl_n, true_or, or_true, eq_self, a_isRA_22, a_isRA_24, a_isRA_32, a_isA_20, ok_4, ok_5, ok_6, ok_7, ok_9, ok_20, ok_21, ok_30, ok_50, ok_180, ok_192, ok_200, ui_ap, cc_ne, cc_n0, cc_0n, Nat.reduceEqDiff, reduceIte, if_true, if_false]
    refine ⟨hi, hr _ _ _ (dB_339 hB) (fun J2 b2 => ?_)⟩
    simp only [q138_234, as_nil, as_i, as_r, Nat.reduceAdd, Nat.reduceLeDiff, z_eq0, z_eq1, z_or, z_em, Classical.not_not, not_false_eq_true, not_true_eq_false, true_and, and_true, false_and, and_false, and_self, true_implies, false_implies, implies_true, Option.toList_some, Option.toList_none, List.cons_append, List.nil_append, Nat.add_eq_zero_iff, a_nl_i, a_nl_r, a_nl_n, true_or, or_true, eq_self, a_isRA_22, a_isRA_24, a_isRA_32, a_isA_20, ok_4, ok_5, ok_6, ok_7, ok_9, ok_20, ok_21, ok_30, ok_50, ok_180, ok_192, ok_200, ui_ap, cc_ne, cc_n0, cc_0n, Nat.reduceEqDiff, reduceIte, if_true, if_false]
    exact hP J2 b2
  have hnext : k < 48 → ∀ J u1 u2, dB9 C K L R I0 J → a_at (E + 19) (a_xm a_m138) 212 [some (a_rf (C + 27)), some (.int i), some (.int sf), some (a_rf (R (C + 28) i.toNatClampNeg)), some (.int w), some (.int k), u1, u2] [] (n, t, K, L, J, R) P := fun h J u1 u2 hJ => by
    simp only [q138_212, q138_215, as_nil, as_i, as_r, Nat.reduceAdd, Nat.reduceLeDiff, z_eq0, z_eq1, z_or, z_em, Classical.not_not, not_false_eq_true, not_true_eq_false, true_and, and_true, false_and, and_false, and_self, true_implies, false_implies, implies_true, Option.toList_some, Option.toList_none, List.cons_append, List.nil_append, Nat.add_eq_zero_iff, a_nl_i, a_nl_r, a_nl_n, true_or, or_true, eq_self, a_isRA_22, a_isRA_24, a_isRA_32, a_isA_20, ok_4, ok_5, ok_6, ok_7, ok_9, ok_20, ok_21, ok_30, ok_50, ok_180, ok_192, ok_200]
    exact ih h J u1 u2 (by clear hr ih hP; grind) hJ
  rw [q138_71]
  simp only [q138_73, q138_74, q138_77, q138_78, q138_79, q138_82, q138_84, q138_85, q138_88, q138_89, q138_90, q138_91, q138_92, q138_93, q138_94, q138_97, k_27 hS, z_27, r_27_4 hS, k_31 hS, l_31 hS, z_31, r_27_5 hS, k_32 hS, l_32 hS, z_32, as_nil, as_i, as_r, Nat.reduceAdd, Nat.reduceLeDiff, z_eq0, z_eq1, z_or, z_em, Classical.not_not, not_false_eq_true, not_true_eq_false, true_and, and_true, false_and, and_false, and_self, true_implies, false_implies, implies_true, Option.toList_some, Option.toList_none, List.cons_append, List.nil_append, Nat.add_eq_zero_iff, a_nl_i, a_nl_r, a_nl_n, true_or, or_true, eq_self, a_isRA_22, a_isRA_24, a_isRA_32, a_isA_20, ok_4, ok_5, ok_6, ok_7, ok_9, ok_20, ok_21, ok_30, ok_50, ok_180, ok_192, ok_200]
  refine ⟨hi, fun h1 => hend _ _, fun h1 => ⟨hi5, fun h2 => hend _ _, fun h2 => ?_⟩⟩
  have hk8 : k < 48 := by clear hr ih hP hend hnext; grind
  have hx := ix48 hi (c := k) ⟨q0, hk8⟩
  have hnext := hnext hk8
  simp only [q138_100, q138_101, q138_104, q138_105, q138_107, q138_108, q138_110, q138_111, q138_112, q138_114, q138_115, q138_118, q138_119, q138_121, q138_122, q138_124, q138_125, q138_126, q138_128, q138_129, q138_132, q138_133, q138_135, q138_137, q138_138, k_27 hS, z_27, r_27_2 hS, k_29 hS, l_29 hS, z_29, r_27_3 hS, k_30 hS, l_30 hS, z_30, r_27_0 hS, k_14 hS, z_14, as_nil, as_i, as_r, Nat.reduceAdd, Nat.reduceLeDiff, z_eq0, z_eq1, z_or, z_em, Classical.not_not, not_false_eq_true, not_true_eq_false, true_and, and_true, false_and, and_false, and_self, true_implies, false_implies, implies_true, Option.toList_some, Option.toList_none, List.cons_append, List.nil_append, Nat.add_eq_zero_iff, a_nl_i, a_nl_r, a_nl_n, true_or, or_true, eq_self, a_isRA_22, a_isRA_24, a_isRA_32, a_isA_20, ok_4, ok_5, ok_6, ok_7, ok_9, ok_20, ok_21, ok_30, ok_50, ok_180, ok_192, ok_200, ha, hn, n8]
  refine ⟨hx, hx, ?_⟩
  refine ck_isTooNear ha hT (fun v => ?_)
  simp only [q138_141, q138_144, q138_145, q138_148, q138_149, q138_151, q138_153, q138_154, q138_156, q138_158, q138_159, q138_161, k_27 hS, z_27, r_27_0 hS, k_14 hS, z_14, as_nil, as_i, as_r, Nat.reduceAdd, Nat.reduceLeDiff, z_eq0, z_eq1, z_or, z_em, Classical.not_not, not_false_eq_true, not_true_eq_false, true_and, and_true, false_and, and_false, and_self, true_implies, false_implies, implies_true, Option.toList_some, Option.toList_none, List.cons_append, List.nil_append, Nat.add_eq_zero_iff, a_nl_i, a_nl_r, a_nl_n, true_or, or_true, eq_self, a_isRA_22, a_isRA_24, a_isRA_32, a_isA_20, ok_4, ok_5, ok_6, ok_7, ok_9, ok_20, ok_21, ok_30, ok_50, ok_180, ok_192, ok_200, ha, hn, n8]
  refine ⟨fun _ => hnext _ _ _ hB, fun _ => ?_⟩
  refine ck_isOpen ha hT (fun v2 hf => ?_)
  simp only [q138_164, q138_167, q138_168, q138_171, q138_172, q138_174, q138_176, q138_177, q138_179, q138_181, q138_182, q138_184, k_27 hS, z_27, r_27_0 hS, k_14 hS, z_14, as_nil, as_i, as_r, Nat.reduceAdd, Nat.reduceLeDiff, z_eq0, z_eq1, z_or, z_em, Classical.not_not, not_false_eq_true, not_true_eq_false, true_and, and_true, false_and, and_false, and_self, true_implies, false_implies, implies_true, Option.toList_some, Option.toList_none, List.cons_append, List.nil_append, Nat.add_eq_zero_iff, a_nl_i, a_nl_r, a_nl_n, true_or, or_true, eq_self, a_isRA_22, a_isRA_24, a_isRA_32, a_isA_20, ok_4, ok_5, ok_6, ok_7, ok_9, ok_20, ok_21, ok_30, ok_50, ok_180, ok_192, ok_200, ha, hn, n8]
  refine ⟨fun _ => hnext _ _ _ hB, fun h3 => ?_⟩
  refine ck_lay ha hT (hf h3) (fun J2 j2 => ?_)
  have b2 := dB_L9 hB j2
  simp only [q138_187, q138_188, q138_191, q138_192, q138_194, q138_195, q138_196, q138_197, q138_198, q138_199, q138_201, k_27 hS, z_27, r_27_6 hS, k_33 hS, l_33 hS, z_33, as_nil, as_i, as_r, Nat.reduceAdd, Nat.reduceLeDiff, z_eq0, z_eq1, z_or, z_em, Classical.not_not, not_false_eq_true, not_true_eq_false, true_and, and_true, false_and, and_false, and_self, true_implies, false_implies, implies_true, Option.toList_some, Option.toList_none, List.cons_append, List.nil_append, Nat.add_eq_zero_iff, a_nl_i, a_nl_r, a_nl_n, true_or, or_true, eq_self, a_isRA_22, a_isRA_24, a_isRA_32, a_isA_20, ok_4, ok_5, ok_6, ok_7, ok_9, ok_20, ok_21, ok_30, ok_50, ok_180, ok_192, ok_200]
  refine ⟨hi, hr _ _ _ (dB_339 b2) (fun J3 b3 => ?_)⟩
  have hT3 := b3.1.1
  simp only [q138_204, q138_205, q138_208, q138_209, k_27 hS, z_27, r_27_0 hS, k_14 hS, z_14, as_nil, as_i, as_r, Nat.reduceAdd, Nat.reduceLeDiff, z_eq0, z_eq1, z_or, z_em, Classical.not_not, not_false_eq_true, not_true_eq_false, true_and, and_true, false_and, and_false, and_self, true_implies, false_implies, implies_true, Option.toList_some, Option.toList_none, List.cons_append, List.nil_append, Nat.add_eq_zero_iff, a_nl_i, a_nl_r, a_nl_n, true_or, or_true, eq_self, a_isRA_22, a_isRA_24, a_isRA_32, a_isA_20, ok_4, ok_5, ok_6, ok_7, ok_9, ok_20, ok_21, ok_30, ok_50, ok_180, ok_192, ok_200]
  refine ck_lift ha hT3 (fun J4 j4 => ?_)
  exact hnext _ _ _ (dB_L9 b3 j4)
theorem kEX_all9 (hN : bnP C R (I0 (C + 27) 8)) (hT0 : cT C K L I0 R) : ∀ z, kEX9 C n t K L R I0 z := by
  intro z
  have gs := hT0.g_best
  have s0 := Int32.le_iff_toInt_le.mp gs.1
  have s1 := Int32.le_iff_toInt_le.mp gs.2
  have c0 : (0 : Int32).toInt = 0 := rfl
  have c1 : (1 : Int32).toInt = 1 := rfl
  have c4 : (4 : Int32).toInt = 4 := rfl
  induction z with
  | zero =>
    intro i sf I D P h0 h1 h2 hB hP
    obtain ⟨E, rfl⟩ : ∃ E, D = E + 20 := ⟨D - 20, by omega⟩
    have hT := hB.1.1
    have hS := hT.s
    have ei : i = I (C + 27) 8 := by rw [hB.2]; exact Int32.toInt_inj.mp (by omega)
    have gi := hT.g_best
    rw [← ei] at gi
    have hi4 : ¬ 4 < i := Int32.not_lt.mpr gi.2
    have hi5 : 0 ≤ i ∧ i < 5 := ⟨gi.1, by clear hB hT hS hP hN; grind⟩
    have m4 : (0 : Nat) + i.toNatClampNeg ≤ 4 := by
      have e0 := Int32.le_iff_toInt_le.mp gi.1
      have e1 := Int32.le_iff_toInt_le.mp gi.2
      show 0 + i.toInt.toNat ≤ 4
      omega
    have n0 : ¬ i < 0 := Int32.not_lt.mpr gi.1
    have f1 : dB9 C K L R I0 (a_ci (a_ui I (C + 27) 9 sf) (C + 33) (C + 34) 0 0 i.toNatClampNeg) := dB_349 (dB_sum9 hB)
    have m5 : i.toNatClampNeg ≤ 4 := by omega
    rw [a_enter1 (M := a_m138) rfl (a_cat_rf (a_cat_int (a_cat_int a_cat_nil))) (show 3 ≤ 8 by decide)]
    show a_at _ (a_xm a_m138) 0 [some (a_rf (C + 27)), some (.int i), some (.int sf), none, none, none, none, none] [] _ _
    simp only [q138_0, q138_1, q138_2, q138_5, q138_6, q138_7, q138_10, q138_11, q138_12, q138_13, q138_14, q138_17, q138_20, q138_21, q138_22, q138_23, q138_26, q138_29, q138_30, q138_31, q138_34, q138_35, q138_38, q138_39, q138_40, q138_43, q138_44, q138_45, q138_48, q138_51, k_27 hS, z_27, r_27_5 hS, k_32 hS, l_32 hS, z_32, r_27_6 hS, k_33 hS, l_33 hS, z_33, r_27_7 hS, k_34 hS, l_34 hS, z_34, as_nil, as_i, as_r, Nat.reduceAdd, Nat.reduceLeDiff, z_eq0, z_eq1, z_or, z_em, Classical.not_not, not_false_eq_true, not_true_eq_false, true_and, and_true, false_and, and_false, and_self, true_implies, false_implies, implies_true, Option.toList_some, Option.toList_none, List.cons_append, List.nil_append, Nat.add_eq_zero_iff, a_nl_i, a_nl_r, a_nl_n, true_or, or_true, eq_self, a_isRA_22, a_isRA_24, a_isRA_32, a_isA_20, ok_4, ok_5, ok_6, ok_7, ok_9, ok_20, ok_21, ok_30, ok_50, ok_180, ok_192, ok_200, ui_ap, cc_ne, cc_n0, cc_0n, Nat.reduceEqDiff, reduceIte, if_true, if_false, ← ei, hi4, a_copy_eq, a_kd_eq, a_ln_eq, cn00, lt00, Nat.zero_add, n0, m5]
    refine ⟨hi5, fun _ => hP _ f1, fun _ => hP _ hB⟩
  | succ z ih =>
    intro i sf I D P h0 h1 h2 hB hP
    obtain ⟨E, rfl⟩ : ∃ E, D = E + 20 := ⟨D - 20, by omega⟩
    have hT := hB.1.1
    have hS := hT.s
    have e0 := Int32.le_iff_toInt_le.mp h0
    have hi : 0 ≤ i ∧ i < 4 := ⟨h0, by rw [Int32.lt_iff_toInt_lt]; omega⟩
    have ei : ¬ i = I (C + 27) 8 := by
      rw [hB.2]
      intro e
      rw [e] at h1
      omega
    have hi4 : ¬ 4 < i := by clear hB hT hS hP hN ih; grind
    have hi5 : 0 ≤ i ∧ i < 5 := ⟨h0, by clear hB hT hS hP hN ih; grind⟩
    have hn := hN i h0 (by rw [Int32.lt_iff_toInt_lt]; omega)
    have ei1 : (i + 1).toInt = i.toInt + 1 := by rw [ti_add (by omega)]; omega
    have hr : ∀ (sf : Int32) (J : Nat → Nat → Int32) (P : Option Value → AH → Prop), dB9 C K L R I0 J → (∀ J, dB9 C K L R I0 J → P none (n, t, K, L, J, R)) → a_does (E + 19) 138 [a_rf (C + 27), .int (i + 1), .int sf] (n, t, K, L, J, R) P := fun sf J P b hP => ih (i + 1) sf J (E + 19) P (by rw [Int32.le_iff_toInt_le]; omega) (by omega) (by omega) b hP
    have hl := fun w u1 u2 => lk_extend_719 (E := E) (sf := sf) (w := w) hi hn hr hP 0 (by decide) I u1 u2 (by decide) hB
    rw [a_enter1 (M := a_m138) rfl (a_cat_rf (a_cat_int (a_cat_int a_cat_nil))) (show 3 ≤ 8 by decide)]
    show a_at _ (a_xm a_m138) 0 [some (a_rf (C + 27)), some (.int i), some (.int sf), none, none, none, none, none] [] _ _
    simp only [q138_0, q138_1, q138_2, q138_5, q138_6, q138_7, q138_10, q138_11, q138_12, q138_13, q138_14, q138_17, q138_20, q138_21, q138_22, q138_23, q138_26, q138_29, q138_30, q138_31, q138_34, q138_35, q138_38, q138_39, q138_40, q138_43, q138_44, q138_45, q138_48, q138_51, q138_52, q138_53, q138_56, q138_57, q138_58, q138_59, q138_60, q138_61, q138_62, k_27 hS, z_27, r_27_5 hS, k_32 hS, l_32 hS, z_32, r_27_6 hS, k_33 hS, l_33 hS, z_33, r_27_7 hS, k_34 hS, l_34 hS, z_34, r_27_1 hS, k_28 hS, l_28 hS, z_28, as_nil, as_i, as_r, Nat.reduceAdd, Nat.reduceLeDiff, z_eq0, z_eq1, z_or, z_em, Classical.not_not, not_false_eq_true, not_true_eq_false, true_and, and_true, false_and, and_false, and_self, true_implies, false_implies, implies_true, Option.toList_some, Option.toList_none, List.cons_append, List.nil_append, Nat.add_eq_zero_iff, a_nl_i, a_nl_r, a_nl_n, true_or, or_true, eq_self, a_isRA_22, a_isRA_24, a_isRA_32, a_isA_20, ok_4, ok_5, ok_6, ok_7, ok_9, ok_20, ok_21, ok_30, ok_50, ok_180, ok_192, ok_200, ui_ap, cc_ne, cc_n0, cc_0n, Nat.reduceEqDiff, reduceIte, if_true, if_false, ei, hi4]
    refine ⟨hi5, fun _ => ⟨hi, ?_⟩, fun _ => hP _ hB⟩
    refine ck_worth hi hn hT (fun v => ?_)
    simp only [q138_65, q138_66, q138_68, q138_69, as_nil, as_i, as_r, Nat.reduceAdd, Nat.reduceLeDiff, z_eq0, z_eq1, z_or, z_em, Classical.not_not, not_false_eq_true, not_true_eq_false, true_and, and_true, false_and, and_false, and_self, true_implies, false_implies, implies_true, Option.toList_some, Option.toList_none, List.cons_append, List.nil_append, Nat.add_eq_zero_iff, a_nl_i, a_nl_r, a_nl_n, true_or, or_true, eq_self, a_isRA_22, a_isRA_24, a_isRA_32, a_isA_20, ok_4, ok_5, ok_6, ok_7, ok_9, ok_20, ok_21, ok_30, ok_50, ok_180, ok_192, ok_200, ui_ap, cc_ne, cc_n0, cc_0n, Nat.reduceEqDiff, reduceIte, if_true, if_false]
    exact hl _ _ _
theorem lk_search_1259 (hN : bnP C R (I0 (C + 27) 8)) (hT0 : cT C K L I0 R) {p q r : Int32} (hP : ∀ J, dB9 C K L R I0 J → P none (n, t, K, L, J, R)) : ∀ i : Int32, -1 ≤ i → ∀ J u, i < I0 (C + 27) 8 → dB9 C K L R I0 J → a_at (d + 30) (a_xm a_m132) 125 [some (a_rf (C + 27)), some (.int p), some (.int q), some (.int r), some (.int i), u] [] (n, t, K, L, J, R) P := by
  refine dn_ind (-1) (fun i hk ih => ?_)
  intro J u q0 hB
  have hT := hB.1.1
  have hS := hT.s
  have gs := hT0.g_best
  have hi5 : ¬ i < 0 → (0 ≤ i + 1 ∧ i + 1 < 5) ∧ (0 ≤ i ∧ i < 5) ∧ (0 ≤ i ∧ i < 4) := fun h => by clear hP ih hN; grind
  have hex : a_at (d + 30) (a_xm a_m132) 173 [some (a_rf (C + 27)), some (.int p), some (.int q), some (.int r), some (.int i), u] [] (n, t, K, L, J, R) P := by
    simp only [q132_173, q132_174, q132_175, q132_178, q132_179, q132_180, q132_181, k_27 hS, z_27, as_nil, as_i, as_r, Nat.reduceAdd, Nat.reduceLeDiff, z_eq0, z_eq1, z_or, z_em, Classical.not_not, not_false_eq_true, not_true_eq_false, true_and, and_true, false_and, and_false, and_self, true_implies, false_implies, implies_true, Option.toList_some, Option.toList_none, List.cons_append, List.nil_append, Nat.add_eq_zero_iff, a_nl_i, a_nl_r, a_nl_n, true_or, or_true, eq_self, a_isRA_22, a_isRA_24, a_isRA_32, a_isA_20, ok_4, ok_5, ok_6, ok_7, ok_9, ok_20, ok_21, ok_30, ok_50, ok_180, ok_192, ok_200, ui_ap, cc_ne, cc_n0, cc_0n, Nat.reduceEqDiff, reduceIte, if_true, if_false]
    have b2 := dB_sum9 (v := -1) hB
    have g := kEX_all9 (n := n) (t := t) hN hT0 (I0 (C + 27) 8).toInt.toNat
    have s0 := Int32.le_iff_toInt_le.mp gs.1
    have s1 := Int32.le_iff_toInt_le.mp gs.2
    have c0 : (0 : Int32).toInt = 0 := rfl
    have c4 : (4 : Int32).toInt = 4 := rfl
    refine g 0 0 _ _ _ (by decide) (by omega) (by omega) b2 (fun J3 b3 => ?_)
    simp only [q132_184, as_nil, as_i, as_r, Nat.reduceAdd, Nat.reduceLeDiff, z_eq0, z_eq1, z_or, z_em, Classical.not_not, not_false_eq_true, not_true_eq_false, true_and, and_true, false_and, and_false, and_self, true_implies, false_implies, implies_true, Option.toList_some, Option.toList_none, List.cons_append, List.nil_append, Nat.add_eq_zero_iff, a_nl_i, a_nl_r, a_nl_n, true_or, or_true, eq_self, a_isRA_22, a_isRA_24, a_isRA_32, a_isA_20, ok_4, ok_5, ok_6, ok_7, ok_9, ok_20, ok_21, ok_30, ok_50, ok_180, ok_192, ok_200, ui_ap, cc_ne, cc_n0, cc_0n, Nat.reduceEqDiff, reduceIte, if_true, if_false]
    exact hP J3 b3
  rw [q132_125]
  simp only [q132_127, q132_130, q132_131, q132_134, q132_136, q132_137, q132_140, q132_142, q132_143, q132_144, q132_145, q132_146, q132_149, q132_151, q132_152, q132_155, q132_156, q132_158, k_27 hS, z_27, r_27_5 hS, k_32 hS, l_32 hS, z_32, r_27_4 hS, k_31 hS, l_31 hS, z_31, as_nil, as_i, as_r, Nat.reduceAdd, Nat.reduceLeDiff, z_eq0, z_eq1, z_or, z_em, Classical.not_not, not_false_eq_true, not_true_eq_false, true_and, and_true, false_and, and_false, and_self, true_implies, false_implies, implies_true, Option.toList_some, Option.toList_none, List.cons_append, List.nil_append, Nat.add_eq_zero_iff, a_nl_i, a_nl_r, a_nl_n, true_or, or_true, eq_self, a_isRA_22, a_isRA_24, a_isRA_32, a_isA_20, ok_4, ok_5, ok_6, ok_7, ok_9, ok_20, ok_21, ok_30, ok_50, ok_180, ok_192, ok_200]
  refine ⟨fun _ => hex, fun h1 => ?_⟩
  obtain ⟨x1, x2, x3⟩ := hi5 h1
  have hn := hN i x3.1 q0
  have ih := ih (by clear hP ih hN; grind)
  have hs : ∀ v, a_at (d + 30) (a_xm a_m132) 165 [some (a_rf (C + 27)), some (.int p), some (.int q), some (.int r), some (.int i), u] [.int v, .int (J (C + 32) (i + 1).toNatClampNeg), .int i, a_rf (C + 32)] (n, t, K, L, J, R) P := fun v => by
    have hi := ih _ u (by clear hP ih hN; grind) (dB_329 hB (k := i.toNatClampNeg) (v := J (C + 32) (i + 1).toNatClampNeg + v))
    simp only [q132_165, q132_166, q132_167, q132_170, as_nil, as_i, as_r, Nat.reduceAdd, Nat.reduceLeDiff, z_eq0, z_eq1, z_or, z_em, Classical.not_not, not_false_eq_true, not_true_eq_false, true_and, and_true, false_and, and_false, and_self, true_implies, false_implies, implies_true, Option.toList_some, Option.toList_none, List.cons_append, List.nil_append, Nat.add_eq_zero_iff, a_nl_i, a_nl_r, a_nl_n, true_or, or_true, eq_self, a_isRA_22, a_isRA_24, a_isRA_32, a_isA_20, ok_4, ok_5, ok_6, ok_7, ok_9, ok_20, ok_21, ok_30, ok_50, ok_180, ok_192, ok_200, ui_ap, cc_ne, cc_n0, cc_0n, Nat.reduceEqDiff, reduceIte, if_true, if_false, k_32 hS, l_32 hS, z_32]
    exact ⟨x2, hi⟩
  refine ⟨x1, x3, fun _ => ?_, fun _ => ?_⟩
  · simp only [q132_164, as_nil, as_i, as_r, Nat.reduceAdd, Nat.reduceLeDiff, z_eq0, z_eq1, z_or, z_em, Classical.not_not, not_false_eq_true, not_true_eq_false, true_and, and_true, false_and, and_false, and_self, true_implies, false_implies, implies_true, Option.toList_some, Option.toList_none, List.cons_append, List.nil_append, Nat.add_eq_zero_iff, a_nl_i, a_nl_r, a_nl_n, true_or, or_true, eq_self, a_isRA_22, a_isRA_24, a_isRA_32, a_isA_20, ok_4, ok_5, ok_6, ok_7, ok_9, ok_20, ok_21, ok_30, ok_50, ok_180, ok_192, ok_200, ui_ap, cc_ne, cc_n0, cc_0n, Nat.reduceEqDiff, reduceIte, if_true, if_false]
    exact hs _
  · refine ck_worth x3 hn hT (fun v => ?_)
    simp only [q132_161, as_nil, as_i, as_r, Nat.reduceAdd, Nat.reduceLeDiff, z_eq0, z_eq1, z_or, z_em, Classical.not_not, not_false_eq_true, not_true_eq_false, true_and, and_true, false_and, and_false, and_self, true_implies, false_implies, implies_true, Option.toList_some, Option.toList_none, List.cons_append, List.nil_append, Nat.add_eq_zero_iff, a_nl_i, a_nl_r, a_nl_n, true_or, or_true, eq_self, a_isRA_22, a_isRA_24, a_isRA_32, a_isA_20, ok_4, ok_5, ok_6, ok_7, ok_9, ok_20, ok_21, ok_30, ok_50, ok_180, ok_192, ok_200, ui_ap, cc_ne, cc_n0, cc_0n, Nat.reduceEqDiff, reduceIte, if_true, if_false]
    exact hs _
theorem lk_search_839 (hN : bnP C R (I0 (C + 27) 8)) (hT0 : cT C K L I0 R) {p q r : Int32} (hp : 0 ≤ p ∧ p ≤ 210) (hq : q ≤ 199) (hP : ∀ J, dB9 C K L R I0 J → P none (n, t, K, L, J, R)) : ∀ i : Int32, i ≤ 4 → ∀ J u, 0 ≤ i → dB9 C K L R I0 J → a_at (d + 30) (a_xm a_m132) 83 [some (a_rf (C + 27)), some (.int p), some (.int q), some (.int r), some (.int i), u] [] (n, t, K, L, J, R) P := by
  refine up_ind 4 (fun i hk ih => ?_)
  intro J u q0 hB
  have hT := hB.1.1
  have hS := hT.s
  have gs := hT.g_best
  have es := hB.2
  rw [q132_83]
  simp only [q132_85, q132_86, q132_89, q132_92, q132_93, q132_95, q132_96, q132_97, q132_98, k_27 hS, z_27, as_nil, as_i, as_r, Nat.reduceAdd, Nat.reduceLeDiff, z_eq0, z_eq1, z_or, z_em, Classical.not_not, not_false_eq_true, not_true_eq_false, true_and, and_true, false_and, and_false, and_self, true_implies, false_implies, implies_true, Option.toList_some, Option.toList_none, List.cons_append, List.nil_append, Nat.add_eq_zero_iff, a_nl_i, a_nl_r, a_nl_n, true_or, or_true, eq_self, a_isRA_22, a_isRA_24, a_isRA_32, a_isA_20, ok_4, ok_5, ok_6, ok_7, ok_9, ok_20, ok_21, ok_30, ok_50, ok_180, ok_192, ok_200]
  refine ⟨fun h1 => ?_, fun h1 => ?_⟩
  · have hs5 : 0 ≤ J (C + 27) 8 ∧ J (C + 27) 8 < 5 := by clear hP ih hN hB hT; grind
    have hl := lk_search_1259 (d := d) hN hT0 (p := p) (q := q) (r := r) hP (J (C + 27) 8 - 1) (by clear hP ih hN hB hT; grind) _ u (by rw [← es]; clear hP ih hN hB hT; grind) (dB_329 hB (k := (J (C + 27) 8).toNatClampNeg) (v := 0))
    simp only [q132_107, q132_108, q132_111, q132_112, q132_115, q132_116, q132_117, q132_118, q132_121, q132_122, q132_123, k_27 hS, z_27, r_27_5 hS, k_32 hS, l_32 hS, z_32, as_nil, as_i, as_r, Nat.reduceAdd, Nat.reduceLeDiff, z_eq0, z_eq1, z_or, z_em, Classical.not_not, not_false_eq_true, not_true_eq_false, true_and, and_true, false_and, and_false, and_self, true_implies, false_implies, implies_true, Option.toList_some, Option.toList_none, List.cons_append, List.nil_append, Nat.add_eq_zero_iff, a_nl_i, a_nl_r, a_nl_n, true_or, or_true, eq_self, a_isRA_22, a_isRA_24, a_isRA_32, a_isA_20, ok_4, ok_5, ok_6, ok_7, ok_9, ok_20, ok_21, ok_30, ok_50, ok_180, ok_192, ok_200, ui_ap, cc_ne, cc_n0, cc_0n, Nat.reduceEqDiff, reduceIte, if_true, if_false]
    exact ⟨hs5, hl⟩
  · have hi : 0 ≤ i ∧ i < 4 := by clear hP ih hN hB hT; grind
    have hn := hN i q0 (by rw [← es]; exact Int32.not_le.mp h1)
    refine ck_collect9 hi hn hB hp hq (fun J2 b2 => ?_)
    simp only [q132_101, q132_104, as_nil, as_i, as_r, Nat.reduceAdd, Nat.reduceLeDiff, z_eq0, z_eq1, z_or, z_em, Classical.not_not, not_false_eq_true, not_true_eq_false, true_and, and_true, false_and, and_false, and_self, true_implies, false_implies, implies_true, Option.toList_some, Option.toList_none, List.cons_append, List.nil_append, Nat.add_eq_zero_iff, a_nl_i, a_nl_r, a_nl_n, true_or, or_true, eq_self, a_isRA_22, a_isRA_24, a_isRA_32, a_isA_20, ok_4, ok_5, ok_6, ok_7, ok_9, ok_20, ok_21, ok_30, ok_50, ok_180, ok_192, ok_200, ui_ap, cc_ne, cc_n0, cc_0n, Nat.reduceEqDiff, reduceIte, if_true, if_false]
    exact ih hi.2 J2 u (by clear hP ih hN hB hT b2; grind) b2
theorem lk_search_89 {p q r : Int32} (hp : 0 ≤ p ∧ p ≤ 210) (hq : q ≤ 199) (hP : ∀ J R, cZ9 C c n0 K0 L0 I0 R0 n t K L J R → bnP C R (J (C + 27) 8) → P none (n, t, K, L, J, R)) : ∀ i : Int32, i ≤ 30 → ∀ J R u, 0 ≤ i → cZ9 C c n0 K0 L0 I0 R0 n t K L J R → bnP C R (J (C + 27) 8) → a_at (d + 30) (a_xm a_m132) 8 [some (a_rf (C + 27)), some (.int p), some (.int q), some (.int r), some (.int i), u] [] (n, t, K, L, J, R) P := by
  refine up_ind 30 (fun i hk ih => ?_)
  intro J R u q0 hZ hN
  have hT := hZ.2.1.1
  have hS := hT.s
  have gA := hT.g_asksR
  have gB := hT.g_benchesR
  have gX := hT.g_textsR
  have gc := hT.g_asks
  have gs := hT.g_best
  have gi := gA i.toNatClampNeg
  have hend := fun u => lk_search_839 (d := d) (n := n) (t := t) (r := r) hN hT hp hq (fun J2 b2 => hP J2 R (cZ_G9 hZ b2.1) (by rw [b2.2]; exact hN)) 0 (by decide) J u (by decide) (dB_refl9 hT)
  have hnext : i < 30 → ∀ J R u, cZ9 C c n0 K0 L0 I0 R0 n t K L J R → bnP C R (J (C + 27) 8) → a_at (d + 30) (a_xm a_m132) 74 [some (a_rf (C + 27)), some (.int p), some (.int q), some (.int r), some (.int i), u] [] (n, t, K, L, J, R) P := fun h J R u z b => by
    simp only [q132_74, q132_77, as_nil, as_i, as_r, Nat.reduceAdd, Nat.reduceLeDiff, z_eq0, z_eq1, z_or, z_em, Classical.not_not, not_false_eq_true, not_true_eq_false, true_and, and_true, false_and, and_false, and_self, true_implies, false_implies, implies_true, Option.toList_some, Option.toList_none, List.cons_append, List.nil_append, Nat.add_eq_zero_iff, a_nl_i, a_nl_r, a_nl_n, true_or, or_true, eq_self, a_isRA_22, a_isRA_24, a_isRA_32, a_isA_20, ok_4, ok_5, ok_6, ok_7, ok_9, ok_20, ok_21, ok_30, ok_50, ok_180, ok_192, ok_200, ui_ap, cc_ne, cc_n0, cc_0n, Nat.reduceEqDiff, reduceIte, if_true, if_false]
    exact ih h J R u (by clear hend ih hP; grind) z b
  rw [q132_8]
  simp only [q132_10, q132_11, q132_14, q132_17, q132_20, q132_21, q132_24, q132_26, k_27 hS, z_27, r_27_0 hS, k_14 hS, z_14, sp_askAt hS gA, as_nil, as_i, as_r, Nat.reduceAdd, Nat.reduceLeDiff, z_eq0, z_eq1, z_or, z_em, Classical.not_not, not_false_eq_true, not_true_eq_false, true_and, and_true, false_and, and_false, and_self, true_implies, false_implies, implies_true, Option.toList_some, Option.toList_none, List.cons_append, List.nil_append, Nat.add_eq_zero_iff, a_nl_i, a_nl_r, a_nl_n, true_or, or_true, eq_self, a_isRA_22, a_isRA_24, a_isRA_32, a_isA_20, ok_4, ok_5, ok_6, ok_7, ok_9, ok_20, ok_21, ok_30, ok_50, ok_180, ok_192, ok_200]
  refine ⟨fun h1 => ?_, fun h1 => ?_⟩
  · simp only [q132_80, q132_81, as_nil, as_i, as_r, Nat.reduceAdd, Nat.reduceLeDiff, z_eq0, z_eq1, z_or, z_em, Classical.not_not, not_false_eq_true, not_true_eq_false, true_and, and_true, false_and, and_false, and_self, true_implies, false_implies, implies_true, Option.toList_some, Option.toList_none, List.cons_append, List.nil_append, Nat.add_eq_zero_iff, a_nl_i, a_nl_r, a_nl_n, true_or, or_true, eq_self, a_isRA_22, a_isRA_24, a_isRA_32, a_isA_20, ok_4, ok_5, ok_6, ok_7, ok_9, ok_20, ok_21, ok_30, ok_50, ok_180, ok_192, ok_200]
    exact hend _
  · have hi : i < 30 := by clear hend ih hP hN hnext; grind
    have hsame := fun u => hnext hi J R u hZ hN
    refine ⟨fun h2 => ?_, fun h2 => ?_⟩
    · simp only [q132_29, q132_31, q132_33, as_nil, as_i, as_r, Nat.reduceAdd, Nat.reduceLeDiff, z_eq0, z_eq1, z_or, z_em, Classical.not_not, not_false_eq_true, not_true_eq_false, true_and, and_true, false_and, and_false, and_self, true_implies, false_implies, implies_true, Option.toList_some, Option.toList_none, List.cons_append, List.nil_append, Nat.add_eq_zero_iff, a_nl_i, a_nl_r, a_nl_n, true_or, or_true, eq_self, a_isRA_22, a_isRA_24, a_isRA_32, a_isA_20, ok_4, ok_5, ok_6, ok_7, ok_9, ok_20, ok_21, ok_30, ok_50, ok_180, ok_192, ok_200]
      refine ⟨fun h3 => hsame _, fun h3 => ?_⟩
      have ha := gi.resolve_left h3
      simp only [q132_36, q132_37, q132_39, as_nil, as_i, as_r, Nat.reduceAdd, Nat.reduceLeDiff, z_eq0, z_eq1, z_or, z_em, Classical.not_not, not_false_eq_true, not_true_eq_false, true_and, and_true, false_and, and_false, and_self, true_implies, false_implies, implies_true, Option.toList_some, Option.toList_none, List.cons_append, List.nil_append, Nat.add_eq_zero_iff, a_nl_i, a_nl_r, a_nl_n, true_or, or_true, eq_self, a_isRA_22, a_isRA_24, a_isRA_32, a_isA_20, ok_4, ok_5, ok_6, ok_7, ok_9, ok_20, ok_21, ok_30, ok_50, ok_180, ok_192, ok_200]
      refine ck_isIn (fun v => ?_)
      simp only [q132_42, q132_45, q132_46, q132_49, q132_50, q132_53, q132_54, q132_57, q132_58, q132_61, q132_63, q132_64, q132_65, q132_66, q132_69, q132_70, q132_71, k_27 hS, z_27, r_27_1 hS, k_28 hS, l_28 hS, z_28, as_nil, as_i, as_r, Nat.reduceAdd, Nat.reduceLeDiff, z_eq0, z_eq1, z_or, z_em, Classical.not_not, not_false_eq_true, not_true_eq_false, true_and, and_true, false_and, and_false, and_self, true_implies, false_implies, implies_true, Option.toList_some, Option.toList_none, List.cons_append, List.nil_append, Nat.add_eq_zero_iff, a_nl_i, a_nl_r, a_nl_n, true_or, or_true, eq_self, a_isRA_22, a_isRA_24, a_isRA_32, a_isA_20, ok_4, ok_5, ok_6, ok_7, ok_9, ok_20, ok_21, ok_30, ok_50, ok_180, ok_192, ok_200, ui_ap, cc_ne, cc_n0, cc_0n, Nat.reduceEqDiff, reduceIte, if_true, if_false, ha]
      have h4 : ¬ 4 ≤ J (C + 27) 8 → (0 ≤ J (C + 27) 8 ∧ J (C + 27) 8 < 4) ∧ (0 ≤ J (C + 27) 8 + 1 ∧ J (C + 27) 8 + 1 ≤ 4) := fun h => by clear hend ih hP hN hnext hsame; grind
      have hput : ¬ 4 ≤ J (C + 27) 8 → ∀ u, a_at (d + 30) (a_xm a_m132) 74 [some (a_rf (C + 27)), some (.int p), some (.int q), some (.int r), some (.int i), u] [] (n, t, K, L, (a_ui J (C + 27) 8 (J (C + 27) 8 + 1)), (a_ur R (C + 28) (J (C + 27) 8).toNatClampNeg (R (C + 15) i.toNatClampNeg))) P := fun h u => by
        have z1 := cZ_R289 (j := (J (C + 27) 8).toNatClampNeg) hZ (Or.inr ha)
        have z2 := cZ_G9 z1 (dG_Best_size9 (dG_refl9 z1.2.1.1) (h4 h).2)
        refine hnext hi _ _ u z2 (fun j j0 j1 => ?_)
        rw [ui_ap, if_pos ⟨rfl, rfl⟩] at j1
        rw [ur_ap]
        split
        · exact h3
        · rename_i h5
          refine hN j j0 ?_
          have : ¬ j = J (C + 27) 8 := fun e => h5 ⟨rfl, by rw [e]⟩
          clear hend ih hP hN hnext hsame z1 z2
          grind
      repeat' first
        | with_reducible apply And.intro
        | with_reducible intro _
        | exact hsame _
        | (refine hput ?_ _; assumption)
        | exact (h4 (by assumption)).1.1
        | exact (h4 (by assumption)).1.2
        | (right; rfl)
        | decide
    · simp only [q132_29, q132_31, q132_33, as_nil, as_i, as_r, Nat.reduceAdd, Nat.reduceLeDiff, z_eq0, z_eq1, z_or, z_em, Classical.not_not, not_false_eq_true, not_true_eq_false, true_and, and_true, false_and, and_false, and_self, true_implies, false_implies, implies_true, Option.toList_some, Option.toList_none, List.cons_append, List.nil_append, Nat.add_eq_zero_iff, a_nl_i, a_nl_r, a_nl_n, true_or, or_true, eq_self, a_isRA_22, a_isRA_24, a_isRA_32, a_isA_20, ok_4, ok_5, ok_6, ok_7, ok_9, ok_20, ok_21, ok_30, ok_50, ok_180, ok_192, ok_200]
      first
        | exact hsame _
        | exact ⟨fun _ => hsame _, fun h => absurd rfl h⟩
theorem ck_search9 {p q r : Int32} (hp : 0 ≤ p ∧ p ≤ 210) (hq : q ≤ 199) (hZ : cZ9 C c n0 K0 L0 I0 R0 n t K L I R) (hP : ∀ J R, cZ9 C c n0 K0 L0 I0 R0 n t K L J R → bnP C R (J (C + 27) 8) → P none (n, t, K, L, J, R)) : a_does (d + 31) 132 [a_rf (C + 27), .int p, .int q, .int r] (n, t, K, L, I, R) P := by
  have hT := hZ.2.1.1
  have hS := hT.s
  have z := cZ_G9 hZ (dG_Best_size9 (v := 0) (dG_refl9 hT) (by decide))
  have hl := fun u => lk_search_89 (d := d) (r := r) hp hq hP 0 (by decide) _ R u (by decide) z (fun j j0 j1 => by
    rw [ui_ap, if_pos ⟨rfl, rfl⟩] at j1
    exact absurd j1 (Int32.not_lt.mpr j0))
  rw [a_enter1 (M := a_m132) rfl (a_cat_rf (a_cat_int (a_cat_int (a_cat_int a_cat_nil)))) (show 4 ≤ 6 by decide)]
  show a_at _ (a_xm a_m132) 0 [some (a_rf (C + 27)), some (.int p), some (.int q), some (.int r), none, none] [] _ _
  simp only [q132_0, q132_1, q132_2, q132_5, q132_6, k_27 hS, z_27, as_nil, as_i, as_r, Nat.reduceAdd, Nat.reduceLeDiff, z_eq0, z_eq1, z_or, z_em, Classical.not_not, not_false_eq_true, not_true_eq_false, true_and, and_true, false_and, and_false, and_self, true_implies, false_implies, implies_true, Option.toList_some, Option.toList_none, List.cons_append, List.nil_append, Nat.add_eq_zero_iff, a_nl_i, a_nl_r, a_nl_n, true_or, or_true, eq_self, a_isRA_22, a_isRA_24, a_isRA_32, a_isA_20, ok_4, ok_5, ok_6, ok_7, ok_9, ok_20, ok_21, ok_30, ok_50, ok_180, ok_192, ok_200, ui_ap, cc_ne, cc_n0, cc_0n, Nat.reduceEqDiff, reduceIte, if_true, if_false]
  exact hl _
end KF
/-! the class: rings -/
section KG
variable {d n t C c n0 n' n'' t' : Nat} {K L K0 L0 K' L' K'' L'' : Nat → Nat} {I I0 J J0 J1 J2 : Nat → Nat → Int32} {R R0 R' R'' : Nat → Nat → Nat} {P : Option Value → AH → Prop}
theorem dR_G9 (h : dR C K L R I J) : dG9 C K L R I J := ⟨h.1, fun x j p => h.2 x j (by unfold eD9 eD at p; omega) (by unfold eD9 eD at p; omega) (by unfold eD9 eD at p; omega) (by unfold eD9 eD at p; omega) (by unfold eD9 eD at p; omega) (by unfold eD9 eD at p; omega)⟩
theorem ck_circleTell9 {q r w : Int32} (hr : 0 ≤ r ∧ r < 30) (hw : w = 0 ∨ w = 1) (hG : dG9 C K L R I0 I) (hP : ∀ v J, dG9 C K L R I0 J → P (some (.int v)) (n, t, K, L, J, R)) : a_does (d + 1) 148 [a_rf (C + 35), .int r, .int q, .int w] (n, t, K, L, I, R) P := by
  have hT := hG.1
  have hS := hT.s
  have hw : ∀ k v, dG9 C K L R I0 (a_ui I (C + 36) k v) := fun k v => dG_369 hG
  rw [a_enter1 (M := a_m148) rfl (a_cat_rf (a_cat_int (a_cat_int (a_cat_int a_cat_nil)))) (show 4 ≤ 5 by decide)]
  show a_at _ (a_xm a_m148) 0 [some (a_rf (C + 35)), some (.int r), some (.int q), some (.int w), none] [] _ _
  repeat' first
    | with_reducible apply And.intro
    | with_reducible assumption
    | with_reducible intro _
    | with_reducible apply hP
    | with_reducible apply hw
    | simp only [q148_0, q148_1, q148_4, q148_5, q148_6, q148_7, q148_8, q148_9, q148_10, q148_13, q148_14, q148_17, q148_18, q148_20, q148_21, q148_24, q148_25, q148_28, q148_29, q148_30, q148_31, q148_32, q148_33, q148_34, q148_35, q148_36, q148_39, q148_40, q148_43, q148_44, q148_45, q148_46, q148_47, q148_48, q148_49, q148_50, q148_51, q148_52, q148_53, q148_55, q148_56, q148_59, q148_60, q148_63, q148_64, k_35 hS, z_35, r_35_1 hS, k_36 hS, l_36 hS, z_36, as_nil, as_i, as_r, Nat.reduceAdd, Nat.reduceLeDiff, z_eq0, z_eq1, z_or, z_em, Classical.not_not, not_false_eq_true, not_true_eq_false, true_and, and_true, false_and, and_false, and_self, true_implies, false_implies, implies_true, Option.toList_some, Option.toList_none, List.cons_append, List.nil_append, Nat.add_eq_zero_iff, a_nl_i, a_nl_r, a_nl_n, true_or, or_true, eq_self, a_isRA_22, a_isRA_24, a_isRA_32, a_isA_20, ok_4, ok_5, ok_6, ok_7, ok_9, ok_20, ok_21, ok_30, ok_50, ok_180, ok_192, ok_200, ui_ap, cc_ne, cc_n0, cc_0n, Nat.reduceEqDiff, reduceIte, if_true, if_false]
  all_goals ((try clear ih); (try clear hP); (try clear hl); (try clear hq); (try clear a3); grind [ui_ap])
end KG
/-! the class: rings, whole -/
section KH
variable {d n t C c n0 n' n'' t' : Nat} {K L K0 L0 K' L' K'' L'' : Nat → Nat} {I I0 J J0 J1 J2 : Nat → Nat → Int32} {R R0 R' R'' : Nat → Nat → Nat} {P : Option Value → AH → Prop}
def kCL9 (C c n0 : Nat) (K0 L0 : Nat → Nat) (I0 : Nat → Nat → Int32) (R0 : Nat → Nat → Nat) (n t : Nat) (K L : Nat → Nat) (m : Int32) (z : Nat) : Prop := ∀ (at_ : Int32) (I : Nat → Nat → Int32) (R : Nat → Nat → Nat) (D : Nat) (P : Option Value → AH → Prop), 1 ≤ at_ → at_.toInt + z = m.toInt → z + 20 ≤ D → cZ9 C c n0 K0 L0 I0 R0 n t K L I R → I (C + 35) 7 = m → rnP C R at_ → (∀ v J R2, cZ9 C c n0 K0 L0 I0 R0 n t K L J R2 → J (C + 35) 7 = m → rnP C R2 at_ → (v = 0 ∨ v = 1) → (¬ v = 0 → rnP C R2 m ∧ frP C J R2 m) → P (some (.int v)) (n, t, K, L, J, R2)) → a_does D 152 [a_rf (C + 35), .int at_] (n, t, K, L, I, R) P
theorem lk_closes_669 {E : Nat} {m a l f : Int32} (hm : 2 ≤ m ∧ m ≤ 5) (h1a : 1 ≤ a) (ham : a < m) (hf : 0 ≤ f ∧ f < 30) (hl : 0 ≤ l) (hr : ∀ (I : Nat → Nat → Int32) (R : Nat → Nat → Nat) (P : Option Value → AH → Prop), cZ9 C c n0 K0 L0 I0 R0 n t K L I R → I (C + 35) 7 = m → rnP C R (a + 1) → (∀ v J R2, cZ9 C c n0 K0 L0 I0 R0 n t K L J R2 → J (C + 35) 7 = m → rnP C R2 (a + 1) → (v = 0 ∨ v = 1) → (¬ v = 0 → rnP C R2 m ∧ frP C J R2 m) → P (some (.int v)) (n, t, K, L, J, R2)) → a_does (E + 19) 152 [a_rf (C + 35), .int (a + 1)] (n, t, K, L, I, R) P) (hP : (∀ v J R2, cZ9 C c n0 K0 L0 I0 R0 n t K L J R2 → J (C + 35) 7 = m → rnP C R2 a → (v = 0 ∨ v = 1) → (¬ v = 0 → rnP C R2 m ∧ frP C J R2 m) → P (some (.int v)) (n, t, K, L, J, R2))) : ∀ i : Int32, i ≤ 30 → ∀ J R u, 0 ≤ i → cZ9 C c n0 K0 L0 I0 R0 n t K L J R → J (C + 35) 7 = m → rnP C R a → a_at (E + 19) (a_xm a_m152) 66 [some (a_rf (C + 35)), some (.int a), some (.int l), some (.int f), some (.int i), u] [] (n, t, K, L, J, R) P := by
  refine up_ind 30 (fun i hk ih => ?_)
  intro J R u q0 hZ es hN
  have hT := hZ.2.1.1
  have hS := hT.s
  have gA := hT.g_asksR
  have gB := hT.g_benchesR
  have gX := hT.g_textsR
  have gc := hT.g_asks
  have gi := gA i.toNatClampNeg
  have a5 : 0 ≤ a ∧ a < 5 := by clear hP hr ih hZ hT hN gA gB gX; grind
  have a5' : a ≤ 5 := by clear hP hr ih hZ hT hN gA gB gX; grind
  have a50 : 0 ≤ a := a5.1
  have aa1 : a ≤ a + 1 := by clear hP hr ih hZ hT hN gA gB gX; grind
  have h0 := hP 0 J R hZ es hN (Or.inl rfl) (fun h => absurd rfl h)
  have hnext : i < 30 → ∀ J R u, cZ9 C c n0 K0 L0 I0 R0 n t K L J R → J (C + 35) 7 = m → rnP C R a → a_at (E + 19) (a_xm a_m152) 141 [some (a_rf (C + 35)), some (.int a), some (.int l), some (.int f), some (.int i), u] [] (n, t, K, L, J, R) P := fun hi J R u z e b => by
    simp only [q152_141, q152_144, as_nil, as_i, as_r, Nat.reduceAdd, Nat.reduceLeDiff, z_eq0, z_eq1, z_or, z_em, Classical.not_not, not_false_eq_true, not_true_eq_false, true_and, and_true, false_and, and_false, and_self, true_implies, false_implies, implies_true, Option.toList_some, Option.toList_none, List.cons_append, List.nil_append, Nat.add_eq_zero_iff, a_nl_i, a_nl_r, a_nl_n, true_or, or_true, eq_self, a_isRA_22, a_isRA_24, a_isRA_32, a_isA_20, ok_4, ok_5, ok_6, ok_7, ok_9, ok_20, ok_21, ok_30, ok_50, ok_180, ok_192, ok_200]
    exact ih hi J R u (by clear hP hr ih hZ hT hN gA gB gX h0; grind) z e b
  rw [q152_66]
  simp only [q152_68, q152_69, q152_72, q152_75, q152_78, q152_79, q152_82, q152_84, k_35 hS, z_35, r_35_0 hS, k_14 hS, z_14, sp_askAt hS gA, as_nil, as_i, as_r, Nat.reduceAdd, Nat.reduceLeDiff, z_eq0, z_eq1, z_or, z_em, Classical.not_not, not_false_eq_true, not_true_eq_false, true_and, and_true, false_and, and_false, and_self, true_implies, false_implies, implies_true, Option.toList_some, Option.toList_none, List.cons_append, List.nil_append, Nat.add_eq_zero_iff, a_nl_i, a_nl_r, a_nl_n, true_or, or_true, eq_self, a_isRA_22, a_isRA_24, a_isRA_32, a_isA_20, ok_4, ok_5, ok_6, ok_7, ok_9, ok_20, ok_21, ok_30, ok_50, ok_180, ok_192, ok_200]
  refine ⟨fun h1 => ?_, fun h1 => ?_⟩
  · simp only [q152_147, q152_148, as_nil, as_i, as_r, Nat.reduceAdd, Nat.reduceLeDiff, z_eq0, z_eq1, z_or, z_em, Classical.not_not, not_false_eq_true, not_true_eq_false, true_and, and_true, false_and, and_false, and_self, true_implies, false_implies, implies_true, Option.toList_some, Option.toList_none, List.cons_append, List.nil_append, Nat.add_eq_zero_iff, a_nl_i, a_nl_r, a_nl_n, true_or, or_true, eq_self, a_isRA_22, a_isRA_24, a_isRA_32, a_isA_20, ok_4, ok_5, ok_6, ok_7, ok_9, ok_20, ok_21, ok_30, ok_50, ok_180, ok_192, ok_200]
    first
      | exact h0
      | exact ⟨by decide, h0⟩
  · have hi : i < 30 := by clear hP hr ih hZ hT hN gA gB gX h0 hnext; grind
    have hsame := fun u => hnext hi J R u hZ es hN
    refine ⟨fun h2 => ?_, fun h2 => ?_⟩
    · simp only [q152_87, q152_89, q152_91, as_nil, as_i, as_r, Nat.reduceAdd, Nat.reduceLeDiff, z_eq0, z_eq1, z_or, z_em, Classical.not_not, not_false_eq_true, not_true_eq_false, true_and, and_true, false_and, and_false, and_self, true_implies, false_implies, implies_true, Option.toList_some, Option.toList_none, List.cons_append, List.nil_append, Nat.add_eq_zero_iff, a_nl_i, a_nl_r, a_nl_n, true_or, or_true, eq_self, a_isRA_22, a_isRA_24, a_isRA_32, a_isA_20, ok_4, ok_5, ok_6, ok_7, ok_9, ok_20, ok_21, ok_30, ok_50, ok_180, ok_192, ok_200]
      refine ⟨fun h3 => hsame _, fun h3 => ?_⟩
      have ha := gi.resolve_left h3
      simp only [q152_94, q152_95, q152_98, q152_99, q152_100, q152_102, k_35 hS, z_35, r_35_2 hS, k_37 hS, l_37 hS, z_37, as_nil, as_i, as_r, Nat.reduceAdd, Nat.reduceLeDiff, z_eq0, z_eq1, z_or, z_em, Classical.not_not, not_false_eq_true, not_true_eq_false, true_and, and_true, false_and, and_false, and_self, true_implies, false_implies, implies_true, Option.toList_some, Option.toList_none, List.cons_append, List.nil_append, Nat.add_eq_zero_iff, a_nl_i, a_nl_r, a_nl_n, true_or, or_true, eq_self, a_isRA_22, a_isRA_24, a_isRA_32, a_isA_20, ok_4, ok_5, ok_6, ok_7, ok_9, ok_20, ok_21, ok_30, ok_50, ok_180, ok_192, ok_200]
      refine ⟨hf, ?_⟩
      refine ck_isIn (fun v => ?_)
      simp only [q152_105, q152_108, q152_109, q152_111, q152_114, q152_115, k_35 hS, z_35, as_nil, as_i, as_r, Nat.reduceAdd, Nat.reduceLeDiff, z_eq0, z_eq1, z_or, z_em, Classical.not_not, not_false_eq_true, not_true_eq_false, true_and, and_true, false_and, and_false, and_self, true_implies, false_implies, implies_true, Option.toList_some, Option.toList_none, List.cons_append, List.nil_append, Nat.add_eq_zero_iff, a_nl_i, a_nl_r, a_nl_n, true_or, or_true, eq_self, a_isRA_22, a_isRA_24, a_isRA_32, a_isA_20, ok_4, ok_5, ok_6, ok_7, ok_9, ok_20, ok_21, ok_30, ok_50, ok_180, ok_192, ok_200, ha, h3]
      refine ⟨fun _ => hsame _, fun _ => ?_⟩
      refine ck_isNewGroup a5' hN hT (fun v2 => ?_)
      have z1 := cZ_R389 (j := a.toNatClampNeg) hZ (Or.inr ha)
      have N1 := rn_put1 hN a50 a5' h3
      have hgo : a_at (E + 19) (a_xm a_m152) 121 [some (a_rf (C + 35)), some (.int a), some (.int l), some (.int f), some (.int i), some (a_rf (R (C + 15) i.toNatClampNeg))] [] (n, t, K, L, J, R) P := by
        simp only [q152_121, q152_122, q152_125, q152_126, q152_128, q152_129, q152_130, q152_131, q152_132, q152_133, k_35 hS, z_35, r_35_3 hS, k_38 hS, l_38 hS, z_38, as_nil, as_i, as_r, Nat.reduceAdd, Nat.reduceLeDiff, z_eq0, z_eq1, z_or, z_em, Classical.not_not, not_false_eq_true, not_true_eq_false, true_and, and_true, false_and, and_false, and_self, true_implies, false_implies, implies_true, Option.toList_some, Option.toList_none, List.cons_append, List.nil_append, Nat.add_eq_zero_iff, a_nl_i, a_nl_r, a_nl_n, true_or, or_true, eq_self, a_isRA_22, a_isRA_24, a_isRA_32, a_isA_20, ok_4, ok_5, ok_6, ok_7, ok_9, ok_20, ok_21, ok_30, ok_50, ok_180, ok_192, ok_200, ha, h3]
        have hc3 : ∀ v3 J3 R3, cZ9 C c n0 K0 L0 I0 R0 n t K L J3 R3 → J3 (C + 35) 7 = m → rnP C R3 (a + 1) → (v3 = 0 ∨ v3 = 1) → (¬ v3 = 0 → rnP C R3 m ∧ frP C J3 R3 m) → a_at (E + 19) (a_xm a_m152) 136 [some (a_rf (C + 35)), some (.int a), some (.int l), some (.int f), some (.int i), some (a_rf (R (C + 15) i.toNatClampNeg))] [.int v3] (n, t, K, L, J3, R3) P := fun v3 J3 R3 z3 e3 N3 b3 f3 => by
          simp only [q152_136, q152_139, q152_140, as_nil, as_i, as_r, Nat.reduceAdd, Nat.reduceLeDiff, z_eq0, z_eq1, z_or, z_em, Classical.not_not, not_false_eq_true, not_true_eq_false, true_and, and_true, false_and, and_false, and_self, true_implies, false_implies, implies_true, Option.toList_some, Option.toList_none, List.cons_append, List.nil_append, Nat.add_eq_zero_iff, a_nl_i, a_nl_r, a_nl_n, true_or, or_true, eq_self, a_isRA_22, a_isRA_24, a_isRA_32, a_isA_20, ok_4, ok_5, ok_6, ok_7, ok_9, ok_20, ok_21, ok_30, ok_50, ok_180, ok_192, ok_200]
          refine ⟨fun _ => hnext hi J3 R3 _ z3 e3 (rn_le N3 aa1), fun hv => ?_⟩
          have := hP 1 J3 R3 z3 e3 (rn_le N3 aa1) (Or.inr rfl) (fun _ => f3 hv)
          first
            | exact this
            | exact ⟨by decide, this⟩
        repeat' first
          | with_reducible apply And.intro
          | exact a50
          | exact a5.2
          | exact hr J _ _ z1 es N1 hc3
          | (right; rfl)
          | trivial
      simp only [q152_118, as_nil, as_i, as_r, Nat.reduceAdd, Nat.reduceLeDiff, z_eq0, z_eq1, z_or, z_em, Classical.not_not, not_false_eq_true, not_true_eq_false, true_and, and_true, false_and, and_false, and_self, true_implies, false_implies, implies_true, Option.toList_some, Option.toList_none, List.cons_append, List.nil_append, Nat.add_eq_zero_iff, a_nl_i, a_nl_r, a_nl_n, true_or, or_true, eq_self, a_isRA_22, a_isRA_24, a_isRA_32, a_isA_20, ok_4, ok_5, ok_6, ok_7, ok_9, ok_20, ok_21, ok_30, ok_50, ok_180, ok_192, ok_200]
      exact ⟨fun _ => hsame _, fun _ => hgo⟩
    · simp only [q152_87, q152_89, q152_91, as_nil, as_i, as_r, Nat.reduceAdd, Nat.reduceLeDiff, z_eq0, z_eq1, z_or, z_em, Classical.not_not, not_false_eq_true, not_true_eq_false, true_and, and_true, false_and, and_false, and_self, true_implies, false_implies, implies_true, Option.toList_some, Option.toList_none, List.cons_append, List.nil_append, Nat.add_eq_zero_iff, a_nl_i, a_nl_r, a_nl_n, true_or, or_true, eq_self, a_isRA_22, a_isRA_24, a_isRA_32, a_isA_20, ok_4, ok_5, ok_6, ok_7, ok_9, ok_20, ok_21, ok_30, ok_50, ok_180, ok_192, ok_200]
      first
        | exact hsame _
        | exact ⟨fun _ => hsame _, fun h => absurd rfl h⟩
theorem kCL_all9 {m : Int32} (hm : 2 ≤ m ∧ m ≤ 5) : ∀ z, kCL9 C c n0 K0 L0 I0 R0 n t K L m z := by
  intro z
  have s0 := Int32.le_iff_toInt_le.mp hm.1
  have s1 := Int32.le_iff_toInt_le.mp hm.2
  have c0 : (0 : Int32).toInt = 0 := rfl
  have c1 : (1 : Int32).toInt = 1 := rfl
  have c2 : (2 : Int32).toInt = 2 := rfl
  have c5 : (5 : Int32).toInt = 5 := rfl
  have pre : ∀ (a : Int32) (I : Nat → Nat → Int32) (R : Nat → Nat → Nat), 1 ≤ a → a ≤ m → cZ9 C c n0 K0 L0 I0 R0 n t K L I R → rnP C R a → K (R (C + 38) ((0 : Int32)).toNatClampNeg) = 1 ∧ K (R (C + 38) ((a - 1)).toNatClampNeg) = 1 ∧ ¬ (R (C + 38) ((0 : Int32)).toNatClampNeg) = 0 ∧ ¬ (R (C + 38) ((a - 1)).toNatClampNeg) = 0 ∧ (0 ≤ a - 1 ∧ a - 1 < 5) := fun a I R h1 h2 z N => by
    have x : 0 ≤ a - 1 ∧ a - 1 < 5 ∧ a - 1 < a ∧ 0 < a := by clear N z s0 s1; grind
    have n0 := N 0 (by decide) x.2.2.2
    have n1 := N (a - 1) x.1 x.2.2.1
    exact ⟨(z.2.1.1.g_ringR _).resolve_left n0, (z.2.1.1.g_ringR _).resolve_left n1, n0, n1, x.1, x.2.1⟩
  induction z with
  | zero =>
    intro a I R D P h1 ha hD hZ es hN hP
    obtain ⟨E, rfl⟩ : ∃ E, D = E + 20 := ⟨D - 20, by omega⟩
    have hT := hZ.2.1.1
    have hS := hT.s
    have ea : a = m := Int32.toInt_inj.mp (by omega)
    obtain ⟨k0, k1, y0, y1, x5⟩ := pre a I R h1 (by rw [ea]; exact Int32.le_refl _) hZ hN
    have g1 := (hT.g_ask _ k1).2.2.1
    have hd : ∀ (v : Int32) J, dR C K L R I J → (v = 0 ∨ v = 1) → (¬ v = 0 → frP C J R m) → P (some (.int v)) (n, t, K, L, J, R) := fun v J g b f => hP v J R (cZ_G9 hZ (dR_G9 g)) ((dR_sz g).trans es) hN b (fun hv => ⟨by rw [← ea]; exact hN, f hv⟩)
    have p0 := hd 0 I (dR_refl hT) (Or.inl rfl) (fun h => absurd rfl h)
    have g29 : 0 ≤ I (R (C + 38) ((a - 1)).toNatClampNeg) 4 ∧ I (R (C + 38) ((a - 1)).toNatClampNeg) 4 < 30 := ⟨g1.1, by clear hP hd p0 hZ hN hT pre; grind⟩
    rw [a_enter1 (M := a_m152) rfl (a_cat_rf (a_cat_int a_cat_nil)) (show 2 ≤ 6 by decide)]
    show a_at _ (a_xm a_m152) 0 [some (a_rf (C + 35)), some (.int a), none, none, none, none] [] _ _
    simp only [q152_0, q152_1, q152_4, q152_5, q152_6, q152_9, q152_10, q152_11, q152_14, q152_15, q152_16, q152_17, q152_18, q152_21, q152_22, q152_23, q152_24, q152_27, q152_30, q152_31, q152_32, q152_35, q152_36, q152_39, q152_40, q152_41, q152_42, k_35 hS, z_35, r_35_3 hS, k_38 hS, l_38 hS, z_38, r_35_2 hS, k_37 hS, l_37 hS, z_37, as_nil, as_i, as_r, Nat.reduceAdd, Nat.reduceLeDiff, z_eq0, z_eq1, z_or, z_em, Classical.not_not, not_false_eq_true, not_true_eq_false, true_and, and_true, false_and, and_false, and_self, true_implies, false_implies, implies_true, Option.toList_some, Option.toList_none, List.cons_append, List.nil_append, Nat.add_eq_zero_iff, a_nl_i, a_nl_r, a_nl_n, true_or, or_true, eq_self, a_isRA_22, a_isRA_24, a_isRA_32, a_isA_20, ok_4, ok_5, ok_6, ok_7, ok_9, ok_20, ok_21, ok_30, ok_50, ok_180, ok_192, ok_200, k0, k1, y0, y1, es, ← ea, Int32.le_refl]
    refine ⟨by decide, x5, g29, ?_⟩
    refine ck_isIn (fun v => ?_)
    simp only [q152_45, q152_48, q152_49, q152_52, q152_55, q152_56, q152_59, q152_60, k_35 hS, z_35, as_nil, as_i, as_r, Nat.reduceAdd, Nat.reduceLeDiff, z_eq0, z_eq1, z_or, z_em, Classical.not_not, not_false_eq_true, not_true_eq_false, true_and, and_true, false_and, and_false, and_self, true_implies, false_implies, implies_true, Option.toList_some, Option.toList_none, List.cons_append, List.nil_append, Nat.add_eq_zero_iff, a_nl_i, a_nl_r, a_nl_n, true_or, or_true, eq_self, a_isRA_22, a_isRA_24, a_isRA_32, a_isA_20, ok_4, ok_5, ok_6, ok_7, ok_9, ok_20, ok_21, ok_30, ok_50, ok_180, ok_192, ok_200]
    refine ⟨fun _ => ?_, fun _ => ?_⟩
    · first
        | exact p0
        | exact ⟨by decide, p0⟩
    · refine ck_canTurn (m := m) (by clear hP hd p0 hZ hN hT pre; grind) hm.2 (by rw [← ea]; exact hN) es hT (fun v2 J2 g2 b2 f2 => ?_)
      simp only [q152_52, q152_55, q152_56, q152_59, q152_60, as_nil, as_i, as_r, Nat.reduceAdd, Nat.reduceLeDiff, z_eq0, z_eq1, z_or, z_em, Classical.not_not, not_false_eq_true, not_true_eq_false, true_and, and_true, false_and, and_false, and_self, true_implies, false_implies, implies_true, Option.toList_some, Option.toList_none, List.cons_append, List.nil_append, Nat.add_eq_zero_iff, a_nl_i, a_nl_r, a_nl_n, true_or, or_true, eq_self, a_isRA_22, a_isRA_24, a_isRA_32, a_isA_20, ok_4, ok_5, ok_6, ok_7, ok_9, ok_20, ok_21, ok_30, ok_50, ok_180, ok_192, ok_200]
      have q0 := hd 0 J2 g2 (Or.inl rfl) (fun h => absurd rfl h)
      refine ⟨fun _ => ?_, fun hv => ?_⟩
      · first
          | exact q0
          | exact ⟨by decide, q0⟩
      · have q1 := hd 1 J2 g2 (Or.inr rfl) (fun _ => f2 hv)
        first
          | exact q1
          | exact ⟨by decide, q1⟩
  | succ z ih =>
    intro a I R D P h1 ha hD hZ es hN hP
    obtain ⟨E, rfl⟩ : ∃ E, D = E + 20 := ⟨D - 20, by omega⟩
    have hT := hZ.2.1.1
    have hS := hT.s
    have h1i := Int32.le_iff_toInt_le.mp h1
    have ham : a < m := by rw [Int32.lt_iff_toInt_lt]; omega
    obtain ⟨k0, k1, y0, y1, x5⟩ := pre a I R h1 (Int32.le_of_lt ham) hZ hN
    have g0 := (hT.g_ask _ k0).2.2.1
    have g1 := (hT.g_ask _ k1).2.2.1
    have g29 : 0 ≤ I (R (C + 38) ((a - 1)).toNatClampNeg) 4 ∧ I (R (C + 38) ((a - 1)).toNatClampNeg) 4 < 30 := ⟨g1.1, by clear hP hZ hN hT pre ih; grind⟩
    have nm : ¬ m ≤ a := Int32.not_le.mpr ham
    have a5 : a < 5 := by clear hP hZ hN hT pre ih; grind
    have e1 : (a + 1).toInt = a.toInt + 1 := by rw [ti_add (by omega)]; omega
    have hr : ∀ (I : Nat → Nat → Int32) (R : Nat → Nat → Nat) (P : Option Value → AH → Prop), cZ9 C c n0 K0 L0 I0 R0 n t K L I R → I (C + 35) 7 = m → rnP C R (a + 1) → (∀ v J R2, cZ9 C c n0 K0 L0 I0 R0 n t K L J R2 → J (C + 35) 7 = m → rnP C R2 (a + 1) → (v = 0 ∨ v = 1) → (¬ v = 0 → rnP C R2 m ∧ frP C J R2 m) → P (some (.int v)) (n, t, K, L, J, R2)) → a_does (E + 19) 152 [a_rf (C + 35), .int (a + 1)] (n, t, K, L, I, R) P := fun I R P z e N hP => ih (a + 1) I R (E + 19) P (by rw [Int32.le_iff_toInt_le]; omega) (by omega) (by omega) z e N hP
    have hl0 : 0 ≤ I (R (C + 38) ((0 : Int32)).toNatClampNeg) 4 + 1 ∧ I (R (C + 38) ((0 : Int32)).toNatClampNeg) 4 + 1 ≤ 30 := by clear hP hZ hN hT pre ih hr; grind
    have hl := fun u => lk_closes_669 (E := E) (l := I (R (C + 38) ((0 : Int32)).toNatClampNeg) 4) hm h1 ham g29 g0.1 hr hP (I (R (C + 38) ((0 : Int32)).toNatClampNeg) 4 + 1) hl0.2 I R u hl0.1 hZ es hN
    rw [a_enter1 (M := a_m152) rfl (a_cat_rf (a_cat_int a_cat_nil)) (show 2 ≤ 6 by decide)]
    show a_at _ (a_xm a_m152) 0 [some (a_rf (C + 35)), some (.int a), none, none, none, none] [] _ _
    simp only [q152_0, q152_1, q152_4, q152_5, q152_6, q152_9, q152_10, q152_11, q152_14, q152_15, q152_16, q152_17, q152_18, q152_21, q152_22, q152_23, q152_24, q152_27, q152_30, q152_31, q152_32, q152_35, q152_36, q152_39, q152_40, q152_41, q152_42, q152_45, q152_48, q152_49, q152_52, q152_55, q152_56, q152_59, q152_60, q152_61, q152_62, q152_63, q152_64, k_35 hS, z_35, r_35_3 hS, k_38 hS, l_38 hS, z_38, r_35_2 hS, k_37 hS, l_37 hS, z_37, as_nil, as_i, as_r, Nat.reduceAdd, Nat.reduceLeDiff, z_eq0, z_eq1, z_or, z_em, Classical.not_not, not_false_eq_true, not_true_eq_false, true_and, and_true, false_and, and_false, and_self, true_implies, false_implies, implies_true, Option.toList_some, Option.toList_none, List.cons_append, List.nil_append, Nat.add_eq_zero_iff, a_nl_i, a_nl_r, a_nl_n, true_or, or_true, eq_self, a_isRA_22, a_isRA_24, a_isRA_32, a_isA_20, ok_4, ok_5, ok_6, ok_7, ok_9, ok_20, ok_21, ok_30, ok_50, ok_180, ok_192, ok_200, k0, k1, y0, y1, es, nm, a5]
    exact ⟨by decide, x5, hl _⟩
theorem lk_find_449 {m : Int32} (hm : 2 ≤ m ∧ m ≤ 5) (hP : ∀ v J R, cZ9 C c n0 K0 L0 I0 R0 n t K L J R → J (C + 35) 7 = v → (v = 0 ∨ (2 ≤ v ∧ v ≤ 5)) → rnP C R v → frP C J R v → P (some (.int v)) (n, t, K, L, J, R)) (hn : ∀ J R u, cZ9 C c n0 K0 L0 I0 R0 n t K L J R → a_at (d + 40) (a_xm a_m150) 94 [some (a_rf (C + 35)), some (.int m), u] [] (n, t, K, L, J, R) P) : ∀ i : Int32, i ≤ 30 → ∀ J R, 0 ≤ i → cZ9 C c n0 K0 L0 I0 R0 n t K L J R → J (C + 35) 7 = m → a_at (d + 40) (a_xm a_m150) 44 [some (a_rf (C + 35)), some (.int m), some (.int i)] [] (n, t, K, L, J, R) P := by
  refine up_ind 30 (fun i hk ih => ?_)
  intro J R q0 hZ es
  have hT := hZ.2.1.1
  have hS := hT.s
  have gA := hT.g_asksR
  have gB := hT.g_benchesR
  have gX := hT.g_textsR
  have gc := hT.g_asks
  have gi := gA i.toNatClampNeg
  have hnext : i < 30 → ∀ J R, cZ9 C c n0 K0 L0 I0 R0 n t K L J R → J (C + 35) 7 = m → a_at (d + 40) (a_xm a_m150) 88 [some (a_rf (C + 35)), some (.int m), some (.int i)] [] (n, t, K, L, J, R) P := fun hi J R z e => by
    simp only [q150_88, q150_91, as_nil, as_i, as_r, Nat.reduceAdd, Nat.reduceLeDiff, z_eq0, z_eq1, z_or, z_em, Classical.not_not, not_false_eq_true, not_true_eq_false, true_and, and_true, false_and, and_false, and_self, true_implies, false_implies, implies_true, Option.toList_some, Option.toList_none, List.cons_append, List.nil_append, Nat.add_eq_zero_iff, a_nl_i, a_nl_r, a_nl_n, true_or, or_true, eq_self, a_isRA_22, a_isRA_24, a_isRA_32, a_isA_20, ok_4, ok_5, ok_6, ok_7, ok_9, ok_20, ok_21, ok_30, ok_50, ok_180, ok_192, ok_200]
    exact ih hi J R (by clear hP hn ih hZ hT gA gB gX; grind) z e
  rw [q150_44]
  simp only [q150_45, q150_46, q150_49, q150_52, q150_55, q150_56, q150_59, q150_60, q150_61, q150_64, q150_65, k_35 hS, z_35, r_35_0 hS, k_14 hS, z_14, r_35_3 hS, k_38 hS, l_38 hS, z_38, sp_askAt hS gA, as_nil, as_i, as_r, Nat.reduceAdd, Nat.reduceLeDiff, z_eq0, z_eq1, z_or, z_em, Classical.not_not, not_false_eq_true, not_true_eq_false, true_and, and_true, false_and, and_false, and_self, true_implies, false_implies, implies_true, Option.toList_some, Option.toList_none, List.cons_append, List.nil_append, Nat.add_eq_zero_iff, a_nl_i, a_nl_r, a_nl_n, true_or, or_true, eq_self, a_isRA_22, a_isRA_24, a_isRA_32, a_isA_20, ok_4, ok_5, ok_6, ok_7, ok_9, ok_20, ok_21, ok_30, ok_50, ok_180, ok_192, ok_200]
  refine ⟨fun h1 => hn J R _ hZ, fun h1 => ?_⟩
  have h1 := Int32.not_le.mp h1
  have hi : i < 30 := by clear hP hn ih hZ hT hnext gA gB gX; grind
  have hn0 := hT.g_asksN i q0 h1
  have ha := gi.resolve_left hn0
  have z1 := cZ_R389 (j := 0) hZ (Or.inr ha)
  have N1 : rnP C (a_ur R (C + 38) 0 (R (C + 15) i.toNatClampNeg)) 1 := fun j j0 j1 => by
    have : j = 0 := by clear hP hn ih hZ hT hnext gA gB gX z1; grind
    subst this
    rw [ur_ap, if_pos ⟨rfl, rfl⟩]
    exact hn0
  have s0 := Int32.le_iff_toInt_le.mp hm.1
  have s1 := Int32.le_iff_toInt_le.mp hm.2
  have c1 : (1 : Int32).toInt = 1 := rfl
  have c2 : (2 : Int32).toInt = 2 := rfl
  have c5 : (5 : Int32).toInt = 5 := rfl
  refine ⟨fun _ => ?_, fun h => absurd ⟨q0, h1, hi⟩ h⟩
  simp only [q150_68, q150_69, q150_70, q150_73, q150_74, q150_75, q150_78, q150_79, q150_80, k_35 hS, z_35, r_35_2 hS, k_37 hS, l_37 hS, z_37, as_nil, as_i, as_r, Nat.reduceAdd, Nat.reduceLeDiff, z_eq0, z_eq1, z_or, z_em, Classical.not_not, not_false_eq_true, not_true_eq_false, true_and, and_true, false_and, and_false, and_self, true_implies, false_implies, implies_true, Option.toList_some, Option.toList_none, List.cons_append, List.nil_append, Nat.add_eq_zero_iff, a_nl_i, a_nl_r, a_nl_n, true_or, or_true, eq_self, a_isRA_22, a_isRA_24, a_isRA_32, a_isA_20, ok_4, ok_5, ok_6, ok_7, ok_9, ok_20, ok_21, ok_30, ok_50, ok_180, ok_192, ok_200, ur_ap, cc_ne, Nat.reduceEqDiff, if_false, k_38 hS, l_38 hS, z_38, cn00, ha]
  have hsame := hnext hi _ _ z1 es
  have hcl : a_does (d + 40) 152 [a_rf (C + 35), .int 1] (n, t, K, L, J, a_ur R (C + 38) 0 (R (C + 15) i.toNatClampNeg)) (fun r h' => a_at (d + 40) (a_xm a_m150) 83 [some (a_rf (C + 35)), some (.int m), some (.int i)] (r.toList ++ []) h' P) := by
    refine kCL_all9 (C := C) (c := c) (n0 := n0) (K0 := K0) (L0 := L0) (I0 := I0) (R0 := R0) (n := n) (t := t) (K := K) (L := L) hm (m.toInt - 1).toNat 1 J _ (d + 40) _ (by decide) (by omega) (by omega) z1 es N1 (fun v J2 R2 z2 e2 N2 b2 f2 => ?_)
    simp only [q150_83, q150_86, q150_87, as_nil, as_i, as_r, Nat.reduceAdd, Nat.reduceLeDiff, z_eq0, z_eq1, z_or, z_em, Classical.not_not, not_false_eq_true, not_true_eq_false, true_and, and_true, false_and, and_false, and_self, true_implies, false_implies, implies_true, Option.toList_some, Option.toList_none, List.cons_append, List.nil_append, Nat.add_eq_zero_iff, a_nl_i, a_nl_r, a_nl_n, true_or, or_true, eq_self, a_isRA_22, a_isRA_24, a_isRA_32, a_isA_20, ok_4, ok_5, ok_6, ok_7, ok_9, ok_20, ok_21, ok_30, ok_50, ok_180, ok_192, ok_200]
    refine ⟨fun _ => hnext hi J2 R2 z2 e2, fun hv => ?_⟩
    exact hP m J2 R2 z2 e2 (Or.inr hm) (f2 hv).1 (f2 hv).2
  repeat' first
    | with_reducible apply And.intro
    | with_reducible intro _
    | exact hsame
    | exact hcl
    | exact q0
    | exact hi
    | decide
    | (right; rfl)
theorem lk_find_329 (hP : ∀ v J R, cZ9 C c n0 K0 L0 I0 R0 n t K L J R → J (C + 35) 7 = v → (v = 0 ∨ (2 ≤ v ∧ v ≤ 5)) → rnP C R v → frP C J R v → P (some (.int v)) (n, t, K, L, J, R)) : ∀ m : Int32, m ≤ 6 → ∀ J R u, 2 ≤ m → cZ9 C c n0 K0 L0 I0 R0 n t K L J R → a_at (d + 40) (a_xm a_m150) 32 [some (a_rf (C + 35)), some (.int m), u] [] (n, t, K, L, J, R) P := by
  refine up_ind 6 (fun m hk ih => ?_)
  intro J R u q0 hZ
  have hT := hZ.2.1.1
  have hS := hT.s
  have hn : m < 6 → ∀ J R u, cZ9 C c n0 K0 L0 I0 R0 n t K L J R → a_at (d + 40) (a_xm a_m150) 94 [some (a_rf (C + 35)), some (.int m), u] [] (n, t, K, L, J, R) P := fun hi J R u z => by
    simp only [q150_94, q150_97, as_nil, as_i, as_r, Nat.reduceAdd, Nat.reduceLeDiff, z_eq0, z_eq1, z_or, z_em, Classical.not_not, not_false_eq_true, not_true_eq_false, true_and, and_true, false_and, and_false, and_self, true_implies, false_implies, implies_true, Option.toList_some, Option.toList_none, List.cons_append, List.nil_append, Nat.add_eq_zero_iff, a_nl_i, a_nl_r, a_nl_n, true_or, or_true, eq_self, a_isRA_22, a_isRA_24, a_isRA_32, a_isA_20, ok_4, ok_5, ok_6, ok_7, ok_9, ok_20, ok_21, ok_30, ok_50, ok_180, ok_192, ok_200]
    exact ih hi J R _ (by clear hP ih hZ hT; grind) z
  rw [q150_32]
  simp only [q150_33, q150_34, q150_37, q150_38, q150_39, q150_42, q150_43, k_35 hS, z_35, as_nil, as_i, as_r, Nat.reduceAdd, Nat.reduceLeDiff, z_eq0, z_eq1, z_or, z_em, Classical.not_not, not_false_eq_true, not_true_eq_false, true_and, and_true, false_and, and_false, and_self, true_implies, false_implies, implies_true, Option.toList_some, Option.toList_none, List.cons_append, List.nil_append, Nat.add_eq_zero_iff, a_nl_i, a_nl_r, a_nl_n, true_or, or_true, eq_self, a_isRA_22, a_isRA_24, a_isRA_32, a_isA_20, ok_4, ok_5, ok_6, ok_7, ok_9, ok_20, ok_21, ok_30, ok_50, ok_180, ok_192, ok_200, ui_ap, cc_ne, cc_n0, cc_0n, Nat.reduceEqDiff, reduceIte, if_true, if_false]
  refine ⟨fun h1 => ?_, fun h1 => ?_⟩
  · have z := cZ_G9 hZ (dG_Circle_size9 (v := 0) (dG_refl9 hT) (by decide))
    simp only [q150_100, q150_101, q150_102, q150_105, q150_106, k_35 hS, z_35, as_nil, as_i, as_r, Nat.reduceAdd, Nat.reduceLeDiff, z_eq0, z_eq1, z_or, z_em, Classical.not_not, not_false_eq_true, not_true_eq_false, true_and, and_true, false_and, and_false, and_self, true_implies, false_implies, implies_true, Option.toList_some, Option.toList_none, List.cons_append, List.nil_append, Nat.add_eq_zero_iff, a_nl_i, a_nl_r, a_nl_n, true_or, or_true, eq_self, a_isRA_22, a_isRA_24, a_isRA_32, a_isA_20, ok_4, ok_5, ok_6, ok_7, ok_9, ok_20, ok_21, ok_30, ok_50, ok_180, ok_192, ok_200, ui_ap, cc_ne, cc_n0, cc_0n, Nat.reduceEqDiff, reduceIte, if_true, if_false]
    exact hP 0 _ _ z (by rw [ui_ap, if_pos ⟨rfl, rfl⟩]) (Or.inl rfl) (fun i h0 h1 => absurd h1 (Int32.not_lt.mpr h0)) (fun i h0 h1 => absurd h1 (Int32.not_lt.mpr h0))
  · have hm : 2 ≤ m ∧ m ≤ 5 := by clear hP ih hZ hT hn; grind
    have z := cZ_G9 hZ (dG_Circle_size9 (v := m) (dG_refl9 hT) (by clear hP ih hZ hT hn; grind))
    exact lk_find_449 (d := d) hm hP (hn (by clear hP ih hZ hT hn; grind)) 0 (by decide) _ R (by decide) z (by rw [ui_ap, if_pos ⟨rfl, rfl⟩])
theorem lk_find_29 (hP : ∀ v J R, cZ9 C c n0 K0 L0 I0 R0 n t K L J R → J (C + 35) 7 = v → (v = 0 ∨ (2 ≤ v ∧ v ≤ 5)) → rnP C R v → frP C J R v → P (some (.int v)) (n, t, K, L, J, R)) : ∀ i : Int32, i ≤ 30 → ∀ J R u, 0 ≤ i → cZ9 C c n0 K0 L0 I0 R0 n t K L J R → a_at (d + 40) (a_xm a_m150) 2 [some (a_rf (C + 35)), some (.int i), u] [] (n, t, K, L, J, R) P := by
  refine up_ind 30 (fun i hk ih => ?_)
  intro J R u q0 hZ
  have hT := hZ.2.1.1
  have hS := hT.s
  have gc := hT.g_asks
  rw [q150_2]
  simp only [q150_3, q150_4, q150_7, q150_10, q150_13, q150_14, q150_17, q150_18, q150_19, q150_20, k_35 hS, z_35, r_35_0 hS, k_14 hS, z_14, r_35_2 hS, k_37 hS, l_37 hS, z_37, as_nil, as_i, as_r, Nat.reduceAdd, Nat.reduceLeDiff, z_eq0, z_eq1, z_or, z_em, Classical.not_not, not_false_eq_true, not_true_eq_false, true_and, and_true, false_and, and_false, and_self, true_implies, false_implies, implies_true, Option.toList_some, Option.toList_none, List.cons_append, List.nil_append, Nat.add_eq_zero_iff, a_nl_i, a_nl_r, a_nl_n, true_or, or_true, eq_self, a_isRA_22, a_isRA_24, a_isRA_32, a_isA_20, ok_4, ok_5, ok_6, ok_7, ok_9, ok_20, ok_21, ok_30, ok_50, ok_180, ok_192, ok_200, ui_ap, cc_ne, cc_n0, cc_0n, Nat.reduceEqDiff, reduceIte, if_true, if_false]
  refine ⟨fun h1 => ?_, fun h1 => ?_⟩
  · simp only [q150_30, q150_31, as_nil, as_i, as_r, Nat.reduceAdd, Nat.reduceLeDiff, z_eq0, z_eq1, z_or, z_em, Classical.not_not, not_false_eq_true, not_true_eq_false, true_and, and_true, false_and, and_false, and_self, true_implies, false_implies, implies_true, Option.toList_some, Option.toList_none, List.cons_append, List.nil_append, Nat.add_eq_zero_iff, a_nl_i, a_nl_r, a_nl_n, true_or, or_true, eq_self, a_isRA_22, a_isRA_24, a_isRA_32, a_isA_20, ok_4, ok_5, ok_6, ok_7, ok_9, ok_20, ok_21, ok_30, ok_50, ok_180, ok_192, ok_200, ui_ap, cc_ne, cc_n0, cc_0n, Nat.reduceEqDiff, reduceIte, if_true, if_false]
    exact lk_find_329 (d := d) hP 2 (by decide) J R u (by decide) hZ
  · have hi : 0 ≤ i ∧ i < 30 := by clear hP ih hZ hT; grind
    refine ck_soundWishes hi hT (fun v J2 j2 => ?_)
    have z := cZ_G9 (cZ_C9 hZ j2) (dG_379 (k := i.toNatClampNeg) (v := v) (dG_refl9 j2.1))
    simp only [q150_23, q150_24, q150_27, as_nil, as_i, as_r, Nat.reduceAdd, Nat.reduceLeDiff, z_eq0, z_eq1, z_or, z_em, Classical.not_not, not_false_eq_true, not_true_eq_false, true_and, and_true, false_and, and_false, and_self, true_implies, false_implies, implies_true, Option.toList_some, Option.toList_none, List.cons_append, List.nil_append, Nat.add_eq_zero_iff, a_nl_i, a_nl_r, a_nl_n, true_or, or_true, eq_self, a_isRA_22, a_isRA_24, a_isRA_32, a_isA_20, ok_4, ok_5, ok_6, ok_7, ok_9, ok_20, ok_21, ok_30, ok_50, ok_180, ok_192, ok_200, ui_ap, cc_ne, cc_n0, cc_0n, Nat.reduceEqDiff, reduceIte, if_true, if_false, k_37 hS, l_37 hS, z_37]
    exact ⟨hi, ih hi.2 _ R u (by clear hP ih hZ hT z j2; grind) z⟩
theorem ck_find9 (hZ : cZ9 C c n0 K0 L0 I0 R0 n t K L I R) (hP : ∀ v J R, cZ9 C c n0 K0 L0 I0 R0 n t K L J R → J (C + 35) 7 = v → (v = 0 ∨ (2 ≤ v ∧ v ≤ 5)) → rnP C R v → frP C J R v → P (some (.int v)) (n, t, K, L, J, R)) : a_does (d + 41) 150 [a_rf (C + 35)] (n, t, K, L, I, R) P := by
  have hS := hZ.2.1.1.s
  have hl := fun u => lk_find_29 (d := d) hP 0 (by decide) I R u (by decide) hZ
  rw [a_enter1 (M := a_m150) rfl (a_cat_rf a_cat_nil) (show 1 ≤ 3 by decide)]
  show a_at _ (a_xm a_m150) 0 [some (a_rf (C + 35)), none, none] [] _ _
  simp only [q150_0, q150_1, as_nil, as_i, as_r, Nat.reduceAdd, Nat.reduceLeDiff, z_eq0, z_eq1, z_or, z_em, Classical.not_not, not_false_eq_true, not_true_eq_false, true_and, and_true, false_and, and_false, and_self, true_implies, false_implies, implies_true, Option.toList_some, Option.toList_none, List.cons_append, List.nil_append, Nat.add_eq_zero_iff, a_nl_i, a_nl_r, a_nl_n, true_or, or_true, eq_self, a_isRA_22, a_isRA_24, a_isRA_32, a_isA_20, ok_4, ok_5, ok_6, ok_7, ok_9, ok_20, ok_21, ok_30, ok_50, ok_180, ok_192, ok_200, ui_ap, cc_ne, cc_n0, cc_0n, Nat.reduceEqDiff, reduceIte, if_true, if_false]
  exact hl _
theorem lk_turn_359 {m : Int32} {u0 : Option Value} (h1m : 1 ≤ m) (hm : m ≤ 5) (hN : rnP C R m) (hF : ∀ k : Int32, 0 ≤ k → k < m → fitP (I (C + 40) (nxt m k).toNatClampNeg) (I (R (C + 38) (k).toNatClampNeg) 2)) (hP : ∀ v J, cZ9 C c n0 K0 L0 I0 R0 (n + 1) t K L J R → P (some (.int v)) (n + 1, t, K, L, J, R)) : ∀ i : Int32, i ≤ 5 → ∀ J w, 0 ≤ i → cZ9 C c n0 K0 L0 I0 R0 (n + 1) t K L J R → J (C + 35) 7 = m → (∀ k, J (C + 40) k = I (C + 40) k) → (∀ b, K b = 1 → J b 2 = I b 2) → a_at (d + 7) (a_xm a_m159) 35 [some (a_rf (C + 35)), some (.int i), w] [] (n + 1, t, K, L, J, R) P := by
  refine up_ind 5 (fun i hk ih => ?_)
  intro J w q0 hZ es e40 e2
  have hT := hZ.2.1.1
  have hS := hT.s
  have hm0 : ¬ m = 0 := by clear hP ih hN hF hZ hT e40 e2; grind
  rw [q159_35]
  simp only [q159_36, q159_37, q159_40, q159_43, q159_44, q159_45, q159_46, q159_47, q159_50, q159_51, q159_52, q159_53, q159_56, q159_57, q159_60, q159_61, q159_62, q159_63, q159_66, q159_67, q159_68, q159_69, q159_72, q159_73, q159_74, k_35 hS, z_35, r_35_0 hS, k_14 hS, z_14, r_35_3 hS, k_38 hS, l_38 hS, z_38, r_35_4 hS, k_39 hS, l_39 hS, z_39, r_35_5 hS, k_40 hS, l_40 hS, z_40, as_nil, as_i, as_r, Nat.reduceAdd, Nat.reduceLeDiff, z_eq0, z_eq1, z_or, z_em, Classical.not_not, not_false_eq_true, not_true_eq_false, true_and, and_true, false_and, and_false, and_self, true_implies, false_implies, implies_true, Option.toList_some, Option.toList_none, List.cons_append, List.nil_append, Nat.add_eq_zero_iff, a_nl_i, a_nl_r, a_nl_n, true_or, or_true, eq_self, a_isRA_22, a_isRA_24, a_isRA_32, a_isA_20, ok_4, ok_5, ok_6, ok_7, ok_9, ok_20, ok_21, ok_30, ok_50, ok_180, ok_192, ok_200, es, hm0]
  refine ⟨fun h1 => ?_, fun h1 => ?_⟩
  · simp only [q159_98, q159_99, q159_102, k_35 hS, z_35, as_nil, as_i, as_r, Nat.reduceAdd, Nat.reduceLeDiff, z_eq0, z_eq1, z_or, z_em, Classical.not_not, not_false_eq_true, not_true_eq_false, true_and, and_true, false_and, and_false, and_self, true_implies, false_implies, implies_true, Option.toList_some, Option.toList_none, List.cons_append, List.nil_append, Nat.add_eq_zero_iff, a_nl_i, a_nl_r, a_nl_n, true_or, or_true, eq_self, a_isRA_22, a_isRA_24, a_isRA_32, a_isA_20, ok_4, ok_5, ok_6, ok_7, ok_9, ok_20, ok_21, ok_30, ok_50, ok_180, ok_192, ok_200]
    exact hP _ J hZ
  · have h1 := Int32.not_le.mp h1
    have hi : 0 ≤ i ∧ i < 5 := by clear hP ih hN hF hZ hT e40 e2; grind
    have hx := nxt_lt hm q0 h1
    have hx5 : 0 ≤ nxt m i ∧ nxt m i < 5 := ⟨hx.1, by clear hP ih hN hF hZ hT e40 e2; grind⟩
    have ha := rn_ask hT hN q0 h1
    have hn := hN i q0 h1
    have hf : fitP (J (C + 40) (nxt m i).toNatClampNeg) (J (R (C + 38) (i).toNatClampNeg) 2) := by rw [e40, e2 _ ha]; exact hF i q0 h1
    have ga := hT.g_ask _ ha
    show (0 ≤ i ∧ i < 5) ∧ (0 ≤ nxt m i ∧ nxt m i < 5) ∧ (0 ≤ nxt m i ∧ nxt m i < 5) ∧ _
    refine ⟨hi, hx5, hx5, ?_⟩
    refine ck_place ha hT hf (fun J2 j2 => ?_)
    have z2 := cZ_G9 (cZ_L9 hZ j2) (dG_369 (k := (J2 (R (C + 38) (i).toNatClampNeg) 4).toNatClampNeg) (v := 0) (dG_refl9 j2.1))
    have g4 := (j2.1.g_ask _ ha).2.2.1
    have g30 : 0 ≤ J2 (R (C + 38) (i).toNatClampNeg) 4 ∧ J2 (R (C + 38) (i).toNatClampNeg) 4 < 30 := ⟨g4.1, by clear hP ih hN hF hZ hT e40 e2 z2 j2 ga; grind⟩
    have hfin := fun w => ih hi.2 _ w (by clear hP ih hN hF hZ hT e40 e2 z2 j2 ga; grind) z2 (by rw [ui_ap, if_neg (by omega), j2.2 _ _ (by omega) (by omega) (by omega)]; exact es) (fun k => by rw [ui_ap, if_neg (by omega), dL_40 j2]; exact e40 k) (fun b hb => by
      have gb := (hT.g_ask b hb).1
      rw [ui_ap, if_neg (by omega), dL_at j2 hT hb 2 (by decide) (by decide)]
      exact e2 b hb)
    simp only [q159_77, q159_78, q159_81, q159_82, q159_85, q159_86, q159_87, q159_90, q159_91, q159_92, q159_95, k_35 hS, z_35, r_35_1 hS, k_36 hS, l_36 hS, z_36, r_35_3 hS, k_38 hS, l_38 hS, z_38, as_nil, as_i, as_r, Nat.reduceAdd, Nat.reduceLeDiff, z_eq0, z_eq1, z_or, z_em, Classical.not_not, not_false_eq_true, not_true_eq_false, true_and, and_true, false_and, and_false, and_self, true_implies, false_implies, implies_true, Option.toList_some, Option.toList_none, List.cons_append, List.nil_append, Nat.add_eq_zero_iff, a_nl_i, a_nl_r, a_nl_n, true_or, or_true, eq_self, a_isRA_22, a_isRA_24, a_isRA_32, a_isA_20, ok_4, ok_5, ok_6, ok_7, ok_9, ok_20, ok_21, ok_30, ok_50, ok_180, ok_192, ok_200, ui_ap, cc_ne, cc_n0, cc_0n, Nat.reduceEqDiff, reduceIte, if_true, if_false, ha, hn]
    exact ⟨hi, g30, hfin _⟩
theorem lk_turn_69 {m : Int32} (h1m : 1 ≤ m) (hm : m ≤ 5) (hN : rnP C R m) (hF : ∀ k : Int32, 0 ≤ k → k < m → fitP (I (C + 40) (nxt m k).toNatClampNeg) (I (R (C + 38) (k).toNatClampNeg) 2)) (C96 : C + 96 < n'' + 1) (hn0 : ∀ x, n'' + 1 ≤ x → K x = 0) (hT0 : cT C K L I R) (hP : ∀ v n t K L J R, cZ9 C c n0 K0 L0 I0 R0 (n + 1) t K L J R → P (some (.int v)) (n + 1, t, K, L, J, R)) : ∀ i : Int32, i ≤ 5 → ∀ n t K' L' J R' w, 0 ≤ i → cZ9 C c n0 K0 L0 I0 R0 (n + 1) t K' L' J R' → dQ C (n'' + 1) K L I R (n + 1) K' L' J R' → J (C + 35) 7 = m → a_at (d + 7) (a_xm a_m159) 6 [some (a_rf (C + 35)), some (.int i), w] [] (n + 1, t, K', L', J, R') P := by
  refine up_ind 5 (fun i hk ih => ?_)
  intro n t K' L' J R' w q0 hZ hQ es
  have hT := hZ.2.1.1
  have hS := hT.s
  have askl : ∀ k : Int32, 0 ≤ k → k < m → (R (C + 38) (k).toNatClampNeg) < n'' + 1 := fun k k0 kk => kn_lt hn0 (rn_ask hT0 hN k0 kk) (by decide)
  have eR : ∀ k, R' (C + 38) k = R (C + 38) k := fun k => hQ.2.2.2.1 _ _ (by omega) (by rw [k_38 hT0.s]; decide)
  have hN' : rnP C R' m := fun k k0 kk => by rw [eR]; exact hN k k0 kk
  have e40 : ∀ k, J (C + 40) k = I (C + 40) k := fun k => hQ.2.2.2.2 _ _ (by omega) (by omega) (by omega) (by omega)
  have e2 : ∀ k : Int32, 0 ≤ k → k < m → J (R (C + 38) (k).toNatClampNeg) 2 = I (R (C + 38) (k).toNatClampNeg) 2 := fun k k0 kk => by
    have ha := rn_ask hT0 hN k0 kk
    have ga := (hT0.g_ask _ ha).1
    refine hQ.2.2.2.2 _ _ (askl k k0 kk) (by omega) (by omega) ?_
    intro q
    rw [ha] at q
    omega
  rw [q159_6]
  simp only [q159_7, q159_8, q159_11, q159_14, q159_15, q159_18, q159_19, q159_22, q159_23, q159_24, k_35 hS, z_35, r_35_0 hS, k_14 hS, z_14, r_35_3 hS, k_38 hS, l_38 hS, z_38, as_nil, as_i, as_r, Nat.reduceAdd, Nat.reduceLeDiff, z_eq0, z_eq1, z_or, z_em, Classical.not_not, not_false_eq_true, not_true_eq_false, true_and, and_true, false_and, and_false, and_self, true_implies, false_implies, implies_true, Option.toList_some, Option.toList_none, List.cons_append, List.nil_append, Nat.add_eq_zero_iff, a_nl_i, a_nl_r, a_nl_n, true_or, or_true, eq_self, a_isRA_22, a_isRA_24, a_isRA_32, a_isA_20, ok_4, ok_5, ok_6, ok_7, ok_9, ok_20, ok_21, ok_30, ok_50, ok_180, ok_192, ok_200, es]
  refine ⟨fun h1 => ?_, fun h1 => ?_⟩
  · simp only [q159_33, q159_34, as_nil, as_i, as_r, Nat.reduceAdd, Nat.reduceLeDiff, z_eq0, z_eq1, z_or, z_em, Classical.not_not, not_false_eq_true, not_true_eq_false, true_and, and_true, false_and, and_false, and_self, true_implies, false_implies, implies_true, Option.toList_some, Option.toList_none, List.cons_append, List.nil_append, Nat.add_eq_zero_iff, a_nl_i, a_nl_r, a_nl_n, true_or, or_true, eq_self, a_isRA_22, a_isRA_24, a_isRA_32, a_isA_20, ok_4, ok_5, ok_6, ok_7, ok_9, ok_20, ok_21, ok_30, ok_50, ok_180, ok_192, ok_200]
    refine lk_turn_359 (d := d) (u0 := none) (I := J) h1m hm hN' (fun k k0 kk => ?_) (fun v J z => hP v n t K' L' J R' z) 0 (by decide) J w (by decide) hZ es (fun _ => rfl) (fun _ _ => rfl)
    rw [e40, eR, e2 k k0 kk]
    exact hF k k0 kk
  · have h1 := Int32.not_le.mp h1
    have hi : 0 ≤ i ∧ i < 5 := by clear hP ih hN hF hZ hT e40 e2 hQ hN' eR hn0 askl hT0; grind
    have ha := rn_ask hT hN' q0 h1
    refine ⟨hi, ?_⟩
    refine ck_clear ha hZ.2.1 (fun n2 t2 K2 L2 J2 R2 h2 q2 => ?_)
    simp only [q159_27, q159_30, as_nil, as_i, as_r, Nat.reduceAdd, Nat.reduceLeDiff, z_eq0, z_eq1, z_or, z_em, Classical.not_not, not_false_eq_true, not_true_eq_false, true_and, and_true, false_and, and_false, and_self, true_implies, false_implies, implies_true, Option.toList_some, Option.toList_none, List.cons_append, List.nil_append, Nat.add_eq_zero_iff, a_nl_i, a_nl_r, a_nl_n, true_or, or_true, eq_self, a_isRA_22, a_isRA_24, a_isRA_32, a_isA_20, ok_4, ok_5, ok_6, ok_7, ok_9, ok_20, ok_21, ok_30, ok_50, ok_180, ok_192, ok_200]
    refine ih hi.2 n2 t2 K2 L2 J2 R2 w (by clear hP ih hN hF hZ hT e40 e2 hQ hN' eR hn0 askl hT0 h2 q2; grind) (cZ_Q9 hZ q2 h2) (dQ_Q hQ q2) ?_
    rw [q2.2.2.2.2 _ _ (by have := hQ.1; omega) (by omega) (by omega) (by omega)]
    exact es
theorem ck_turn9 {m : Int32} (h1m : 1 ≤ m) (hm : m ≤ 5) (hN : rnP C R m) (hF : frP C I R m) (es : I (C + 35) 7 = m) (hZ : cZ9 C c n0 K0 L0 I0 R0 (n + 1) t K L I R) (hP : ∀ v n t K L J R, cZ9 C c n0 K0 L0 I0 R0 (n + 1) t K L J R → P (some (.int v)) (n + 1, t, K, L, J, R)) : a_does (d + 8) 159 [a_rf (C + 35)] (n + 1, t, K, L, I, R) P := by
  have hT := hZ.2.1.1
  have hS := hT.s
  rw [a_enter1 (M := a_m159) rfl (a_cat_rf a_cat_nil) (show 1 ≤ 3 by decide)]
  show a_at _ (a_xm a_m159) 0 [some (a_rf (C + 35)), none, none] [] _ _
  simp only [q159_0, q159_1, k_35 hS, z_35, as_nil, as_i, as_r, Nat.reduceAdd, Nat.reduceLeDiff, z_eq0, z_eq1, z_or, z_em, Classical.not_not, not_false_eq_true, not_true_eq_false, true_and, and_true, false_and, and_false, and_self, true_implies, false_implies, implies_true, Option.toList_some, Option.toList_none, List.cons_append, List.nil_append, Nat.add_eq_zero_iff, a_nl_i, a_nl_r, a_nl_n, true_or, or_true, eq_self, a_isRA_22, a_isRA_24, a_isRA_32, a_isA_20, ok_4, ok_5, ok_6, ok_7, ok_9, ok_20, ok_21, ok_30, ok_50, ok_180, ok_192, ok_200]
  refine ck_keepPlaces hT (by rw [es]; exact hN) (fun J1 t1 f1 k1 => ?_)
  rw [es] at k1
  simp only [q159_4, q159_5, as_nil, as_i, as_r, Nat.reduceAdd, Nat.reduceLeDiff, z_eq0, z_eq1, z_or, z_em, Classical.not_not, not_false_eq_true, not_true_eq_false, true_and, and_true, false_and, and_false, and_self, true_implies, false_implies, implies_true, Option.toList_some, Option.toList_none, List.cons_append, List.nil_append, Nat.add_eq_zero_iff, a_nl_i, a_nl_r, a_nl_n, true_or, or_true, eq_self, a_isRA_22, a_isRA_24, a_isRA_32, a_isA_20, ok_4, ok_5, ok_6, ok_7, ok_9, ok_20, ok_21, ok_30, ok_50, ok_180, ok_192, ok_200]
  have r1 : dR C K L R I J1 := ⟨t1, fun x j _ _ p q r _ => f1 x j p q r⟩
  have z1 := cZ_G9 hZ (dR_G9 r1)
  refine lk_turn_69 (d := d) (n'' := n) (I := J1) h1m hm hN (fun k k0 kk => ?_) hZ.2.1.2.2.1 hZ.2.1.2.1 t1 hP 0 (by decide) n t K L J1 R _ (by decide) z1 dQ_refl (by rw [f1 _ _ (by omega) (by omega) (by omega)]; exact es)
  obtain ⟨x0, x1⟩ := nxt_lt hm k0 kk
  have ha := rn_ask hT hN k0 kk
  have ga := (hT.g_ask _ ha).1
  rw [(k1 _ x0 x1).2, f1 _ 2 (by omega) (by omega) (by omega)]
  exact hF k k0 kk
end KH
/-! the class: public methods -/
section KI
variable {d n t C c n0 n' n'' t' : Nat} {K L K0 L0 K' L' K'' L'' : Nat → Nat} {I I0 J J0 J1 J2 : Nat → Nat → Int32} {R R0 R' R'' : Nat → Nat → Nat} {P : Option Value → AH → Prop}
theorem ck_refuse9 (hZ : cZ9 C c n0 K0 L0 I0 R0 n t K L I R) {v : Int32} (hP : ∀ J, cZ9 C c n0 K0 L0 I0 R0 n t K L J R → P (some (.int v)) (n, t, K, L, J, R)) : a_does (d + 1) 10 [a_rf C, .int v] (n, t, K, L, I, R) P := by
  have hT := hZ.2.1.1
  have hS := hT.s
  have hw : ∀ k w, cZ9 C c n0 K0 L0 I0 R0 n t K L (a_ui I (C + 42) k w) R := fun k w => cZ_G9 hZ (dG_429 (dG_refl9 hT))
  rw [a_enter1 (M := a_m10) rfl (a_cat_rf (a_cat_int a_cat_nil)) (show 2 ≤ 2 by decide)]
  show a_at _ (a_xm a_m10) 0 [some (a_rf C), some (.int v)] [] _ _
  repeat' first
    | with_reducible apply And.intro
    | with_reducible assumption
    | with_reducible intro _
    | with_reducible apply hP
    | with_reducible apply hw
    | simp only [q10_0, q10_1, q10_4, q10_5, q10_7, q10_10, q10_11, q10_14, q10_15, q10_16, q10_17, q10_18, q10_19, q10_20, q10_21, q10_22, k_0 hS, z_C hS, r_0_8 hS, k_42 hS, l_42 hS, z_42, as_nil, as_i, as_r, Nat.reduceAdd, Nat.reduceLeDiff, z_eq0, z_eq1, z_or, z_em, Classical.not_not, not_false_eq_true, not_true_eq_false, true_and, and_true, false_and, and_false, and_self, true_implies, false_implies, implies_true, Option.toList_some, Option.toList_none, List.cons_append, List.nil_append, Nat.add_eq_zero_iff, a_nl_i, a_nl_r, a_nl_n, true_or, or_true, eq_self, a_isRA_22, a_isRA_24, a_isRA_32, a_isA_20, ok_4, ok_5, ok_6, ok_7, ok_9, ok_20, ok_21, ok_30, ok_50, ok_180, ok_192, ok_200]
  all_goals ((try clear ih); (try clear hP); (try clear hl); (try clear hq); (try clear a3); grind [ui_ap])
theorem cu_shiftOf9 (hH : cH C c (n + 1) t K L I R) {s w k : Int32} (hP : ∀ v n' t' K' L' J R', cZ9 C (c + 4) (n + 1) K L I R (n' + 1) t' K' L' J R' → P (some (.int v)) (n' + 1, t', K', L', J, R')) : a_does (d + 70) 17 [a_rf C, .int s, .int w, .int k] (n + 1, t, K, L, I, R) P := by
  have hT := hH.1
  have hS := hT.s
  have hZ := cZ_refl9 hH
  have hq : ∀ v J R1, cZ9 C c (n + 1) K L I R (n + 1) t K L J R1 → P (some (.int v)) (n + 1, t, K, L, J, R1) := fun v J R1 z => hP v n t K L J R1 (cZ_le9 z (by omega))
  clear hP
  have gA := hT.g_asksR
  have gB := hT.g_benchesR
  have gX := hT.g_textsR
  rw [a_enter1 (M := a_m17) rfl (a_cat_rf (a_cat_int (a_cat_int (a_cat_int a_cat_nil)))) (show 4 ≤ 4 by decide)]
  show a_at _ (a_xm a_m17) 0 [some (a_rf C), some (.int s), some (.int w), some (.int k)] [] _ _
  repeat' first
    | with_reducible apply And.intro
    | with_reducible assumption
    | with_reducible intro _
    | exact hq _ _ _ hZ
    | exact hq _ _ _ (by assumption)
    | exact hq _ _ _ (cZ_C9 hZ (by assumption))
    | exact hq _ _ _ (cZ_G9 hZ (by assumption))
    | exact hq _ _ _ (cZ_L9 hZ (by assumption))
    | refine ck_refuse9 hZ (fun _ _ => ?_)
    | refine ck_refuse9 (cZ_C9 hZ (by assumption)) (fun _ _ => ?_)
    | exact dC_T (by assumption)
    | exact dG_refl9 hT
    | with_reducible apply ck_lostAsKnown hT
    | simp only [q17_0, q17_1, q17_4, q17_7, q17_8, q17_9, q17_12, q17_13, q17_14, q17_17, q17_18, q17_19, q17_22, q17_23, q17_25, q17_28, q17_29, q17_30, q17_33, q17_34, q17_36, q17_39, q17_40, q17_41, q17_42, q17_45, q17_48, q17_51, q17_52, q17_54, q17_57, q17_58, q17_59, q17_62, q17_63, q17_66, q17_69, q17_70, q17_71, q17_74, q17_75, q17_78, q17_79, q17_80, q17_83, k_0 hS, z_C hS, r_0_0 hS, k_1 hS, z_1, r_1_0 hS, k_2 hS, l_2 hS, z_2, sp_isShiftC, as_nil, as_i, as_r, Nat.reduceAdd, Nat.reduceLeDiff, z_eq0, z_eq1, z_or, z_em, Classical.not_not, not_false_eq_true, not_true_eq_false, true_and, and_true, false_and, and_false, and_self, true_implies, false_implies, implies_true, Option.toList_some, Option.toList_none, List.cons_append, List.nil_append, Nat.add_eq_zero_iff, a_nl_i, a_nl_r, a_nl_n, true_or, or_true, eq_self, a_isRA_22, a_isRA_24, a_isRA_32, a_isA_20, ok_4, ok_5, ok_6, ok_7, ok_9, ok_20, ok_21, ok_30, ok_50, ok_180, ok_192, ok_200]
  all_goals ((try clear ih); (try clear hP); (try clear hl); (try clear hq); (try clear hZ); (try clear hH); grind [ui_ap])
theorem cu_markOf9 (hH : cH C c (n + 1) t K L I R) {q : Int32} (hP : ∀ v n' t' K' L' J R', cZ9 C (c + 4) (n + 1) K L I R (n' + 1) t' K' L' J R' → P (some (.int v)) (n' + 1, t', K', L', J, R')) : a_does (d + 70) 96 [a_rf C, .int q] (n + 1, t, K, L, I, R) P := by
  have hT := hH.1
  have hS := hT.s
  have hZ := cZ_refl9 hH
  have hq : ∀ v J R1, cZ9 C c (n + 1) K L I R (n + 1) t K L J R1 → P (some (.int v)) (n + 1, t, K, L, J, R1) := fun v J R1 z => hP v n t K L J R1 (cZ_le9 z (by omega))
  clear hP
  have gA := hT.g_asksR
  have gB := hT.g_benchesR
  have gX := hT.g_textsR
  have gi := gA q.toNatClampNeg
  have ga := fun h => hT.g_ask (R (C + 15) q.toNatClampNeg) (gi.resolve_left h)
  rw [a_enter1 (M := a_m96) rfl (a_cat_rf (a_cat_int a_cat_nil)) (show 2 ≤ 3 by decide)]
  show a_at _ (a_xm a_m96) 0 [some (a_rf C), some (.int q), none] [] _ _
  repeat' first
    | with_reducible apply And.intro
    | with_reducible assumption
    | with_reducible intro _
    | exact hq _ _ _ hZ
    | exact hq _ _ _ (by assumption)
    | exact hq _ _ _ (cZ_C9 hZ (by assumption))
    | exact hq _ _ _ (cZ_G9 hZ (by assumption))
    | exact hq _ _ _ (cZ_L9 hZ (by assumption))
    | refine ck_refuse9 hZ (fun _ _ => ?_)
    | refine ck_refuse9 (cZ_C9 hZ (by assumption)) (fun _ _ => ?_)
    | exact dC_T (by assumption)
    | exact dG_refl9 hT
    | simp only [q96_0, q96_1, q96_4, q96_5, q96_8, q96_9, q96_10, q96_13, q96_14, q96_15, q96_18, q96_21, q96_22, q96_25, k_0 hS, z_C hS, r_0_4 hS, k_14 hS, z_14, sp_askAt hS gA, as_nil, as_i, as_r, Nat.reduceAdd, Nat.reduceLeDiff, z_eq0, z_eq1, z_or, z_em, Classical.not_not, not_false_eq_true, not_true_eq_false, true_and, and_true, false_and, and_false, and_self, true_implies, false_implies, implies_true, Option.toList_some, Option.toList_none, List.cons_append, List.nil_append, Nat.add_eq_zero_iff, a_nl_i, a_nl_r, a_nl_n, true_or, or_true, eq_self, a_isRA_22, a_isRA_24, a_isRA_32, a_isA_20, ok_4, ok_5, ok_6, ok_7, ok_9, ok_20, ok_21, ok_30, ok_50, ok_180, ok_192, ok_200]
  all_goals ((try clear ih); (try clear hP); (try clear hl); (try clear hq); (try clear hZ); (try clear hH); grind [ui_ap])
theorem cu_fit9 (hH : cH C c (n + 1) t K L I R) {q b s : Int32} (hP : ∀ v n' t' K' L' J R', cZ9 C (c + 4) (n + 1) K L I R (n' + 1) t' K' L' J R' → P (some (.int v)) (n' + 1, t', K', L', J, R')) : a_does (d + 70) 99 [a_rf C, .int q, .int b, .int s] (n + 1, t, K, L, I, R) P := by
  have hT := hH.1
  have hS := hT.s
  have hZ := cZ_refl9 hH
  have hq : ∀ v J R1, cZ9 C c (n + 1) K L I R (n + 1) t K L J R1 → P (some (.int v)) (n + 1, t, K, L, J, R1) := fun v J R1 z => hP v n t K L J R1 (cZ_le9 z (by omega))
  clear hP
  have gA := hT.g_asksR
  have gB := hT.g_benchesR
  have gX := hT.g_textsR
  have gi := gA q.toNatClampNeg
  have ga := fun h => hT.g_ask (R (C + 15) q.toNatClampNeg) (gi.resolve_left h)
  have gb := gB b.toNatClampNeg
  rw [a_enter1 (M := a_m99) rfl (a_cat_rf (a_cat_int (a_cat_int (a_cat_int a_cat_nil)))) (show 4 ≤ 5 by decide)]
  show a_at _ (a_xm a_m99) 0 [some (a_rf C), some (.int q), some (.int b), some (.int s), none] [] _ _
  repeat' first
    | with_reducible apply And.intro
    | with_reducible assumption
    | with_reducible intro _
    | exact hq _ _ _ hZ
    | exact hq _ _ _ (by assumption)
    | exact hq _ _ _ (cZ_C9 hZ (by assumption))
    | exact hq _ _ _ (cZ_G9 hZ (by assumption))
    | exact hq _ _ _ (cZ_L9 hZ (by assumption))
    | refine ck_refuse9 hZ (fun _ _ => ?_)
    | refine ck_refuse9 (cZ_C9 hZ (by assumption)) (fun _ _ => ?_)
    | exact dC_T (by assumption)
    | exact dG_refl9 hT
    | with_reducible apply ck_firstBar ?_ hT
    | simp only [q99_0, q99_1, q99_4, q99_5, q99_8, q99_10, q99_12, q99_15, q99_16, q99_19, q99_20, q99_23, q99_26, q99_27, q99_30, q99_33, q99_34, q99_35, q99_38, q99_39, q99_40, q99_43, q99_45, q99_46, q99_47, q99_50, k_0 hS, z_C hS, r_0_4 hS, k_14 hS, z_14, sp_askAt hS gA, sp_benchAt hS gB, sp_isShiftC, as_nil, as_i, as_r, Nat.reduceAdd, Nat.reduceLeDiff, z_eq0, z_eq1, z_or, z_em, Classical.not_not, not_false_eq_true, not_true_eq_false, true_and, and_true, false_and, and_false, and_self, true_implies, false_implies, implies_true, Option.toList_some, Option.toList_none, List.cons_append, List.nil_append, Nat.add_eq_zero_iff, a_nl_i, a_nl_r, a_nl_n, true_or, or_true, eq_self, a_isRA_22, a_isRA_24, a_isRA_32, a_isA_20, ok_4, ok_5, ok_6, ok_7, ok_9, ok_20, ok_21, ok_30, ok_50, ok_180, ok_192, ok_200]
  all_goals ((try clear ih); (try clear hP); (try clear hl); (try clear hq); (try clear hZ); (try clear hH); grind [ui_ap])
theorem cu_why9 (hH : cH C c (n + 1) t K L I R) {q b s x y : Int32} (hP : ∀ v n' t' K' L' J R', cZ9 C (c + 4) (n + 1) K L I R (n' + 1) t' K' L' J R' → P (some (.int v)) (n' + 1, t', K', L', J, R')) : a_does (d + 70) 127 [a_rf C, .int q, .int b, .int s, .int x, .int y] (n + 1, t, K, L, I, R) P := by
  have hT := hH.1
  have hS := hT.s
  have hZ := cZ_refl9 hH
  have hq : ∀ v J R1, cZ9 C c (n + 1) K L I R (n + 1) t K L J R1 → P (some (.int v)) (n + 1, t, K, L, J, R1) := fun v J R1 z => hP v n t K L J R1 (cZ_le9 z (by omega))
  clear hP
  have gA := hT.g_asksR
  have gB := hT.g_benchesR
  have gX := hT.g_textsR
  have gi := gA q.toNatClampNeg
  have ga := fun h => hT.g_ask (R (C + 15) q.toNatClampNeg) (gi.resolve_left h)
  have gb := gB b.toNatClampNeg
  rw [a_enter1 (M := a_m127) rfl (a_cat_rf (a_cat_int (a_cat_int (a_cat_int (a_cat_int (a_cat_int a_cat_nil)))))) (show 6 ≤ 8 by decide)]
  show a_at _ (a_xm a_m127) 0 [some (a_rf C), some (.int q), some (.int b), some (.int s), some (.int x), some (.int y), none, none] [] _ _
  repeat' first
    | with_reducible apply And.intro
    | with_reducible assumption
    | with_reducible intro _
    | exact hq _ _ _ hZ
    | exact hq _ _ _ (by assumption)
    | exact hq _ _ _ (cZ_C9 hZ (by assumption))
    | exact hq _ _ _ (cZ_G9 hZ (by assumption))
    | exact hq _ _ _ (cZ_L9 hZ (by assumption))
    | refine ck_refuse9 hZ (fun _ _ => ?_)
    | refine ck_refuse9 (cZ_C9 hZ (by assumption)) (fun _ _ => ?_)
    | exact dC_T (by assumption)
    | exact dG_refl9 hT
    | with_reducible apply ck_firstBar ?_ hT
    | with_reducible apply ck_isInShare
    | simp only [q127_0, q127_1, q127_4, q127_5, q127_8, q127_10, q127_12, q127_15, q127_16, q127_19, q127_20, q127_23, q127_26, q127_28, q127_30, q127_33, q127_36, q127_37, q127_39, q127_42, q127_43, q127_45, q127_48, q127_49, q127_50, q127_53, q127_54, q127_55, q127_58, q127_60, q127_61, q127_62, q127_65, q127_67, q127_69, q127_72, q127_73, q127_76, q127_78, q127_80, q127_82, q127_85, q127_88, q127_90, q127_93, q127_95, k_0 hS, z_C hS, r_0_4 hS, k_14 hS, z_14, r_0_5 hS, k_22 hS, z_22, sp_askAt hS gA, sp_benchAt hS gB, sp_areShifts, as_nil, as_i, as_r, Nat.reduceAdd, Nat.reduceLeDiff, z_eq0, z_eq1, z_or, z_em, Classical.not_not, not_false_eq_true, not_true_eq_false, true_and, and_true, false_and, and_false, and_self, true_implies, false_implies, implies_true, Option.toList_some, Option.toList_none, List.cons_append, List.nil_append, Nat.add_eq_zero_iff, a_nl_i, a_nl_r, a_nl_n, true_or, or_true, eq_self, a_isRA_22, a_isRA_24, a_isRA_32, a_isA_20, ok_4, ok_5, ok_6, ok_7, ok_9, ok_20, ok_21, ok_30, ok_50, ok_180, ok_192, ok_200]
  all_goals ((try clear ih); (try clear hP); (try clear hl); (try clear hq); (try clear hZ); (try clear hH); grind [ui_ap])
end KI
/-! the class: public methods that give -/
section KJ
variable {d n t C c n0 n' n'' t' : Nat} {K L K0 L0 K' L' K'' L'' : Nat → Nat} {I I0 J J0 J1 J2 : Nat → Nat → Int32} {R R0 R' R'' : Nat → Nat → Nat} {P : Option Value → AH → Prop}
theorem cu_mark9 (hH : cH C c (n + 1) t K L I R) {r q v : Int32} (hP : ∀ v n' t' K' L' J R', cZ9 C (c + 4) (n + 1) K L I R (n' + 1) t' K' L' J R' → P (some (.int v)) (n' + 1, t', K', L', J, R')) : a_does (d + 70) 92 [a_rf C, .int r, .int q, .int v] (n + 1, t, K, L, I, R) P := by
  have hT := hH.1
  have hS := hT.s
  have hZ := cZ_refl9 hH
  have hq : ∀ v J R1, cZ9 C c (n + 1) K L I R (n + 1) t K L J R1 → P (some (.int v)) (n + 1, t, K, L, J, R1) := fun v J R1 z => hP v n t K L J R1 (cZ_le9 z (by omega))
  clear hP
  have gA := hT.g_asksR
  have gB := hT.g_benchesR
  have gX := hT.g_textsR
  have gi := gA q.toNatClampNeg
  have ga := fun h => hT.g_ask (R (C + 15) q.toNatClampNeg) (gi.resolve_left h)
  rw [a_enter1 (M := a_m92) rfl (a_cat_rf (a_cat_int (a_cat_int (a_cat_int a_cat_nil)))) (show 4 ≤ 5 by decide)]
  show a_at _ (a_xm a_m92) 0 [some (a_rf C), some (.int r), some (.int q), some (.int v), none] [] _ _
  repeat' first
    | with_reducible apply And.intro
    | with_reducible assumption
    | with_reducible intro _
    | exact hq _ _ _ hZ
    | exact hq _ _ _ (by assumption)
    | exact hq _ _ _ (cZ_C9 hZ (by assumption))
    | exact hq _ _ _ (cZ_G9 hZ (by assumption))
    | exact hq _ _ _ (cZ_L9 hZ (by assumption))
    | refine ck_refuse9 hZ (fun _ _ => ?_)
    | refine ck_refuse9 (cZ_C9 hZ (by assumption)) (fun _ _ => ?_)
    | exact dC_T (by assumption)
    | exact dG_refl9 hT
    | exact ck_tell9 (gi.resolve_left (by assumption)) (dG_refl9 hT) (by assumption) (fun _ _ _ => by assumption)
    | refine ck_tell9 (gi.resolve_left (by assumption)) (dG_refl9 hT) (by assumption) (fun _ _ _ => ?_)
    | with_reducible apply ck_isTold hS
    | with_reducible apply ck_toldOf hS
    | simp only [q92_0, q92_1, q92_4, q92_5, q92_8, q92_10, q92_11, q92_14, q92_17, q92_19, q92_22, q92_23, q92_24, q92_27, q92_28, q92_29, q92_32, q92_33, q92_34, q92_37, q92_40, q92_41, q92_44, q92_45, q92_48, q92_49, q92_52, q92_53, q92_55, q92_58, q92_59, q92_60, q92_63, q92_64, q92_66, q92_69, q92_70, q92_71, q92_73, q92_76, q92_77, q92_79, q92_82, q92_83, q92_84, q92_87, q92_88, q92_90, q92_91, q92_94, q92_97, q92_98, q92_101, q92_102, k_0 hS, z_C hS, r_0_4 hS, k_14 hS, z_14, r_0_3 hS, k_17 hS, z_17, sp_askAt hS gA, sp_isReaderC, as_nil, as_i, as_r, Nat.reduceAdd, Nat.reduceLeDiff, z_eq0, z_eq1, z_or, z_em, Classical.not_not, not_false_eq_true, not_true_eq_false, true_and, and_true, false_and, and_false, and_self, true_implies, false_implies, implies_true, Option.toList_some, Option.toList_none, List.cons_append, List.nil_append, Nat.add_eq_zero_iff, a_nl_i, a_nl_r, a_nl_n, true_or, or_true, eq_self, a_isRA_22, a_isRA_24, a_isRA_32, a_isA_20, ok_4, ok_5, ok_6, ok_7, ok_9, ok_20, ok_21, ok_30, ok_50, ok_180, ok_192, ok_200]
  all_goals ((try clear ih); (try clear hP); (try clear hl); (try clear hq); (try clear hZ); (try clear hH); grind [ui_ap])
theorem cu_wish9 (hH : cH C c (n + 1) t K L I R) {q r w : Int32} (hw : w = 0 ∨ w = 1) (hP : ∀ v n' t' K' L' J R', cZ9 C (c + 4) (n + 1) K L I R (n' + 1) t' K' L' J R' → P (some (.int v)) (n' + 1, t', K', L', J, R')) : a_does (d + 70) 147 [a_rf C, .int q, .int r, .int w] (n + 1, t, K, L, I, R) P := by
  have hT := hH.1
  have hS := hT.s
  have hZ := cZ_refl9 hH
  have hq : ∀ v J R1, cZ9 C c (n + 1) K L I R (n + 1) t K L J R1 → P (some (.int v)) (n + 1, t, K, L, J, R1) := fun v J R1 z => hP v n t K L J R1 (cZ_le9 z (by omega))
  clear hP
  have gA := hT.g_asksR
  have gB := hT.g_benchesR
  have gX := hT.g_textsR
  have gi := gA q.toNatClampNeg
  have gj := gA r.toNatClampNeg
  rw [a_enter1 (M := a_m147) rfl (a_cat_rf (a_cat_int (a_cat_int (a_cat_int a_cat_nil)))) (show 4 ≤ 4 by decide)]
  show a_at _ (a_xm a_m147) 0 [some (a_rf C), some (.int q), some (.int r), some (.int w)] [] _ _
  repeat' first
    | with_reducible apply And.intro
    | with_reducible assumption
    | with_reducible intro _
    | exact hq _ _ _ hZ
    | exact hq _ _ _ (by assumption)
    | exact hq _ _ _ (cZ_C9 hZ (by assumption))
    | exact hq _ _ _ (cZ_G9 hZ (by assumption))
    | exact hq _ _ _ (cZ_L9 hZ (by assumption))
    | refine ck_refuse9 hZ (fun _ _ => ?_)
    | refine ck_refuse9 (cZ_C9 hZ (by assumption)) (fun _ _ => ?_)
    | exact dC_T (by assumption)
    | exact dG_refl9 hT
    | refine ck_circleTell9 (I0 := I) ?_ hw (dG_refl9 hT) (fun _ _ _ => ?_)
    | simp only [q147_0, q147_1, q147_4, q147_5, q147_8, q147_11, q147_12, q147_15, q147_16, q147_19, q147_22, q147_23, q147_24, q147_27, q147_28, q147_29, q147_32, q147_33, q147_34, q147_37, q147_38, q147_39, q147_40, q147_43, q147_46, q147_47, q147_50, q147_51, k_0 hS, z_C hS, r_0_4 hS, k_14 hS, z_14, r_0_7 hS, k_35 hS, z_35, sp_askAt hS gA, as_nil, as_i, as_r, Nat.reduceAdd, Nat.reduceLeDiff, z_eq0, z_eq1, z_or, z_em, Classical.not_not, not_false_eq_true, not_true_eq_false, true_and, and_true, false_and, and_false, and_self, true_implies, false_implies, implies_true, Option.toList_some, Option.toList_none, List.cons_append, List.nil_append, Nat.add_eq_zero_iff, a_nl_i, a_nl_r, a_nl_n, true_or, or_true, eq_self, a_isRA_22, a_isRA_24, a_isRA_32, a_isA_20, ok_4, ok_5, ok_6, ok_7, ok_9, ok_20, ok_21, ok_30, ok_50, ok_180, ok_192, ok_200]
  all_goals ((try clear ih); (try clear hP); (try clear hl); (try clear hq); (try clear hZ); (try clear hH); grind [ui_ap])
theorem cu_give9 (hH : cH C c (n + 1) t K L I R) {q b s : Int32} (hP : ∀ v n' t' K' L' J R', cZ9 C (c + 4) (n + 1) K L I R (n' + 1) t' K' L' J R' → P (some (.int v)) (n' + 1, t', K', L', J, R')) : a_does (d + 70) 112 [a_rf C, .int q, .int b, .int s] (n + 1, t, K, L, I, R) P := by
  have hT := hH.1
  have hS := hT.s
  have hZ := cZ_refl9 hH
  have hq : ∀ v J R1, cZ9 C c (n + 1) K L I R (n + 1) t K L J R1 → P (some (.int v)) (n + 1, t, K, L, J, R1) := fun v J R1 z => hP v n t K L J R1 (cZ_le9 z (by omega))
  clear hP
  have gA := hT.g_asksR
  have gB := hT.g_benchesR
  have gX := hT.g_textsR
  have gi := gA q.toNatClampNeg
  have ga := fun h => hT.g_ask (R (C + 15) q.toNatClampNeg) (gi.resolve_left h)
  have gb := gB b.toNatClampNeg
  have hfit : ∀ J (v : Int32), ¬ R (C + 15) q.toNatClampNeg = 0 → dC C K L R I J → (v = 0 → fitP s (I (R (C + 15) q.toNatClampNeg) 2)) → v = 0 → fitP s (J (R (C + 15) q.toNatClampNeg) 2) := fun J v h1 h2 h3 h4 => by
    rw [dC_at h2 hT (gi.resolve_left h1) 2]
    exact h3 h4
  rw [a_enter1 (M := a_m112) rfl (a_cat_rf (a_cat_int (a_cat_int (a_cat_int a_cat_nil)))) (show 4 ≤ 5 by decide)]
  show a_at _ (a_xm a_m112) 0 [some (a_rf C), some (.int q), some (.int b), some (.int s), none] [] _ _
  repeat' first
    | with_reducible apply And.intro
    | with_reducible assumption
    | with_reducible intro _
    | exact hq _ _ _ hZ
    | exact hq _ _ _ (by assumption)
    | exact hq _ _ _ (cZ_C9 hZ (by assumption))
    | exact hq _ _ _ (cZ_G9 hZ (by assumption))
    | exact hq _ _ _ (cZ_L9 hZ (by assumption))
    | refine ck_refuse9 hZ (fun _ _ => ?_)
    | refine ck_refuse9 (cZ_C9 hZ (by assumption)) (fun _ _ => ?_)
    | exact dC_T (by assumption)
    | exact dG_refl9 hT
    | refine ck_place (gi.resolve_left (by assumption)) (dC_T (by assumption)) (hfit _ _ (by assumption) (by assumption) (by assumption) (by assumption)) (fun _ _ => ?_)
    | exact hq _ _ _ (cZ_L9 (cZ_C9 hZ (by assumption)) (by assumption))
    | with_reducible apply ck_firstBar ?_ hT
    | simp only [q112_0, q112_1, q112_4, q112_5, q112_8, q112_10, q112_12, q112_15, q112_16, q112_19, q112_20, q112_23, q112_26, q112_27, q112_30, q112_33, q112_34, q112_35, q112_38, q112_39, q112_41, q112_44, q112_47, q112_49, q112_52, q112_55, q112_56, q112_59, q112_61, q112_62, q112_63, q112_66, q112_69, q112_70, q112_72, q112_75, q112_76, q112_77, q112_80, q112_82, q112_83, q112_84, q112_87, q112_88, k_0 hS, z_C hS, r_0_4 hS, k_14 hS, z_14, sp_askAt hS gA, sp_benchAt hS gB, sp_isShiftC, sp_isPlaced, as_nil, as_i, as_r, Nat.reduceAdd, Nat.reduceLeDiff, z_eq0, z_eq1, z_or, z_em, Classical.not_not, not_false_eq_true, not_true_eq_false, true_and, and_true, false_and, and_false, and_self, true_implies, false_implies, implies_true, Option.toList_some, Option.toList_none, List.cons_append, List.nil_append, Nat.add_eq_zero_iff, a_nl_i, a_nl_r, a_nl_n, true_or, or_true, eq_self, a_isRA_22, a_isRA_24, a_isRA_32, a_isA_20, ok_4, ok_5, ok_6, ok_7, ok_9, ok_20, ok_21, ok_30, ok_50, ok_180, ok_192, ok_200]
  all_goals ((try clear ih); (try clear hP); (try clear hl); (try clear hq); (try clear hZ); (try clear hH); grind [ui_ap])
theorem cu_ring9 (hH : cH C c (n + 1) t K L I R) {w : Int32} (hP : ∀ v n' t' K' L' J R', cZ9 C (c + 4) (n + 1) K L I R (n' + 1) t' K' L' J R' → P (some (.int v)) (n' + 1, t', K', L', J, R')) : a_does (d + 70) 149 [a_rf C, .int w] (n + 1, t, K, L, I, R) P := by
  have hT := hH.1
  have hS := hT.s
  have hZ := cZ_refl9 hH
  have hq : ∀ v J R1, cZ9 C c (n + 1) K L I R (n + 1) t K L J R1 → P (some (.int v)) (n + 1, t, K, L, J, R1) := fun v J R1 z => hP v n t K L J R1 (cZ_le9 z (by omega))
  clear hP
  rw [a_enter1 (M := a_m149) rfl (a_cat_rf (a_cat_int a_cat_nil)) (show 2 ≤ 3 by decide)]
  show a_at _ (a_xm a_m149) 0 [some (a_rf C), some (.int w), none] [] _ _
  simp only [q149_0, q149_1, q149_2, q149_5, q149_6, q149_8, q149_11, q149_12, q149_13, q149_16, q149_19, k_0 hS, z_C hS, r_0_7 hS, k_35 hS, z_35, as_nil, as_i, as_r, Nat.reduceAdd, Nat.reduceLeDiff, z_eq0, z_eq1, z_or, z_em, Classical.not_not, not_false_eq_true, not_true_eq_false, true_and, and_true, false_and, and_false, and_self, true_implies, false_implies, implies_true, Option.toList_some, Option.toList_none, List.cons_append, List.nil_append, Nat.add_eq_zero_iff, a_nl_i, a_nl_r, a_nl_n, true_or, or_true, eq_self, a_isRA_22, a_isRA_24, a_isRA_32, a_isA_20, ok_4, ok_5, ok_6, ok_7, ok_9, ok_20, ok_21, ok_30, ok_50, ok_180, ok_192, ok_200]
  refine ⟨fun _ => ?_, fun _ => ?_⟩
  all_goals
    first
      | (refine ck_refuse9 hZ (fun J z => ?_)
         simp only [q149_8, q149_11, k_0 hS, z_C hS, as_nil, as_i, as_r, Nat.reduceAdd, Nat.reduceLeDiff, z_eq0, z_eq1, z_or, z_em, Classical.not_not, not_false_eq_true, not_true_eq_false, true_and, and_true, false_and, and_false, and_self, true_implies, false_implies, implies_true, Option.toList_some, Option.toList_none, List.cons_append, List.nil_append, Nat.add_eq_zero_iff, a_nl_i, a_nl_r, a_nl_n, true_or, or_true, eq_self, a_isRA_22, a_isRA_24, a_isRA_32, a_isA_20, ok_4, ok_5, ok_6, ok_7, ok_9, ok_20, ok_21, ok_30, ok_50, ok_180, ok_192, ok_200]
         exact hq _ _ _ z)
      | (refine ck_find9 hZ (fun v J R2 z e1 e2 e3 e4 => ?_)
         have hS := z.2.1.1.s
         have hN : rnP C R2 (J (C + 35) 7) := by rw [e1]; exact e3
         simp only [q149_19, q149_20, q149_21, q149_22, q149_25, q149_26, q149_29, q149_30, q149_33, q149_34, q149_37, k_0 hS, z_C hS, r_0_7 hS, k_35 hS, z_35, as_nil, as_i, as_r, Nat.reduceAdd, Nat.reduceLeDiff, z_eq0, z_eq1, z_or, z_em, Classical.not_not, not_false_eq_true, not_true_eq_false, true_and, and_true, false_and, and_false, and_self, true_implies, false_implies, implies_true, Option.toList_some, Option.toList_none, List.cons_append, List.nil_append, Nat.add_eq_zero_iff, a_nl_i, a_nl_r, a_nl_n, true_or, or_true, eq_self, a_isRA_22, a_isRA_24, a_isRA_32, a_isA_20, ok_4, ok_5, ok_6, ok_7, ok_9, ok_20, ok_21, ok_30, ok_50, ok_180, ok_192, ok_200]
         refine ⟨fun _ => ?_, fun _ => ?_⟩
         · first
             | exact hq _ _ _ z
             | (refine ck_memberAt z.2.1.1 hN (fun v2 => ?_)
                simp only [q149_34, q149_37, k_0 hS, z_C hS, as_nil, as_i, as_r, Nat.reduceAdd, Nat.reduceLeDiff, z_eq0, z_eq1, z_or, z_em, Classical.not_not, not_false_eq_true, not_true_eq_false, true_and, and_true, false_and, and_false, and_self, true_implies, false_implies, implies_true, Option.toList_some, Option.toList_none, List.cons_append, List.nil_append, Nat.add_eq_zero_iff, a_nl_i, a_nl_r, a_nl_n, true_or, or_true, eq_self, a_isRA_22, a_isRA_24, a_isRA_32, a_isA_20, ok_4, ok_5, ok_6, ok_7, ok_9, ok_20, ok_21, ok_30, ok_50, ok_180, ok_192, ok_200]
                exact hq _ _ _ z)
         · first
             | exact hq _ _ _ z
             | (refine ck_memberAt z.2.1.1 hN (fun v2 => ?_)
                simp only [q149_34, q149_37, k_0 hS, z_C hS, as_nil, as_i, as_r, Nat.reduceAdd, Nat.reduceLeDiff, z_eq0, z_eq1, z_or, z_em, Classical.not_not, not_false_eq_true, not_true_eq_false, true_and, and_true, false_and, and_false, and_self, true_implies, false_implies, implies_true, Option.toList_some, Option.toList_none, List.cons_append, List.nil_append, Nat.add_eq_zero_iff, a_nl_i, a_nl_r, a_nl_n, true_or, or_true, eq_self, a_isRA_22, a_isRA_24, a_isRA_32, a_isA_20, ok_4, ok_5, ok_6, ok_7, ok_9, ok_20, ok_21, ok_30, ok_50, ok_180, ok_192, ok_200]
                exact hq _ _ _ z))
theorem cu_best9 (hH : cH C c (n + 1) t K L I R) {x y r w : Int32} (hP : ∀ v n' t' K' L' J R', cZ9 C (c + 4) (n + 1) K L I R (n' + 1) t' K' L' J R' → P (some (.int v)) (n' + 1, t', K', L', J, R')) : a_does (d + 70) 128 [a_rf C, .int x, .int y, .int r, .int w] (n + 1, t, K, L, I, R) P := by
  have hT := hH.1
  have hS := hT.s
  have hZ := cZ_refl9 hH
  have hq : ∀ v J R1, cZ9 C c (n + 1) K L I R (n + 1) t K L J R1 → P (some (.int v)) (n + 1, t, K, L, J, R1) := fun v J R1 z => hP v n t K L J R1 (cZ_le9 z (by omega))
  clear hP
  have hgo : (0 ≤ x ∧ x < 200) → (0 ≤ y ∧ y < 200) → a_at (d + 69) (a_xm a_m128) 93 [some (a_rf C), some (.int x), some (.int y), some (.int r), some (.int w)] [] (n + 1, t, K, L, I, R) P := fun hx hy => by
    simp only [q128_93, q128_94, q128_97, q128_98, q128_99, q128_100, k_0 hS, z_C hS, r_0_6 hS, k_27 hS, z_27, as_nil, as_i, as_r, Nat.reduceAdd, Nat.reduceLeDiff, z_eq0, z_eq1, z_or, z_em, Classical.not_not, not_false_eq_true, not_true_eq_false, true_and, and_true, false_and, and_false, and_self, true_implies, false_implies, implies_true, Option.toList_some, Option.toList_none, List.cons_append, List.nil_append, Nat.add_eq_zero_iff, a_nl_i, a_nl_r, a_nl_n, true_or, or_true, eq_self, a_isRA_22, a_isRA_24, a_isRA_32, a_isA_20, ok_4, ok_5, ok_6, ok_7, ok_9, ok_20, ok_21, ok_30, ok_50, ok_180, ok_192, ok_200]
    refine ck_search9 ⟨hx.1, by clear hq hZ hT hH hS; grind⟩ (by clear hq hZ hT hH hS; grind) hZ (fun J R2 z hN => ?_)
    have hS := z.2.1.1.s
    simp only [q128_103, q128_105, q128_106, q128_109, q128_110, q128_113, q128_116, q128_119, q128_120, q128_123, q128_125, q128_128, k_0 hS, z_C hS, r_0_6 hS, k_27 hS, z_27, as_nil, as_i, as_r, Nat.reduceAdd, Nat.reduceLeDiff, z_eq0, z_eq1, z_or, z_em, Classical.not_not, not_false_eq_true, not_true_eq_false, true_and, and_true, false_and, and_false, and_self, true_implies, false_implies, implies_true, Option.toList_some, Option.toList_none, List.cons_append, List.nil_append, Nat.add_eq_zero_iff, a_nl_i, a_nl_r, a_nl_n, true_or, or_true, eq_self, a_isRA_22, a_isRA_24, a_isRA_32, a_isA_20, ok_4, ok_5, ok_6, ok_7, ok_9, ok_20, ok_21, ok_30, ok_50, ok_180, ok_192, ok_200]
    refine ⟨fun _ => ?_, fun _ => ?_⟩
    · first
        | exact hq _ _ _ z
        | (refine ck_spotOf z.2.1.1 hN (fun v2 => ?_)
           simp only [q128_128, as_nil, as_i, as_r, Nat.reduceAdd, Nat.reduceLeDiff, z_eq0, z_eq1, z_or, z_em, Classical.not_not, not_false_eq_true, not_true_eq_false, true_and, and_true, false_and, and_false, and_self, true_implies, false_implies, implies_true, Option.toList_some, Option.toList_none, List.cons_append, List.nil_append, Nat.add_eq_zero_iff, a_nl_i, a_nl_r, a_nl_n, true_or, or_true, eq_self, a_isRA_22, a_isRA_24, a_isRA_32, a_isA_20, ok_4, ok_5, ok_6, ok_7, ok_9, ok_20, ok_21, ok_30, ok_50, ok_180, ok_192, ok_200]
           exact hq _ _ _ z)
    · first
        | exact hq _ _ _ z
        | (refine ck_spotOf z.2.1.1 hN (fun v2 => ?_)
           simp only [q128_128, as_nil, as_i, as_r, Nat.reduceAdd, Nat.reduceLeDiff, z_eq0, z_eq1, z_or, z_em, Classical.not_not, not_false_eq_true, not_true_eq_false, true_and, and_true, false_and, and_false, and_self, true_implies, false_implies, implies_true, Option.toList_some, Option.toList_none, List.cons_append, List.nil_append, Nat.add_eq_zero_iff, a_nl_i, a_nl_r, a_nl_n, true_or, or_true, eq_self, a_isRA_22, a_isRA_24, a_isRA_32, a_isA_20, ok_4, ok_5, ok_6, ok_7, ok_9, ok_20, ok_21, ok_30, ok_50, ok_180, ok_192, ok_200]
           exact hq _ _ _ z)
  rw [a_enter1 (M := a_m128) rfl (a_cat_rf (a_cat_int (a_cat_int (a_cat_int (a_cat_int a_cat_nil))))) (show 5 ≤ 5 by decide)]
  show a_at _ (a_xm a_m128) 0 [some (a_rf C), some (.int x), some (.int y), some (.int r), some (.int w)] [] _ _
  repeat' first
    | with_reducible apply And.intro
    | with_reducible assumption
    | with_reducible intro _
    | exact hq _ _ _ hZ
    | exact hq _ _ _ (by assumption)
    | exact hq _ _ _ (cZ_C9 hZ (by assumption))
    | exact hq _ _ _ (cZ_G9 hZ (by assumption))
    | exact hq _ _ _ (cZ_L9 hZ (by assumption))
    | refine ck_refuse9 hZ (fun _ _ => ?_)
    | refine ck_refuse9 (cZ_C9 hZ (by assumption)) (fun _ _ => ?_)
    | exact dC_T (by assumption)
    | exact dG_refl9 hT
    | with_reducible apply ck_areAsks hT
    | with_reducible apply ck_isIn
    | with_reducible apply ck_bitCount
    | with_reducible apply ck_areAllFree hT
    | with_reducible apply hgo
    | simp only [q128_0, q128_1, q128_2, q128_5, q128_8, q128_9, q128_12, q128_13, q128_16, q128_19, q128_21, q128_24, q128_25, q128_27, q128_30, q128_33, q128_34, q128_35, q128_38, q128_39, q128_41, q128_42, q128_45, q128_46, q128_48, q128_51, q128_52, q128_53, q128_54, q128_55, q128_57, q128_60, q128_61, q128_64, q128_65, q128_68, q128_69, q128_71, q128_74, q128_75, q128_76, q128_79, q128_80, q128_83, q128_86, q128_87, q128_89, q128_92, k_0 hS, z_C hS, r_0_4 hS, k_14 hS, z_14, sp_areShifts, as_nil, as_i, as_r, Nat.reduceAdd, Nat.reduceLeDiff, z_eq0, z_eq1, z_or, z_em, Classical.not_not, not_false_eq_true, not_true_eq_false, true_and, and_true, false_and, and_false, and_self, true_implies, false_implies, implies_true, Option.toList_some, Option.toList_none, List.cons_append, List.nil_append, Nat.add_eq_zero_iff, a_nl_i, a_nl_r, a_nl_n, true_or, or_true, eq_self, a_isRA_22, a_isRA_24, a_isRA_32, a_isA_20, ok_4, ok_5, ok_6, ok_7, ok_9, ok_20, ok_21, ok_30, ok_50, ok_180, ok_192, ok_200]
  all_goals ((try clear hgo); (try clear hq); (try clear hZ); (try clear hH); (try clear hT); grind [ui_ap])
end KJ
/-! the class: public methods that make something -/
section KK
variable {d n t C c n0 n' n'' t' : Nat} {K L K0 L0 K' L' K'' L'' : Nat → Nat} {I I0 J J0 J1 J2 : Nat → Nat → Int32} {R R0 R' R'' : Nat → Nat → Nat} {P : Option Value → AH → Prop}
theorem cu_withdraw9 (hH : cH C c (n + 1) t K L I R) {q : Int32} (hP : ∀ v n' t' K' L' J R', cZ9 C (c + 4) (n + 1) K L I R (n' + 1) t' K' L' J R' → P (some (.int v)) (n' + 1, t', K', L', J, R')) : a_does (d + 70) 44 [a_rf C, .int q] (n + 1, t, K, L, I, R) P := by
  have hT := hH.1
  have hS := hT.s
  have hZ := cZ_refl9 hH
  have hq : ∀ v J R1, cZ9 C c (n + 1) K L I R (n + 1) t K L J R1 → P (some (.int v)) (n + 1, t, K, L, J, R1) := fun v J R1 z => hP v n t K L J R1 (cZ_le9 z (by omega))
  have hA : ∀ v n' t' K' L' J R', cZ9 C c (n + 1) K L I R (n' + 1) t' K' L' J R' → P (some (.int v)) (n' + 1, t', K', L', J, R') := fun v n' t' K' L' J R' z => hP v n' t' K' L' J R' (cZ_le9 z (by omega))
  have hB : ∀ v n' t' K' L' J R', cZ9 C (c + 1) (n + 1) K L I R (n' + 1) t' K' L' J R' → P (some (.int v)) (n' + 1, t', K', L', J, R') := fun v n' t' K' L' J R' z => hP v n' t' K' L' J R' (cZ_le9 z (by omega))
  have hB2 : ∀ v n' t' K' L' J R', cZ9 C (c + 1 + 1) (n + 1) K L I R (n' + 1) t' K' L' J R' → P (some (.int v)) (n' + 1, t', K', L', J, R') := fun v n' t' K' L' J R' z => hP v n' t' K' L' J R' (cZ_le9 z (by omega))
  clear hP
  have gA := hT.g_asksR
  have gB := hT.g_benchesR
  have gX := hT.g_textsR
  have gi := gA q.toNatClampNeg
  have ga := fun h => hT.g_ask (R (C + 15) q.toNatClampNeg) (gi.resolve_left h)
  have hw : ¬ R (C + 15) q.toNatClampNeg = 0 → cZ9 C c (n + 1) K L I R (n + 1) t K L (a_ui I (R (C + 15) q.toNatClampNeg) 15 1) R := fun h => cZ_G9 hZ (dG_askf9 (dG_refl9 hT) (ga h).1 (gi.resolve_left h) (by decide))
  rw [a_enter1 (M := a_m44) rfl (a_cat_rf (a_cat_int a_cat_nil)) (show 2 ≤ 3 by decide)]
  show a_at _ (a_xm a_m44) 0 [some (a_rf C), some (.int q), none] [] _ _
  repeat' first
    | with_reducible apply And.intro
    | with_reducible assumption
    | with_reducible intro _
    | exact hq _ _ _ hZ
    | exact hq _ _ _ (by assumption)
    | exact hq _ _ _ (cZ_C9 hZ (by assumption))
    | exact hq _ _ _ (cZ_G9 hZ (by assumption))
    | exact hq _ _ _ (cZ_L9 hZ (by assumption))
    | refine ck_refuse9 hZ (fun _ _ => ?_)
    | refine ck_refuse9 (cZ_C9 hZ (by assumption)) (fun _ _ => ?_)
    | exact dC_T (by assumption)
    | exact dG_refl9 hT
    | exact hA _ _ _ _ _ _ _ (cZ_Q9 (hw (by assumption)) (by assumption) (by assumption))
    | refine ck_clear (gi.resolve_left (by assumption)) (hw (by assumption)).2.1 (fun _ _ _ _ _ _ _ _ => ?_)
    | simp only [q44_0, q44_1, q44_4, q44_5, q44_8, q44_9, q44_10, q44_13, q44_14, q44_15, q44_18, q44_19, q44_20, q44_23, q44_26, q44_27, q44_29, q44_32, q44_33, q44_34, q44_35, q44_38, q44_39, q44_42, q44_43, q44_46, q44_47, k_0 hS, z_C hS, r_0_4 hS, k_14 hS, z_14, sp_askAt hS gA, as_nil, as_i, as_r, Nat.reduceAdd, Nat.reduceLeDiff, z_eq0, z_eq1, z_or, z_em, Classical.not_not, not_false_eq_true, not_true_eq_false, true_and, and_true, false_and, and_false, and_self, true_implies, false_implies, implies_true, Option.toList_some, Option.toList_none, List.cons_append, List.nil_append, Nat.add_eq_zero_iff, a_nl_i, a_nl_r, a_nl_n, true_or, or_true, eq_self, a_isRA_22, a_isRA_24, a_isRA_32, a_isA_20, ok_4, ok_5, ok_6, ok_7, ok_9, ok_20, ok_21, ok_30, ok_50, ok_180, ok_192, ok_200]
  all_goals ((try clear hq); (try clear hA); (try clear hB); (try clear hB2); (try clear hZ); (try clear hH); (try clear hT); grind [ui_ap])
theorem cu_take9 (hH : cH C c (n + 1) t K L I R) {q : Int32} (hP : ∀ v n' t' K' L' J R', cZ9 C (c + 4) (n + 1) K L I R (n' + 1) t' K' L' J R' → P (some (.int v)) (n' + 1, t', K', L', J, R')) : a_does (d + 70) 116 [a_rf C, .int q] (n + 1, t, K, L, I, R) P := by
  have hT := hH.1
  have hS := hT.s
  have hZ := cZ_refl9 hH
  have hq : ∀ v J R1, cZ9 C c (n + 1) K L I R (n + 1) t K L J R1 → P (some (.int v)) (n + 1, t, K, L, J, R1) := fun v J R1 z => hP v n t K L J R1 (cZ_le9 z (by omega))
  have hA : ∀ v n' t' K' L' J R', cZ9 C c (n + 1) K L I R (n' + 1) t' K' L' J R' → P (some (.int v)) (n' + 1, t', K', L', J, R') := fun v n' t' K' L' J R' z => hP v n' t' K' L' J R' (cZ_le9 z (by omega))
  have hB : ∀ v n' t' K' L' J R', cZ9 C (c + 1) (n + 1) K L I R (n' + 1) t' K' L' J R' → P (some (.int v)) (n' + 1, t', K', L', J, R') := fun v n' t' K' L' J R' z => hP v n' t' K' L' J R' (cZ_le9 z (by omega))
  have hB2 : ∀ v n' t' K' L' J R', cZ9 C (c + 1 + 1) (n + 1) K L I R (n' + 1) t' K' L' J R' → P (some (.int v)) (n' + 1, t', K', L', J, R') := fun v n' t' K' L' J R' z => hP v n' t' K' L' J R' (cZ_le9 z (by omega))
  clear hP
  have gA := hT.g_asksR
  have gB := hT.g_benchesR
  have gX := hT.g_textsR
  have gi := gA q.toNatClampNeg
  have ga := fun h => hT.g_ask (R (C + 15) q.toNatClampNeg) (gi.resolve_left h)
  rw [a_enter1 (M := a_m116) rfl (a_cat_rf (a_cat_int a_cat_nil)) (show 2 ≤ 3 by decide)]
  show a_at _ (a_xm a_m116) 0 [some (a_rf C), some (.int q), none] [] _ _
  repeat' first
    | with_reducible apply And.intro
    | with_reducible assumption
    | with_reducible intro _
    | exact hq _ _ _ hZ
    | exact hq _ _ _ (by assumption)
    | exact hq _ _ _ (cZ_C9 hZ (by assumption))
    | exact hq _ _ _ (cZ_G9 hZ (by assumption))
    | exact hq _ _ _ (cZ_L9 hZ (by assumption))
    | refine ck_refuse9 hZ (fun _ _ => ?_)
    | refine ck_refuse9 (cZ_C9 hZ (by assumption)) (fun _ _ => ?_)
    | exact dC_T (by assumption)
    | exact dG_refl9 hT
    | exact hA _ _ _ _ _ _ _ (cZ_Q9 hZ (by assumption) (by assumption))
    | refine ck_clear (gi.resolve_left (by assumption)) hH (fun _ _ _ _ _ _ _ _ => ?_)
    | simp only [q116_0, q116_1, q116_4, q116_5, q116_8, q116_9, q116_10, q116_13, q116_14, q116_15, q116_18, q116_19, q116_20, q116_23, q116_24, q116_27, q116_30, q116_31, q116_33, q116_36, q116_37, q116_38, q116_41, q116_42, q116_45, q116_46, k_0 hS, z_C hS, r_0_4 hS, k_14 hS, z_14, sp_askAt hS gA, sp_mayMove hS, as_nil, as_i, as_r, Nat.reduceAdd, Nat.reduceLeDiff, z_eq0, z_eq1, z_or, z_em, Classical.not_not, not_false_eq_true, not_true_eq_false, true_and, and_true, false_and, and_false, and_self, true_implies, false_implies, implies_true, Option.toList_some, Option.toList_none, List.cons_append, List.nil_append, Nat.add_eq_zero_iff, a_nl_i, a_nl_r, a_nl_n, true_or, or_true, eq_self, a_isRA_22, a_isRA_24, a_isRA_32, a_isA_20, ok_4, ok_5, ok_6, ok_7, ok_9, ok_20, ok_21, ok_30, ok_50, ok_180, ok_192, ok_200]
  all_goals ((try clear hq); (try clear hA); (try clear hB); (try clear hB2); (try clear hZ); (try clear hH); (try clear hT); grind [ui_ap])
theorem cu_danger9 (hH : cH C c (n + 1) t K L I R) {q v : Int32} (hP : ∀ v n' t' K' L' J R', cZ9 C (c + 4) (n + 1) K L I R (n' + 1) t' K' L' J R' → P (some (.int v)) (n' + 1, t', K', L', J, R')) : a_does (d + 70) 146 [a_rf C, .int q, .int v] (n + 1, t, K, L, I, R) P := by
  have hT := hH.1
  have hS := hT.s
  have hZ := cZ_refl9 hH
  have hq : ∀ v J R1, cZ9 C c (n + 1) K L I R (n + 1) t K L J R1 → P (some (.int v)) (n + 1, t, K, L, J, R1) := fun v J R1 z => hP v n t K L J R1 (cZ_le9 z (by omega))
  have hA : ∀ v n' t' K' L' J R', cZ9 C c (n + 1) K L I R (n' + 1) t' K' L' J R' → P (some (.int v)) (n' + 1, t', K', L', J, R') := fun v n' t' K' L' J R' z => hP v n' t' K' L' J R' (cZ_le9 z (by omega))
  have hB : ∀ v n' t' K' L' J R', cZ9 C (c + 1) (n + 1) K L I R (n' + 1) t' K' L' J R' → P (some (.int v)) (n' + 1, t', K', L', J, R') := fun v n' t' K' L' J R' z => hP v n' t' K' L' J R' (cZ_le9 z (by omega))
  have hB2 : ∀ v n' t' K' L' J R', cZ9 C (c + 1 + 1) (n + 1) K L I R (n' + 1) t' K' L' J R' → P (some (.int v)) (n' + 1, t', K', L', J, R') := fun v n' t' K' L' J R' z => hP v n' t' K' L' J R' (cZ_le9 z (by omega))
  clear hP
  have gA := hT.g_asksR
  have gB := hT.g_benchesR
  have gX := hT.g_textsR
  have gi := gA q.toNatClampNeg
  have ga := fun h => hT.g_ask (R (C + 15) q.toNatClampNeg) (gi.resolve_left h)
  have hw : ¬ R (C + 15) q.toNatClampNeg = 0 → cZ9 C c (n + 1) K L I R (n + 1) t K L (a_ui I (R (C + 15) q.toNatClampNeg) 9 v) R := fun h => cZ_G9 hZ (dG_askf9 (dG_refl9 hT) (ga h).1 (gi.resolve_left h) (by decide))
  rw [a_enter1 (M := a_m146) rfl (a_cat_rf (a_cat_int (a_cat_int a_cat_nil))) (show 3 ≤ 4 by decide)]
  show a_at _ (a_xm a_m146) 0 [some (a_rf C), some (.int q), some (.int v), none] [] _ _
  repeat' first
    | with_reducible apply And.intro
    | with_reducible assumption
    | with_reducible intro _
    | exact hq _ _ _ hZ
    | exact hq _ _ _ (by assumption)
    | exact hq _ _ _ (cZ_C9 hZ (by assumption))
    | exact hq _ _ _ (cZ_G9 hZ (by assumption))
    | exact hq _ _ _ (cZ_L9 hZ (by assumption))
    | refine ck_refuse9 hZ (fun _ _ => ?_)
    | refine ck_refuse9 (cZ_C9 hZ (by assumption)) (fun _ _ => ?_)
    | exact dC_T (by assumption)
    | exact dG_refl9 hT
    | exact hA _ _ _ _ _ _ _ (cZ_Q9 (hw (by assumption)) (by assumption) (by assumption))
    | refine ck_clearUnfit (gi.resolve_left (by assumption)) (hw (by assumption)).2.1 (fun _ _ _ _ _ _ _ _ _ => ?_)
    | simp only [q146_0, q146_1, q146_4, q146_5, q146_8, q146_9, q146_10, q146_13, q146_14, q146_15, q146_18, q146_19, q146_20, q146_23, q146_24, q146_26, q146_29, q146_30, q146_31, q146_33, q146_36, q146_37, q146_39, q146_42, q146_43, q146_44, q146_45, q146_48, q146_49, q146_52, q146_53, q146_56, q146_59, q146_60, q146_63, q146_64, k_0 hS, z_C hS, r_0_4 hS, k_14 hS, z_14, sp_askAt hS gA, as_nil, as_i, as_r, Nat.reduceAdd, Nat.reduceLeDiff, z_eq0, z_eq1, z_or, z_em, Classical.not_not, not_false_eq_true, not_true_eq_false, true_and, and_true, false_and, and_false, and_self, true_implies, false_implies, implies_true, Option.toList_some, Option.toList_none, List.cons_append, List.nil_append, Nat.add_eq_zero_iff, a_nl_i, a_nl_r, a_nl_n, true_or, or_true, eq_self, a_isRA_22, a_isRA_24, a_isRA_32, a_isA_20, ok_4, ok_5, ok_6, ok_7, ok_9, ok_20, ok_21, ok_30, ok_50, ok_180, ok_192, ok_200]
  all_goals ((try clear hq); (try clear hA); (try clear hB); (try clear hB2); (try clear hZ); (try clear hH); (try clear hT); grind [ui_ap])
theorem cu_again9 (hH : cH C c (n + 1) t K L I R) (hP : ∀ v n' t' K' L' J R', cZ9 C (c + 4) (n + 1) K L I R (n' + 1) t' K' L' J R' → P (some (.int v)) (n' + 1, t', K', L', J, R')) : a_does (d + 70) 143 [a_rf C] (n + 1, t, K, L, I, R) P := by
  have hT := hH.1
  have hS := hT.s
  have hZ := cZ_refl9 hH
  have hq : ∀ v J R1, cZ9 C c (n + 1) K L I R (n + 1) t K L J R1 → P (some (.int v)) (n + 1, t, K, L, J, R1) := fun v J R1 z => hP v n t K L J R1 (cZ_le9 z (by omega))
  have hA : ∀ v n' t' K' L' J R', cZ9 C c (n + 1) K L I R (n' + 1) t' K' L' J R' → P (some (.int v)) (n' + 1, t', K', L', J, R') := fun v n' t' K' L' J R' z => hP v n' t' K' L' J R' (cZ_le9 z (by omega))
  have hB : ∀ v n' t' K' L' J R', cZ9 C (c + 1) (n + 1) K L I R (n' + 1) t' K' L' J R' → P (some (.int v)) (n' + 1, t', K', L', J, R') := fun v n' t' K' L' J R' z => hP v n' t' K' L' J R' (cZ_le9 z (by omega))
  have hB2 : ∀ v n' t' K' L' J R', cZ9 C (c + 1 + 1) (n + 1) K L I R (n' + 1) t' K' L' J R' → P (some (.int v)) (n' + 1, t', K', L', J, R') := fun v n' t' K' L' J R' z => hP v n' t' K' L' J R' (cZ_le9 z (by omega))
  clear hP
  rw [a_enter1 (M := a_m143) rfl (a_cat_rf a_cat_nil) (show 1 ≤ 1 by decide)]
  show a_at _ (a_xm a_m143) 0 [some (a_rf C)] [] _ _
  simp only [q143_0, q143_1, q143_4, k_0 hS, z_C hS, r_0_5 hS, k_22 hS, z_22, as_nil, as_i, as_r, Nat.reduceAdd, Nat.reduceLeDiff, z_eq0, z_eq1, z_or, z_em, Classical.not_not, not_false_eq_true, not_true_eq_false, true_and, and_true, false_and, and_false, and_self, true_implies, false_implies, implies_true, Option.toList_some, Option.toList_none, List.cons_append, List.nil_append, Nat.add_eq_zero_iff, a_nl_i, a_nl_r, a_nl_n, true_or, or_true, eq_self, a_isRA_22, a_isRA_24, a_isRA_32, a_isA_20, ok_4, ok_5, ok_6, ok_7, ok_9, ok_20, ok_21, ok_30, ok_50, ok_180, ok_192, ok_200]
  refine ck_planAgain9 hZ (fun v n' t' K' L' J R' z => ?_)
  simp only [q143_7, as_nil, as_i, as_r, Nat.reduceAdd, Nat.reduceLeDiff, z_eq0, z_eq1, z_or, z_em, Classical.not_not, not_false_eq_true, not_true_eq_false, true_and, and_true, false_and, and_false, and_self, true_implies, false_implies, implies_true, Option.toList_some, Option.toList_none, List.cons_append, List.nil_append, Nat.add_eq_zero_iff, a_nl_i, a_nl_r, a_nl_n, true_or, or_true, eq_self, a_isRA_22, a_isRA_24, a_isRA_32, a_isA_20, ok_4, ok_5, ok_6, ok_7, ok_9, ok_20, ok_21, ok_30, ok_50, ok_180, ok_192, ok_200]
  exact hA v n' t' K' L' J R' z
theorem cu_swap9 (hH : cH C c (n + 1) t K L I R) (hP : ∀ v n' t' K' L' J R', cZ9 C (c + 4) (n + 1) K L I R (n' + 1) t' K' L' J R' → P (some (.int v)) (n' + 1, t', K', L', J, R')) : a_does (d + 70) 158 [a_rf C] (n + 1, t, K, L, I, R) P := by
  have hT := hH.1
  have hS := hT.s
  have hZ := cZ_refl9 hH
  have hq : ∀ v J R1, cZ9 C c (n + 1) K L I R (n + 1) t K L J R1 → P (some (.int v)) (n + 1, t, K, L, J, R1) := fun v J R1 z => hP v n t K L J R1 (cZ_le9 z (by omega))
  have hA : ∀ v n' t' K' L' J R', cZ9 C c (n + 1) K L I R (n' + 1) t' K' L' J R' → P (some (.int v)) (n' + 1, t', K', L', J, R') := fun v n' t' K' L' J R' z => hP v n' t' K' L' J R' (cZ_le9 z (by omega))
  have hB : ∀ v n' t' K' L' J R', cZ9 C (c + 1) (n + 1) K L I R (n' + 1) t' K' L' J R' → P (some (.int v)) (n' + 1, t', K', L', J, R') := fun v n' t' K' L' J R' z => hP v n' t' K' L' J R' (cZ_le9 z (by omega))
  have hB2 : ∀ v n' t' K' L' J R', cZ9 C (c + 1 + 1) (n + 1) K L I R (n' + 1) t' K' L' J R' → P (some (.int v)) (n' + 1, t', K', L', J, R') := fun v n' t' K' L' J R' z => hP v n' t' K' L' J R' (cZ_le9 z (by omega))
  clear hP
  rw [a_enter1 (M := a_m158) rfl (a_cat_rf a_cat_nil) (show 1 ≤ 1 by decide)]
  show a_at _ (a_xm a_m158) 0 [some (a_rf C)] [] _ _
  simp only [q158_0, q158_1, q158_4, k_0 hS, z_C hS, r_0_7 hS, k_35 hS, z_35, as_nil, as_i, as_r, Nat.reduceAdd, Nat.reduceLeDiff, z_eq0, z_eq1, z_or, z_em, Classical.not_not, not_false_eq_true, not_true_eq_false, true_and, and_true, false_and, and_false, and_self, true_implies, false_implies, implies_true, Option.toList_some, Option.toList_none, List.cons_append, List.nil_append, Nat.add_eq_zero_iff, a_nl_i, a_nl_r, a_nl_n, true_or, or_true, eq_self, a_isRA_22, a_isRA_24, a_isRA_32, a_isA_20, ok_4, ok_5, ok_6, ok_7, ok_9, ok_20, ok_21, ok_30, ok_50, ok_180, ok_192, ok_200]
  refine ck_find9 hZ (fun v J R2 z e1 e2 e3 e4 => ?_)
  have hS := z.2.1.1.s
  simp only [q158_7, q158_10, q158_11, q158_13, q158_16, q158_17, q158_18, q158_21, k_0 hS, z_C hS, r_0_7 hS, k_35 hS, z_35, as_nil, as_i, as_r, Nat.reduceAdd, Nat.reduceLeDiff, z_eq0, z_eq1, z_or, z_em, Classical.not_not, not_false_eq_true, not_true_eq_false, true_and, and_true, false_and, and_false, and_self, true_implies, false_implies, implies_true, Option.toList_some, Option.toList_none, List.cons_append, List.nil_append, Nat.add_eq_zero_iff, a_nl_i, a_nl_r, a_nl_n, true_or, or_true, eq_self, a_isRA_22, a_isRA_24, a_isRA_32, a_isA_20, ok_4, ok_5, ok_6, ok_7, ok_9, ok_20, ok_21, ok_30, ok_50, ok_180, ok_192, ok_200]
  refine ⟨fun h => ?_, fun h => ?_⟩
  all_goals first
    | (refine ck_refuse9 z (fun J2 z2 => ?_)
       simp only [q158_16, as_nil, as_i, as_r, Nat.reduceAdd, Nat.reduceLeDiff, z_eq0, z_eq1, z_or, z_em, Classical.not_not, not_false_eq_true, not_true_eq_false, true_and, and_true, false_and, and_false, and_self, true_implies, false_implies, implies_true, Option.toList_some, Option.toList_none, List.cons_append, List.nil_append, Nat.add_eq_zero_iff, a_nl_i, a_nl_r, a_nl_n, true_or, or_true, eq_self, a_isRA_22, a_isRA_24, a_isRA_32, a_isA_20, ok_4, ok_5, ok_6, ok_7, ok_9, ok_20, ok_21, ok_30, ok_50, ok_180, ok_192, ok_200]
       exact hq _ _ _ z2)
    | (have hv := e2.resolve_left h
       refine ck_turn9 (m := v) (Int32.le_trans (by decide) hv.1) hv.2 e3 e4 e1 z (fun v2 n' t' K' L' J' R' z2 => ?_)
       simp only [q158_24, as_nil, as_i, as_r, Nat.reduceAdd, Nat.reduceLeDiff, z_eq0, z_eq1, z_or, z_em, Classical.not_not, not_false_eq_true, not_true_eq_false, true_and, and_true, false_and, and_false, and_self, true_implies, false_implies, implies_true, Option.toList_some, Option.toList_none, List.cons_append, List.nil_append, Nat.add_eq_zero_iff, a_nl_i, a_nl_r, a_nl_n, true_or, or_true, eq_self, a_isRA_22, a_isRA_24, a_isRA_32, a_isA_20, ok_4, ok_5, ok_6, ok_7, ok_9, ok_20, ok_21, ok_30, ok_50, ok_180, ok_192, ok_200]
       exact hA _ _ _ _ _ _ _ z2)
theorem cu_draft9 (hH : cH C c (n + 1) t K L I R) {g l m w : Int32} (hP : ∀ v n' t' K' L' J R', cZ9 C (c + 4) (n + 1) K L I R (n' + 1) t' K' L' J R' → P (some (.int v)) (n' + 1, t', K', L', J, R')) : a_does (d + 70) 36 [a_rf C, .int g, .int l, .int m, .int w] (n + 1, t, K, L, I, R) P := by
  have hT := hH.1
  have hS := hT.s
  have hZ := cZ_refl9 hH
  have hq : ∀ v J R1, cZ9 C c (n + 1) K L I R (n + 1) t K L J R1 → P (some (.int v)) (n + 1, t, K, L, J, R1) := fun v J R1 z => hP v n t K L J R1 (cZ_le9 z (by omega))
  have hA : ∀ v n' t' K' L' J R', cZ9 C c (n + 1) K L I R (n' + 1) t' K' L' J R' → P (some (.int v)) (n' + 1, t', K', L', J, R') := fun v n' t' K' L' J R' z => hP v n' t' K' L' J R' (cZ_le9 z (by omega))
  have hB : ∀ v n' t' K' L' J R', cZ9 C (c + 1) (n + 1) K L I R (n' + 1) t' K' L' J R' → P (some (.int v)) (n' + 1, t', K', L', J, R') := fun v n' t' K' L' J R' z => hP v n' t' K' L' J R' (cZ_le9 z (by omega))
  have hB2 : ∀ v n' t' K' L' J R', cZ9 C (c + 1 + 1) (n + 1) K L I R (n' + 1) t' K' L' J R' → P (some (.int v)) (n' + 1, t', K', L', J, R') := fun v n' t' K' L' J R' z => hP v n' t' K' L' J R' (cZ_le9 z (by omega))
  clear hP
  have f0 : (n + 1 = 0) = False := eq_false (by omega)
  have hC := hH.2.2.1
  have nC : (C = n + 1) = False := eq_false (by omega)
  have hgo : (1 ≤ m ∧ m ≤ 4) → a_at (d + 69) (a_xm a_m36) 61 [some (a_rf C), some (.int g), some (.int l), some (.int m), some (.int w)] [] (n + 1, t, K, L, I, R) P := fun hm => by
    simp only [q36_61, q36_62, q36_65, q36_66, q36_67, q36_68, q36_69, q36_71, as_nil, as_i, as_r, Nat.reduceAdd, Nat.reduceLeDiff, z_eq0, z_eq1, z_or, z_em, Classical.not_not, not_false_eq_true, not_true_eq_false, true_and, and_true, false_and, and_false, and_self, true_implies, false_implies, implies_true, Option.toList_some, Option.toList_none, List.cons_append, List.nil_append, Nat.add_eq_zero_iff, a_nl_i, a_nl_r, a_nl_n, true_or, or_true, eq_self, a_isRA_22, a_isRA_24, a_isRA_32, a_isA_20, ok_4, ok_5, ok_6, ok_7, ok_9, ok_20, ok_21, ok_30, ok_50, ok_180, ok_192, ok_200, f0]
    refine ck_Ainit9 hZ hm (fun t' K' L' J R' z k1 k2 => ?_)
    have hS := z.2.1.1.s
    simp only [q36_74, q36_77, q36_78, k_0 hS, z_C hS, as_nil, as_i, as_r, Nat.reduceAdd, Nat.reduceLeDiff, z_eq0, z_eq1, z_or, z_em, Classical.not_not, not_false_eq_true, not_true_eq_false, true_and, and_true, false_and, and_false, and_self, true_implies, false_implies, implies_true, Option.toList_some, Option.toList_none, List.cons_append, List.nil_append, Nat.add_eq_zero_iff, a_nl_i, a_nl_r, a_nl_n, true_or, or_true, eq_self, a_isRA_22, a_isRA_24, a_isRA_32, a_isA_20, ok_4, ok_5, ok_6, ok_7, ok_9, ok_20, ok_21, ok_30, ok_50, ok_180, ok_192, ok_200, ui_ap, cc_ne, cc_n0, cc_0n, Nat.reduceEqDiff, reduceIte, if_true, if_false]
    exact hB _ _ _ _ _ _ _ (cZ_Rd9 z (Or.inr k1))
  rw [a_enter1 (M := a_m36) rfl (a_cat_rf (a_cat_int (a_cat_int (a_cat_int (a_cat_int a_cat_nil))))) (show 5 ≤ 5 by decide)]
  show a_at _ (a_xm a_m36) 0 [some (a_rf C), some (.int g), some (.int l), some (.int m), some (.int w)] [] _ _
  repeat' first
    | with_reducible apply And.intro
    | with_reducible assumption
    | with_reducible intro _
    | exact hq _ _ _ hZ
    | exact hq _ _ _ (by assumption)
    | exact hq _ _ _ (cZ_C9 hZ (by assumption))
    | exact hq _ _ _ (cZ_G9 hZ (by assumption))
    | exact hq _ _ _ (cZ_L9 hZ (by assumption))
    | refine ck_refuse9 hZ (fun _ _ => ?_)
    | refine ck_refuse9 (cZ_C9 hZ (by assumption)) (fun _ _ => ?_)
    | exact dC_T (by assumption)
    | exact dG_refl9 hT
    | with_reducible apply hgo
    | simp only [q36_0, q36_1, q36_4, q36_5, q36_7, q36_10, q36_11, q36_14, q36_15, q36_16, q36_19, q36_20, q36_21, q36_24, q36_25, q36_26, q36_27, q36_30, q36_32, q36_35, q36_36, q36_38, q36_41, q36_42, q36_43, q36_44, q36_47, q36_49, q36_51, q36_54, q36_55, q36_57, q36_60, k_0 hS, z_C hS, as_nil, as_i, as_r, Nat.reduceAdd, Nat.reduceLeDiff, z_eq0, z_eq1, z_or, z_em, Classical.not_not, not_false_eq_true, not_true_eq_false, true_and, and_true, false_and, and_false, and_self, true_implies, false_implies, implies_true, Option.toList_some, Option.toList_none, List.cons_append, List.nil_append, Nat.add_eq_zero_iff, a_nl_i, a_nl_r, a_nl_n, true_or, or_true, eq_self, a_isRA_22, a_isRA_24, a_isRA_32, a_isA_20, ok_4, ok_5, ok_6, ok_7, ok_9, ok_20, ok_21, ok_30, ok_50, ok_180, ok_192, ok_200]
  all_goals ((try clear hgo); (try clear hq); (try clear hA); (try clear hB); (try clear hB2); (try clear hZ); (try clear hH); (try clear hT); grind [ui_ap])
theorem ck_addAsk29 {a : Nat} (ha : K a = 1) (hZ : cZ9 C c n0 K0 L0 I0 R0 n t K L I R) (hP : ∀ v J R', cZ9 C c n0 K0 L0 I0 R0 n t K L J R' → P (some (.int v)) (n, t, K, L, J, R')) : a_does (d + 1) 43 [a_rf (C + 14), a_rf a] (n, t, K, L, I, R) P := by
  by_cases hc : 30 ≤ I (C + 14) 4
  · have hS := hZ.2.1.1.s
    rw [a_enter1 (M := a_m43) rfl (a_cat_rf (a_cat_rf a_cat_nil)) (show 2 ≤ 2 by decide)]
    show a_at _ (a_xm a_m43) 0 [some (a_rf (C + 14)), some (a_rf a)] [] _ _
    have hc2 : ¬ I (C + 14) 4 < 30 := Int32.not_lt.mpr hc
    have h0 := fun v => hP v I R hZ
    simp only [q43_0, q43_1, q43_4, q43_6, q43_9, q43_11, k_14 hS, z_14, as_nil, as_i, as_r, Nat.reduceAdd, Nat.reduceLeDiff, z_eq0, z_eq1, z_or, z_em, Classical.not_not, not_false_eq_true, not_true_eq_false, true_and, and_true, false_and, and_false, and_self, true_implies, false_implies, implies_true, Option.toList_some, Option.toList_none, List.cons_append, List.nil_append, Nat.add_eq_zero_iff, a_nl_i, a_nl_r, a_nl_n, true_or, or_true, eq_self, a_isRA_22, a_isRA_24, a_isRA_32, a_isA_20, ok_4, ok_5, ok_6, ok_7, ok_9, ok_20, ok_21, ok_30, ok_50, ok_180, ok_192, ok_200, hc, hc2]
    first
      | exact h0 _
      | exact ⟨fun h => absurd h hc2, fun _ => h0 _⟩
  · exact ck_addAsk9 ha hZ hc hP
theorem cu_ask9 (hH : cH C c (n + 1) t K L I R) {k bs ms g dg x y : Int32} (hP : ∀ v n' t' K' L' J R', cZ9 C (c + 4) (n + 1) K L I R (n' + 1) t' K' L' J R' → P (some (.int v)) (n' + 1, t', K', L', J, R')) : a_does (d + 70) 38 [a_rf C, .int k, .int bs, .int ms, .int g, .int dg, .int x, .int y] (n + 1, t, K, L, I, R) P := by
  have hT := hH.1
  have hS := hT.s
  have hZ := cZ_refl9 hH
  have hq : ∀ v J R1, cZ9 C c (n + 1) K L I R (n + 1) t K L J R1 → P (some (.int v)) (n + 1, t, K, L, J, R1) := fun v J R1 z => hP v n t K L J R1 (cZ_le9 z (by omega))
  have hA : ∀ v n' t' K' L' J R', cZ9 C c (n + 1) K L I R (n' + 1) t' K' L' J R' → P (some (.int v)) (n' + 1, t', K', L', J, R') := fun v n' t' K' L' J R' z => hP v n' t' K' L' J R' (cZ_le9 z (by omega))
  have hB : ∀ v n' t' K' L' J R', cZ9 C (c + 1) (n + 1) K L I R (n' + 1) t' K' L' J R' → P (some (.int v)) (n' + 1, t', K', L', J, R') := fun v n' t' K' L' J R' z => hP v n' t' K' L' J R' (cZ_le9 z (by omega))
  have hB2 : ∀ v n' t' K' L' J R', cZ9 C (c + 1 + 1) (n + 1) K L I R (n' + 1) t' K' L' J R' → P (some (.int v)) (n' + 1, t', K', L', J, R') := fun v n' t' K' L' J R' z => hP v n' t' K' L' J R' (cZ_le9 z (by omega))
  clear hP
  have gA := hT.g_asksR
  have gB := hT.g_benchesR
  have gX := hT.g_textsR
  have gd := hT.g_draft
  have gi := gA x.toNatClampNeg
  have hgo : ¬ R C 11 = 0 → ∀ u, a_at (d + 69) (a_xm a_m38) 152 [some (a_rf C), some (.int k), some (.int bs), some (.int ms), some (.int g), some (.int dg), some (.int x), some (.int y), u] [] (n + 1, t, K, L, I, R) P := fun h0 u => by
    have ha := gd.resolve_left h0
    have a1 := (hT.g_ask _ ha).1
    simp only [q38_152, q38_153, q38_156, q38_158, q38_160, q38_161, q38_162, q38_164, q38_166, k_0 hS, z_C hS, as_nil, as_i, as_r, Nat.reduceAdd, Nat.reduceLeDiff, z_eq0, z_eq1, z_or, z_em, Classical.not_not, not_false_eq_true, not_true_eq_false, true_and, and_true, false_and, and_false, and_self, true_implies, false_implies, implies_true, Option.toList_some, Option.toList_none, List.cons_append, List.nil_append, Nat.add_eq_zero_iff, a_nl_i, a_nl_r, a_nl_n, true_or, or_true, eq_self, a_isRA_22, a_isRA_24, a_isRA_32, a_isA_20, ok_4, ok_5, ok_6, ok_7, ok_9, ok_20, ok_21, ok_30, ok_50, ok_180, ok_192, ok_200, ha, h0]
    refine ck_want9 ha (dG_refl9 hT) (fun J1 g1 => ?_)
    simp only [q38_169, q38_171, q38_172, q38_174, q38_176, k_0 hS, z_C hS, as_nil, as_i, as_r, Nat.reduceAdd, Nat.reduceLeDiff, z_eq0, z_eq1, z_or, z_em, Classical.not_not, not_false_eq_true, not_true_eq_false, true_and, and_true, false_and, and_false, and_self, true_implies, false_implies, implies_true, Option.toList_some, Option.toList_none, List.cons_append, List.nil_append, Nat.add_eq_zero_iff, a_nl_i, a_nl_r, a_nl_n, true_or, or_true, eq_self, a_isRA_22, a_isRA_24, a_isRA_32, a_isA_20, ok_4, ok_5, ok_6, ok_7, ok_9, ok_20, ok_21, ok_30, ok_50, ok_180, ok_192, ok_200, ha, h0]
    refine ck_bind9 ha g1 (fun J2 g2 => ?_)
    have z2 := cZ_Rd9 (v := 0) (cZ_G9 hZ g2) (Or.inl rfl)
    have e0 : a_rf 0 = .null := rfl
    simp only [q38_179, q38_180, q38_181, q38_184, q38_185, q38_188, q38_190, k_0 hS, z_C hS, r_0_4 hS, k_14 hS, z_14, as_nil, as_i, as_r, Nat.reduceAdd, Nat.reduceLeDiff, z_eq0, z_eq1, z_or, z_em, Classical.not_not, not_false_eq_true, not_true_eq_false, true_and, and_true, false_and, and_false, and_self, true_implies, false_implies, implies_true, Option.toList_some, Option.toList_none, List.cons_append, List.nil_append, Nat.add_eq_zero_iff, a_nl_i, a_nl_r, a_nl_n, true_or, or_true, eq_self, a_isRA_22, a_isRA_24, a_isRA_32, a_isA_20, ok_4, ok_5, ok_6, ok_7, ok_9, ok_20, ok_21, ok_30, ok_50, ok_180, ok_192, ok_200, ur_ap, cc_ne, cc_n0, cc_0n, Nat.reduceEqDiff, if_false, ha, h0]
    refine ck_addAsk29 ha z2 (fun v J4 R4 z5 => ?_)
    simp only [q38_193, as_nil, as_i, as_r, Nat.reduceAdd, Nat.reduceLeDiff, z_eq0, z_eq1, z_or, z_em, Classical.not_not, not_false_eq_true, not_true_eq_false, true_and, and_true, false_and, and_false, and_self, true_implies, false_implies, implies_true, Option.toList_some, Option.toList_none, List.cons_append, List.nil_append, Nat.add_eq_zero_iff, a_nl_i, a_nl_r, a_nl_n, true_or, or_true, eq_self, a_isRA_22, a_isRA_24, a_isRA_32, a_isA_20, ok_4, ok_5, ok_6, ok_7, ok_9, ok_20, ok_21, ok_30, ok_50, ok_180, ok_192, ok_200]
    exact hq _ _ _ z5
  rw [a_enter1 (M := a_m38) rfl (a_cat_rf (a_cat_int (a_cat_int (a_cat_int (a_cat_int (a_cat_int (a_cat_int (a_cat_int a_cat_nil)))))))) (show 8 ≤ 9 by decide)]
  show a_at _ (a_xm a_m38) 0 [some (a_rf C), some (.int k), some (.int bs), some (.int ms), some (.int g), some (.int dg), some (.int x), some (.int y), none] [] _ _
  repeat' first
    | with_reducible apply And.intro
    | with_reducible assumption
    | with_reducible intro _
    | exact hq _ _ _ hZ
    | exact hq _ _ _ (by assumption)
    | exact hq _ _ _ (cZ_C9 hZ (by assumption))
    | exact hq _ _ _ (cZ_G9 hZ (by assumption))
    | exact hq _ _ _ (cZ_L9 hZ (by assumption))
    | refine ck_refuse9 hZ (fun _ _ => ?_)
    | refine ck_refuse9 (cZ_C9 hZ (by assumption)) (fun _ _ => ?_)
    | exact dC_T (by assumption)
    | exact dG_refl9 hT
    | with_reducible apply ck_daysBelow
    | with_reducible apply ck_daysAbove
    | with_reducible apply hgo
    | simp only [q38_0, q38_1, q38_4, q38_7, q38_8, q38_10, q38_13, q38_14, q38_15, q38_18, q38_19, q38_20, q38_23, q38_24, q38_26, q38_29, q38_30, q38_31, q38_34, q38_35, q38_38, q38_40, q38_43, q38_44, q38_46, q38_48, q38_51, q38_54, q38_55, q38_57, q38_60, q38_61, q38_62, q38_64, q38_67, q38_68, q38_70, q38_73, q38_75, q38_77, q38_80, q38_81, q38_83, q38_85, q38_88, q38_91, q38_92, q38_95, q38_98, q38_100, q38_103, q38_104, q38_106, q38_109, q38_110, q38_112, q38_113, q38_116, q38_118, q38_120, q38_123, q38_124, q38_125, q38_128, q38_129, q38_130, q38_131, q38_134, q38_135, q38_138, q38_140, q38_143, q38_146, q38_147, q38_148, q38_151, k_0 hS, z_C hS, r_0_4 hS, k_14 hS, z_14, sp_askAt hS gA, as_nil, as_i, as_r, Nat.reduceAdd, Nat.reduceLeDiff, z_eq0, z_eq1, z_or, z_em, Classical.not_not, not_false_eq_true, not_true_eq_false, true_and, and_true, false_and, and_false, and_self, true_implies, false_implies, implies_true, Option.toList_some, Option.toList_none, List.cons_append, List.nil_append, Nat.add_eq_zero_iff, a_nl_i, a_nl_r, a_nl_n, true_or, or_true, eq_self, a_isRA_22, a_isRA_24, a_isRA_32, a_isA_20, ok_4, ok_5, ok_6, ok_7, ok_9, ok_20, ok_21, ok_30, ok_50, ok_180, ok_192, ok_200]
  all_goals ((try clear hgo); (try clear hq); (try clear hA); (try clear hB); (try clear hB2); (try clear hZ); (try clear hH); (try clear hT); grind [ui_ap])
theorem cu_owe9 (hH : cH C c (n + 1) t K L I R) {q : Int32} (hP : ∀ v n' t' K' L' J R', cZ9 C (c + 4) (n + 1) K L I R (n' + 1) t' K' L' J R' → P (some (.int v)) (n' + 1, t', K', L', J, R')) : a_does (d + 70) 141 [a_rf C, .int q] (n + 1, t, K, L, I, R) P := by
  have hT := hH.1
  have hS := hT.s
  have hZ := cZ_refl9 hH
  have hq : ∀ v J R1, cZ9 C c (n + 1) K L I R (n + 1) t K L J R1 → P (some (.int v)) (n + 1, t, K, L, J, R1) := fun v J R1 z => hP v n t K L J R1 (cZ_le9 z (by omega))
  have hA : ∀ v n' t' K' L' J R', cZ9 C c (n + 1) K L I R (n' + 1) t' K' L' J R' → P (some (.int v)) (n' + 1, t', K', L', J, R') := fun v n' t' K' L' J R' z => hP v n' t' K' L' J R' (cZ_le9 z (by omega))
  have hB : ∀ v n' t' K' L' J R', cZ9 C (c + 1) (n + 1) K L I R (n' + 1) t' K' L' J R' → P (some (.int v)) (n' + 1, t', K', L', J, R') := fun v n' t' K' L' J R' z => hP v n' t' K' L' J R' (cZ_le9 z (by omega))
  have hB2 : ∀ v n' t' K' L' J R', cZ9 C (c + 1 + 1) (n + 1) K L I R (n' + 1) t' K' L' J R' → P (some (.int v)) (n' + 1, t', K', L', J, R') := fun v n' t' K' L' J R' z => hP v n' t' K' L' J R' (cZ_le9 z (by omega))
  clear hP
  have gA := hT.g_asksR
  have gB := hT.g_benchesR
  have gX := hT.g_textsR
  have gi := gA q.toNatClampNeg
  have ga := fun h => hT.g_ask (R (C + 15) q.toNatClampNeg) (gi.resolve_left h)
  have hgo : ¬ R (C + 15) q.toNatClampNeg = 0 → ∀ J1, dC C K L R I J1 → ¬ hw C L R I (R (C + 15) q.toNatClampNeg) = 0 → a_at (d + 69) (a_xm a_m141) 74 [some (a_rf C), some (.int q), some (a_rf (R (C + 15) q.toNatClampNeg))] [] (n + 1, t, K, L, J1, R) P := fun h0 J1 j1 hv => by
    have ha := gi.resolve_left h0
    have a1 := (ga h0).1
    have hT1 := j1.1
    have z1 := cZ_C9 hZ j1
    have g2 : dG9 C K L R J1 (a_ui J1 (R (C + 15) q.toNatClampNeg) 16 1) := dG_askf9 (dG_refl9 hT1) a1 ha (by decide)
    have z2 := cZ_G9 z1 g2
    have e1 : hw C L R (a_ui J1 (R (C + 15) q.toNatClampNeg) 16 1) (R (C + 15) q.toNatClampNeg) = hw C L R I (R (C + 15) q.toNatClampNeg) := (hw_ui ha hT1).trans (hw_C j1 ha hT)
    have hr := hw_rng ha hT
    have hm : 1 ≤ hw C L R I (R (C + 15) q.toNatClampNeg) ∧ hw C L R I (R (C + 15) q.toNatClampNeg) ≤ 4 := by
      generalize hw C L R I (R (C + 15) q.toNatClampNeg) = w at hv hr
      clear hq hA hB hB2 hZ hH hT hT1 z1 z2 g2 ga gi gA gB gX e1
      grind
    simp only [q141_74, q141_75, q141_76, q141_79, q141_80, q141_83, q141_84, q141_85, q141_88, q141_89, k_0 hS, z_C hS, r_0_4 hS, k_14 hS, z_14, as_nil, as_i, as_r, Nat.reduceAdd, Nat.reduceLeDiff, z_eq0, z_eq1, z_or, z_em, Classical.not_not, not_false_eq_true, not_true_eq_false, true_and, and_true, false_and, and_false, and_self, true_implies, false_implies, implies_true, Option.toList_some, Option.toList_none, List.cons_append, List.nil_append, Nat.add_eq_zero_iff, a_nl_i, a_nl_r, a_nl_n, true_or, or_true, eq_self, a_isRA_22, a_isRA_24, a_isRA_32, a_isA_20, ok_4, ok_5, ok_6, ok_7, ok_9, ok_20, ok_21, ok_30, ok_50, ok_180, ok_192, ok_200, ui_ap, cc_ne, cc_n0, cc_0n, Nat.reduceEqDiff, reduceIte, if_true, if_false, ha, h0]
    refine ck_hallOwed ha g2.1 (fun J3 j3 => ?_)
    have z3 := cZ_C9 z2 j3
    rw [e1]
    simp only [q141_92, k_0 hS, z_C hS, as_nil, as_i, as_r, Nat.reduceAdd, Nat.reduceLeDiff, z_eq0, z_eq1, z_or, z_em, Classical.not_not, not_false_eq_true, not_true_eq_false, true_and, and_true, false_and, and_false, and_self, true_implies, false_implies, implies_true, Option.toList_some, Option.toList_none, List.cons_append, List.nil_append, Nat.add_eq_zero_iff, a_nl_i, a_nl_r, a_nl_n, true_or, or_true, eq_self, a_isRA_22, a_isRA_24, a_isRA_32, a_isA_20, ok_4, ok_5, ok_6, ok_7, ok_9, ok_20, ok_21, ok_30, ok_50, ok_180, ok_192, ok_200, ha, h0]
    refine ck_owedOne9 ha z3 hm (fun t' K' L' J' R' z4 k1 k2 => ?_)
    have hS := z4.2.1.1.s
    simp only [q141_95, k_0 hS, z_C hS, as_nil, as_i, as_r, Nat.reduceAdd, Nat.reduceLeDiff, z_eq0, z_eq1, z_or, z_em, Classical.not_not, not_false_eq_true, not_true_eq_false, true_and, and_true, false_and, and_false, and_self, true_implies, false_implies, implies_true, Option.toList_some, Option.toList_none, List.cons_append, List.nil_append, Nat.add_eq_zero_iff, a_nl_i, a_nl_r, a_nl_n, true_or, or_true, eq_self, a_isRA_22, a_isRA_24, a_isRA_32, a_isA_20, ok_4, ok_5, ok_6, ok_7, ok_9, ok_20, ok_21, ok_30, ok_50, ok_180, ok_192, ok_200]
    refine ⟨k_14 hS, ck_addAsk29 k1 z4 (fun v J4 R4 z5 => ?_)⟩
    simp only [q141_98, as_nil, as_i, as_r, Nat.reduceAdd, Nat.reduceLeDiff, z_eq0, z_eq1, z_or, z_em, Classical.not_not, not_false_eq_true, not_true_eq_false, true_and, and_true, false_and, and_false, and_self, true_implies, false_implies, implies_true, Option.toList_some, Option.toList_none, List.cons_append, List.nil_append, Nat.add_eq_zero_iff, a_nl_i, a_nl_r, a_nl_n, true_or, or_true, eq_self, a_isRA_22, a_isRA_24, a_isRA_32, a_isA_20, ok_4, ok_5, ok_6, ok_7, ok_9, ok_20, ok_21, ok_30, ok_50, ok_180, ok_192, ok_200]
    exact hB _ _ _ _ _ _ _ z5
  rw [a_enter1 (M := a_m141) rfl (a_cat_rf (a_cat_int a_cat_nil)) (show 2 ≤ 3 by decide)]
  show a_at _ (a_xm a_m141) 0 [some (a_rf C), some (.int q), none] [] _ _
  repeat' first
    | with_reducible apply And.intro
    | with_reducible assumption
    | with_reducible intro _
    | exact hq _ _ _ hZ
    | exact hq _ _ _ (by assumption)
    | exact hq _ _ _ (cZ_C9 hZ (by assumption))
    | exact hq _ _ _ (cZ_G9 hZ (by assumption))
    | exact hq _ _ _ (cZ_L9 hZ (by assumption))
    | refine ck_refuse9 hZ (fun _ _ => ?_)
    | refine ck_refuse9 (cZ_C9 hZ (by assumption)) (fun _ _ => ?_)
    | exact dC_T (by assumption)
    | exact dG_refl9 hT
    | refine ck_hallOwed (gi.resolve_left (by assumption)) hT (fun _ _ => ?_)
    | exact hgo (by assumption) _ (by assumption) (by assumption)
    | with_reducible apply ck_loss ?_ hT
    | simp only [q141_0, q141_1, q141_4, q141_5, q141_8, q141_9, q141_10, q141_13, q141_14, q141_15, q141_18, q141_19, q141_20, q141_23, q141_26, q141_27, q141_30, q141_31, q141_34, q141_37, q141_38, q141_41, q141_42, q141_45, q141_48, q141_49, q141_51, q141_54, q141_55, q141_56, q141_59, q141_62, q141_64, q141_67, q141_68, q141_70, q141_73, k_0 hS, z_C hS, r_0_4 hS, k_14 hS, z_14, sp_askAt hS gA, as_nil, as_i, as_r, Nat.reduceAdd, Nat.reduceLeDiff, z_eq0, z_eq1, z_or, z_em, Classical.not_not, not_false_eq_true, not_true_eq_false, true_and, and_true, false_and, and_false, and_self, true_implies, false_implies, implies_true, Option.toList_some, Option.toList_none, List.cons_append, List.nil_append, Nat.add_eq_zero_iff, a_nl_i, a_nl_r, a_nl_n, true_or, or_true, eq_self, a_isRA_22, a_isRA_24, a_isRA_32, a_isA_20, ok_4, ok_5, ok_6, ok_7, ok_9, ok_20, ok_21, ok_30, ok_50, ok_180, ok_192, ok_200]
  all_goals ((try clear hgo); (try clear hq); (try clear hA); (try clear hB); (try clear hB2); (try clear hZ); (try clear hH); (try clear hT); grind [ui_ap])
end KK
/-! the class: public methods that the first rows compare -/
section KL
variable {d n t C c n0 n' n'' t' : Nat} {K L K0 L0 K' L' K'' L'' : Nat → Nat} {I I0 J J0 J1 J2 : Nat → Nat → Int32} {R R0 R' R'' : Nat → Nat → Nat} {P : Option Value → AH → Prop}
theorem ke_mode9 (hH : cH C c (n + 1) t K L I R) {a b m : Int32} (h1 : ¬ ((0 ≤ a ∧ a < 200) ∧ (0 ≤ b ∧ b < 200) ∧ a ≤ b) → ∀ J, cZ9 C c (n + 1) K L I R (n + 1) t K L J R → P (some (.int (-1))) (n + 1, t, K, L, J, R)) (h2 : ((0 ≤ a ∧ a < 200) ∧ (0 ≤ b ∧ b < 200) ∧ a ≤ b) → (m < 0 ∨ 4 < m) → ∀ J, cZ9 C c (n + 1) K L I R (n + 1) t K L J R → P (some (.int (-2))) (n + 1, t, K, L, J, R)) (hP : ((0 ≤ a ∧ a < 200) ∧ (0 ≤ b ∧ b < 200) ∧ a ≤ b) → ¬ (m < 0 ∨ 4 < m) → ∀ J, cH C c (n + 1) t K L J R → (∀ x j, ¬ x = C + 2 → J x j = I x j) → (∀ j, J (C + 2) j = if a.toNatClampNeg ≤ j ∧ j ≤ b.toNatClampNeg then m else I (C + 2) j) → P (some (.int (cn (I (C + 2)) m a.toNatClampNeg (b.toNatClampNeg + 1 - a.toNatClampNeg)))) (n + 1, t, K, L, J, R)) : a_does (d + 70) 11 [a_rf C, .int a, .int b, .int m] (n + 1, t, K, L, I, R) P := by
  have hT := hH.1
  have hS := hT.s
  have hZ := cZ_refl9 hH
  have hgo : ((0 ≤ a ∧ a < 200) ∧ (0 ≤ b ∧ b < 200) ∧ a ≤ b) → ¬ (m < 0 ∨ 4 < m) → a_at (d + 69) (a_xm a_m11) 30 [some (a_rf C), some (.int a), some (.int b), some (.int m)] [] (n + 1, t, K, L, I, R) P := fun q1 q2 => by
    have hP := hP q1 q2
    have qa : 0 ≤ a ∧ a ≤ 199 := by clear hP h1 h2 hZ hH hT; grind
    have qb : 0 ≤ b ∧ b ≤ 199 := by clear hP h1 h2 hZ hH hT; grind
    simp only [q11_30, q11_31, q11_34, q11_35, q11_36, q11_37, k_0 hS, z_C hS, r_0_0 hS, k_1 hS, z_1, as_nil, as_i, as_r, Nat.reduceAdd, Nat.reduceLeDiff, z_eq0, z_eq1, z_or, z_em, Classical.not_not, not_false_eq_true, not_true_eq_false, true_and, and_true, false_and, and_false, and_self, true_implies, false_implies, implies_true, Option.toList_some, Option.toList_none, List.cons_append, List.nil_append, Nat.add_eq_zero_iff, a_nl_i, a_nl_r, a_nl_n, true_or, or_true, eq_self, a_isRA_22, a_isRA_24, a_isRA_32, a_isA_20, ok_4, ok_5, ok_6, ok_7, ok_9, ok_20, ok_21, ok_30, ok_50, ok_180, ok_192, ok_200]
    rw [a_enter1 (M := a_m14) rfl (a_cat_rf (a_cat_int (a_cat_int (a_cat_int a_cat_nil)))) (show 4 ≤ 6 by decide)]
    show a_at _ (a_xm a_m14) 0 [some (a_rf (C + 1)), some (.int a), some (.int b), some (.int m), none, none] [] _ _
    simp only [q14_0, q14_1, q14_3, q14_4, as_nil, as_i, as_r, Nat.reduceAdd, Nat.reduceLeDiff, z_eq0, z_eq1, z_or, z_em, Classical.not_not, not_false_eq_true, not_true_eq_false, true_and, and_true, false_and, and_false, and_self, true_implies, false_implies, implies_true, Option.toList_some, Option.toList_none, List.cons_append, List.nil_append, Nat.add_eq_zero_iff, a_nl_i, a_nl_r, a_nl_n, true_or, or_true, eq_self, a_isRA_22, a_isRA_24, a_isRA_32, a_isA_20, ok_4, ok_5, ok_6, ok_7, ok_9, ok_20, ok_21, ok_30, ok_50, ok_180, ok_192, ok_200]
    refine lk_change_6 hS qa qb q1.2.2 (fun J f1 f2 => ?_) a (by grind) 0 I (by grind) (by grind) (fun _ _ _ => rfl) (fun j => by rw [if_neg (by omega)]) (by rw [Nat.sub_self]; rfl)
    simp only [q11_40, as_nil, as_i, as_r, Nat.reduceAdd, Nat.reduceLeDiff, z_eq0, z_eq1, z_or, z_em, Classical.not_not, not_false_eq_true, not_true_eq_false, true_and, and_true, false_and, and_false, and_self, true_implies, false_implies, implies_true, Option.toList_some, Option.toList_none, List.cons_append, List.nil_append, Nat.add_eq_zero_iff, a_nl_i, a_nl_r, a_nl_n, true_or, or_true, eq_self, a_isRA_22, a_isRA_24, a_isRA_32, a_isA_20, ok_4, ok_5, ok_6, ok_7, ok_9, ok_20, ok_21, ok_30, ok_50, ok_180, ok_192, ok_200]
    exact hP J (cH_J hH (sT_fr (k := 2) hT (by decide) f1)) f1 f2
  have g1 : m < 0 → m < 0 ∨ 4 < m := Or.inl
  have g2 : ¬ m ≤ 4 → m < 0 ∨ 4 < m := fun h => Or.inr (Int32.not_le.mp h)
  have g3 : ¬ m < 0 → m ≤ 4 → ¬ (m < 0 ∨ 4 < m) := fun h h2 h3 => h3.elim h (fun h4 => absurd h2 (Int32.not_le.mpr h4))
  rw [a_enter1 (M := a_m11) rfl (a_cat_rf (a_cat_int (a_cat_int (a_cat_int a_cat_nil)))) (show 4 ≤ 4 by decide)]
  show a_at _ (a_xm a_m11) 0 [some (a_rf C), some (.int a), some (.int b), some (.int m)] [] _ _
  repeat' first
    | with_reducible apply And.intro
    | with_reducible assumption
    | with_reducible intro _
    | refine ck_refuse9 hZ (fun _ _ => ?_)
    | exact h1 (by assumption) _ (by assumption)
    | exact h2 (by assumption) (g1 (by assumption)) _ (by assumption)
    | exact h2 (by assumption) (g2 (by assumption)) _ (by assumption)
    | exact hgo (by assumption) (g3 (by assumption) (by assumption))
    | simp only [q11_0, q11_1, q11_2, q11_5, q11_8, q11_9, q11_10, q11_13, q11_14, q11_15, q11_18, q11_19, q11_20, q11_23, q11_24, q11_26, q11_29, k_0 hS, z_C hS, sp_areShifts, as_nil, as_i, as_r, Nat.reduceAdd, Nat.reduceLeDiff, z_eq0, z_eq1, z_or, z_em, Classical.not_not, not_false_eq_true, not_true_eq_false, true_and, and_true, false_and, and_false, and_self, true_implies, false_implies, implies_true, Option.toList_some, Option.toList_none, List.cons_append, List.nil_append, Nat.add_eq_zero_iff, a_nl_i, a_nl_r, a_nl_n, true_or, or_true, eq_self, a_isRA_22, a_isRA_24, a_isRA_32, a_isA_20, ok_4, ok_5, ok_6, ok_7, ok_9, ok_20, ok_21, ok_30, ok_50, ok_180, ok_192, ok_200]
  all_goals ((try clear hgo); (try clear h1); (try clear h2); (try clear hP); (try clear hZ); (try clear hH); (try clear hT); grind [ui_ap])
theorem ke_hours9 (hH : cH C c (n + 1) t K L I R) {v : Int32} (h1 : v < 0 → ∀ J, cZ9 C c (n + 1) K L I R (n + 1) t K L J R → P (some (.int (-4))) (n + 1, t, K, L, J, R)) (h2 : ¬ v < 0 → 1600 - I (C + 1) 6 < v → ∀ J, cZ9 C c (n + 1) K L I R (n + 1) t K L J R → P (some (.int (-6))) (n + 1, t, K, L, J, R)) (hP : ¬ v < 0 → ¬ 1600 - I (C + 1) 6 < v → cH C c (n + 1) t K L (a_ui I (C + 1) 6 (I (C + 1) 6 + v)) R → P (some (.int (I (C + 1) 6 + v))) (n + 1, t, K, L, (a_ui I (C + 1) 6 (I (C + 1) 6 + v)), R)) : a_does (d + 70) 9 [a_rf C, .int v] (n + 1, t, K, L, I, R) P := by
  have hT := hH.1
  have hS := hT.s
  have hZ := cZ_refl9 hH
  have g := hT.g_now
  have hc : ¬ v < 0 → ¬ 1600 - I (C + 1) 6 < v → cH C c (n + 1) t K L (a_ui I (C + 1) 6 (I (C + 1) 6 + v)) R := fun q1 q2 => cH_J hH (sT_Beam_now hT (by clear h1 h2 hP hZ hH hT hS; grind))
  rw [a_enter1 (M := a_m9) rfl (a_cat_rf (a_cat_int a_cat_nil)) (show 2 ≤ 2 by decide)]
  show a_at _ (a_xm a_m9) 0 [some (a_rf C), some (.int v)] [] _ _
  simp only [q9_0, q9_1, q9_4, q9_5, q9_7, q9_10, q9_11, q9_12, q9_15, q9_16, q9_19, q9_22, q9_23, q9_26, q9_27, q9_29, q9_32, q9_33, q9_34, q9_37, q9_38, q9_41, q9_42, q9_43, q9_46, q9_47, q9_50, q9_53, k_0 hS, z_C hS, r_0_0 hS, k_1 hS, z_1, as_nil, as_i, as_r, Nat.reduceAdd, Nat.reduceLeDiff, z_eq0, z_eq1, z_or, z_em, Classical.not_not, not_false_eq_true, not_true_eq_false, true_and, and_true, false_and, and_false, and_self, true_implies, false_implies, implies_true, Option.toList_some, Option.toList_none, List.cons_append, List.nil_append, Nat.add_eq_zero_iff, a_nl_i, a_nl_r, a_nl_n, true_or, or_true, eq_self, a_isRA_22, a_isRA_24, a_isRA_32, a_isA_20, ok_4, ok_5, ok_6, ok_7, ok_9, ok_20, ok_21, ok_30, ok_50, ok_180, ok_192, ok_200, ui_ap, cc_ne, cc_n0, cc_0n, Nat.reduceEqDiff, reduceIte, if_true, if_false]
  have hr4 : v < 0 → a_does (d + 69) 10 [a_rf C, .int (-4)] (n + 1, t, K, L, I, R) (fun r h' => a_at (d + 69) (a_xm a_m9) 10 [some (a_rf C), some (.int v)] (r.toList ++ []) h' P) := fun q => ck_refuse9 hZ (fun J z => by
    simp only [q9_10, as_nil, as_i, as_r, Nat.reduceAdd, Nat.reduceLeDiff, z_eq0, z_eq1, z_or, z_em, Classical.not_not, not_false_eq_true, not_true_eq_false, true_and, and_true, false_and, and_false, and_self, true_implies, false_implies, implies_true, Option.toList_some, Option.toList_none, List.cons_append, List.nil_append, Nat.add_eq_zero_iff, a_nl_i, a_nl_r, a_nl_n, true_or, or_true, eq_self, a_isRA_22, a_isRA_24, a_isRA_32, a_isA_20, ok_4, ok_5, ok_6, ok_7, ok_9, ok_20, ok_21, ok_30, ok_50, ok_180, ok_192, ok_200]
    exact h1 q J z)
  have hr6 : ¬ v < 0 → 1600 - I (C + 1) 6 < v → a_does (d + 69) 10 [a_rf C, .int (-6)] (n + 1, t, K, L, I, R) (fun r h' => a_at (d + 69) (a_xm a_m9) 32 [some (a_rf C), some (.int v)] (r.toList ++ []) h' P) := fun q q2 => ck_refuse9 hZ (fun J z => by
    simp only [q9_32, as_nil, as_i, as_r, Nat.reduceAdd, Nat.reduceLeDiff, z_eq0, z_eq1, z_or, z_em, Classical.not_not, not_false_eq_true, not_true_eq_false, true_and, and_true, false_and, and_false, and_self, true_implies, false_implies, implies_true, Option.toList_some, Option.toList_none, List.cons_append, List.nil_append, Nat.add_eq_zero_iff, a_nl_i, a_nl_r, a_nl_n, true_or, or_true, eq_self, a_isRA_22, a_isRA_24, a_isRA_32, a_isA_20, ok_4, ok_5, ok_6, ok_7, ok_9, ok_20, ok_21, ok_30, ok_50, ok_180, ok_192, ok_200]
    exact h2 q q2 J z)
  clear h1 h2
  clear hZ
  have hfin := fun q1 q2 => hP q1 q2 (hc q1 q2)
  clear hP hc
  clear hH hT hS
  grind
end KL
/-! the class: trip, bench, set, just so -/
section KQ
variable {d n t C c n0 n' n'' t' : Nat} {K L K0 L0 K' L' K'' L'' : Nat → Nat} {I I0 J J0 J1 J2 : Nat → Nat → Int32} {R R0 R' R'' : Nat → Nat → Nat} {P : Option Value → AH → Prop}
theorem ke_trip9 (hH : cH C c (n + 1) t K L I R) {h v : Int32} (h1 : (h < 0 ∨ v < 1) → ∀ J, cZ9 C c (n + 1) K L I R (n + 1) t K L J R → P (some (.int (-4))) (n + 1, t, K, L, J, R)) (h2 : ¬ (h < 0 ∨ v < 1) → (I (C + 1) 6 < h ∨ 60 < v ∨ 20 ≤ I (C + 1) 5) → ∀ J, cZ9 C c (n + 1) K L I R (n + 1) t K L J R → P (some (.int (-6))) (n + 1, t, K, L, J, R)) (hP : ¬ (h < 0 ∨ v < 1) → ¬ (I (C + 1) 6 < h ∨ 60 < v ∨ 20 ≤ I (C + 1) 5) → ∀ J, cH C c (n + 1) t K L J R → (∀ x j, ¬ x = C + 3 → J x j = tX C I h v x j) → P (some (.int (I (C + 1) 5 + 1))) (n + 1, t, K, L, J, R)) : a_does (d + 70) 15 [a_rf C, .int h, .int v] (n + 1, t, K, L, I, R) P := by
  have hT := hH.1
  have hS := hT.s
  have hZ := cZ_refl9 hH
  have g := hT.g_now
  have gneg : ¬ h < 0 → 1 ≤ v → ¬ (h < 0 ∨ v < 1) := fun a b e => e.elim a (fun x => absurd b (Int32.not_le.mpr x))
  have hgo : ¬ h < 0 → 1 ≤ v → ¬ I (C + 1) 6 < h → ¬ 60 < v → I (C + 1) 5 < 20 → a_at (d + 69) (a_xm a_m15) 52 [some (a_rf C), some (.int h), some (.int v)] [] (n + 1, t, K, L, I, R) P := fun a b c1 d1 e1 => by
    have hP := hP (gneg a b) (fun e => e.elim c1 (fun e => e.elim d1 (fun x => absurd e1 (Int32.not_lt.mpr x))))
    simp only [q15_52, q15_53, q15_56, q15_57, q15_58, k_0 hS, z_C hS, r_0_0 hS, k_1 hS, z_1, as_nil, as_i, as_r, Nat.reduceAdd, Nat.reduceLeDiff, z_eq0, z_eq1, z_or, z_em, Classical.not_not, not_false_eq_true, not_true_eq_false, true_and, and_true, false_and, and_false, and_self, true_implies, false_implies, implies_true, Option.toList_some, Option.toList_none, List.cons_append, List.nil_append, Nat.add_eq_zero_iff, a_nl_i, a_nl_r, a_nl_n, true_or, or_true, eq_self, a_isRA_22, a_isRA_24, a_isRA_32, a_isA_20, ok_4, ok_5, ok_6, ok_7, ok_9, ok_20, ok_21, ok_30, ok_50, ok_180, ok_192, ok_200]
    refine ck_found ⟨Int32.not_lt.mp a, Int32.le_trans (Int32.not_lt.mp c1) g.2⟩ hT e1 (fun J g1 f => ?_)
    simp only [q15_61, as_nil, as_i, as_r, Nat.reduceAdd, Nat.reduceLeDiff, z_eq0, z_eq1, z_or, z_em, Classical.not_not, not_false_eq_true, not_true_eq_false, true_and, and_true, false_and, and_false, and_self, true_implies, false_implies, implies_true, Option.toList_some, Option.toList_none, List.cons_append, List.nil_append, Nat.add_eq_zero_iff, a_nl_i, a_nl_r, a_nl_n, true_or, or_true, eq_self, a_isRA_22, a_isRA_24, a_isRA_32, a_isA_20, ok_4, ok_5, ok_6, ok_7, ok_9, ok_20, ok_21, ok_30, ok_50, ok_180, ok_192, ok_200]
    exact hP J (cH_J hH g1) f
  rw [a_enter1 (M := a_m15) rfl (a_cat_rf (a_cat_int (a_cat_int a_cat_nil))) (show 3 ≤ 3 by decide)]
  show a_at _ (a_xm a_m15) 0 [some (a_rf C), some (.int h), some (.int v)] [] _ _
  repeat' first
    | with_reducible apply And.intro
    | with_reducible assumption
    | with_reducible intro _
    | refine ck_refuse9 hZ (fun _ _ => ?_)
    | exact h1 (Or.inl (by assumption)) _ (by assumption)
    | exact h1 (Or.inr (Int32.not_le.mp (by assumption))) _ (by assumption)
    | exact h2 (gneg (by assumption) (by assumption)) (Or.inl (by assumption)) _ (by assumption)
    | exact h2 (gneg (by assumption) (by assumption)) (Or.inr (Or.inl (by assumption))) _ (by assumption)
    | exact h2 (gneg (by assumption) (by assumption)) (Or.inr (Or.inr (Int32.not_lt.mp (by assumption)))) _ (by assumption)
    | exact hgo (by assumption) (by assumption) (by assumption) (by assumption) (by assumption)
    | simp only [q15_0, q15_1, q15_4, q15_5, q15_6, q15_9, q15_10, q15_12, q15_15, q15_16, q15_17, q15_18, q15_21, q15_24, q15_27, q15_28, q15_30, q15_33, q15_34, q15_37, q15_40, q15_42, q15_45, q15_46, q15_48, q15_51, k_0 hS, z_C hS, r_0_0 hS, k_1 hS, z_1, as_nil, as_i, as_r, Nat.reduceAdd, Nat.reduceLeDiff, z_eq0, z_eq1, z_or, z_em, Classical.not_not, not_false_eq_true, not_true_eq_false, true_and, and_true, false_and, and_false, and_self, true_implies, false_implies, implies_true, Option.toList_some, Option.toList_none, List.cons_append, List.nil_append, Nat.add_eq_zero_iff, a_nl_i, a_nl_r, a_nl_n, true_or, or_true, eq_self, a_isRA_22, a_isRA_24, a_isRA_32, a_isA_20, ok_4, ok_5, ok_6, ok_7, ok_9, ok_20, ok_21, ok_30, ok_50, ok_180, ok_192, ok_200]
  all_goals ((try clear hgo); (try clear hr); (try clear hs); (try clear hc); (try clear h0); (try clear h1); (try clear h2); (try clear h3); (try clear h4); (try clear h5); (try clear hP); (try clear hZ); (try clear hH); (try clear hT); (try clear hS); grind [ui_ap])
theorem ke_bench9 (hH : cH C c (n + 1) t K L I R) {p q : Int32} (h1 : (p < 0 ∨ q < 0) → ∀ J, cZ9 C c (n + 1) K L I R (n + 1) t K L J R → P (some (.int (-4))) (n + 1, t, K, L, J, R)) (h2 : ¬ (p < 0 ∨ q < 0) → (255 < p ∨ 255 < q ∨ 6 ≤ I (C + 14) 5) → ∀ J, cZ9 C c (n + 1) K L I R (n + 1) t K L J R → P (some (.int (-6))) (n + 1, t, K, L, J, R)) (hP : ¬ (p < 0 ∨ q < 0) → ¬ (255 < p ∨ 255 < q ∨ 6 ≤ I (C + 14) 5) → ∀ t' K' L' J R', cH C (c + 1) (n + 5 + 1) t' K' L' J R' → dX9 C (n + 1) K L (a_ui I (C + 14) 5 (I (C + 14) 5 + 1)) R (n + 5 + 1) K' L' J R' → P (some (.int (I (C + 14) 5 + 1 - 1))) (n + 5 + 1, t', K', L', J, R')) : a_does (d + 70) 20 [a_rf C, .int p, .int q] (n + 1, t, K, L, I, R) P := by
  have hT := hH.1
  have hS := hT.s
  have hZ := cZ_refl9 hH
  have gneg : ¬ p < 0 → 0 ≤ q → ¬ (p < 0 ∨ q < 0) := fun a b e => e.elim a (fun x => absurd b (Int32.not_le.mpr x))
  have hgo : ¬ p < 0 → 0 ≤ q → ¬ 255 < p → ¬ 255 < q → I (C + 14) 5 < 6 → a_at (d + 69) (a_xm a_m20) 48 [some (a_rf C), some (.int p), some (.int q)] [] (n + 1, t, K, L, I, R) P := fun a b c1 d1 e1 => by
    have hP := hP (gneg a b) (fun e => e.elim c1 (fun e => e.elim d1 (fun x => absurd e1 (Int32.not_lt.mpr x))))
    simp only [q20_48, q20_49, q20_52, q20_53, q20_54, k_0 hS, z_C hS, r_0_4 hS, k_14 hS, z_14, as_nil, as_i, as_r, Nat.reduceAdd, Nat.reduceLeDiff, z_eq0, z_eq1, z_or, z_em, Classical.not_not, not_false_eq_true, not_true_eq_false, true_and, and_true, false_and, and_false, and_self, true_implies, false_implies, implies_true, Option.toList_some, Option.toList_none, List.cons_append, List.nil_append, Nat.add_eq_zero_iff, a_nl_i, a_nl_r, a_nl_n, true_or, or_true, eq_self, a_isRA_22, a_isRA_24, a_isRA_32, a_isA_20, ok_4, ok_5, ok_6, ok_7, ok_9, ok_20, ok_21, ok_30, ok_50, ok_180, ok_192, ok_200]
    refine ck_addBench9 hH (Int32.not_le.mpr e1) (fun t' K' L' J R' g1 g2 => ?_)
    simp only [q20_57, as_nil, as_i, as_r, Nat.reduceAdd, Nat.reduceLeDiff, z_eq0, z_eq1, z_or, z_em, Classical.not_not, not_false_eq_true, not_true_eq_false, true_and, and_true, false_and, and_false, and_self, true_implies, false_implies, implies_true, Option.toList_some, Option.toList_none, List.cons_append, List.nil_append, Nat.add_eq_zero_iff, a_nl_i, a_nl_r, a_nl_n, true_or, or_true, eq_self, a_isRA_22, a_isRA_24, a_isRA_32, a_isA_20, ok_4, ok_5, ok_6, ok_7, ok_9, ok_20, ok_21, ok_30, ok_50, ok_180, ok_192, ok_200]
    exact hP t' K' L' J R' g1 g2
  rw [a_enter1 (M := a_m20) rfl (a_cat_rf (a_cat_int (a_cat_int a_cat_nil))) (show 3 ≤ 3 by decide)]
  show a_at _ (a_xm a_m20) 0 [some (a_rf C), some (.int p), some (.int q)] [] _ _
  repeat' first
    | with_reducible apply And.intro
    | with_reducible assumption
    | with_reducible intro _
    | refine ck_refuse9 hZ (fun _ _ => ?_)
    | exact h1 (Or.inl (by assumption)) _ (by assumption)
    | exact h1 (Or.inr (Int32.not_le.mp (by assumption))) _ (by assumption)
    | exact h2 (gneg (by assumption) (by assumption)) (Or.inl (by assumption)) _ (by assumption)
    | exact h2 (gneg (by assumption) (by assumption)) (Or.inr (Or.inl (by assumption))) _ (by assumption)
    | exact h2 (gneg (by assumption) (by assumption)) (Or.inr (Or.inr (Int32.not_lt.mp (by assumption)))) _ (by assumption)
    | exact hgo (by assumption) (by assumption) (by assumption) (by assumption) (by assumption)
    | simp only [q20_0, q20_1, q20_4, q20_5, q20_8, q20_9, q20_11, q20_14, q20_15, q20_16, q20_19, q20_22, q20_23, q20_26, q20_29, q20_30, q20_33, q20_36, q20_38, q20_41, q20_42, q20_44, q20_47, k_0 hS, z_C hS, r_0_4 hS, k_14 hS, z_14, as_nil, as_i, as_r, Nat.reduceAdd, Nat.reduceLeDiff, z_eq0, z_eq1, z_or, z_em, Classical.not_not, not_false_eq_true, not_true_eq_false, true_and, and_true, false_and, and_false, and_self, true_implies, false_implies, implies_true, Option.toList_some, Option.toList_none, List.cons_append, List.nil_append, Nat.add_eq_zero_iff, a_nl_i, a_nl_r, a_nl_n, true_or, or_true, eq_self, a_isRA_22, a_isRA_24, a_isRA_32, a_isA_20, ok_4, ok_5, ok_6, ok_7, ok_9, ok_20, ok_21, ok_30, ok_50, ok_180, ok_192, ok_200]
  all_goals ((try clear hgo); (try clear hr); (try clear hs); (try clear hc); (try clear h0); (try clear h1); (try clear h2); (try clear h3); (try clear h4); (try clear h5); (try clear hP); (try clear hZ); (try clear hH); (try clear hT); (try clear hS); grind [ui_ap])
theorem ke_set9 (hH : cH C c (n + 1) t K L I R) {w v : Int32} (h0 : ¬ (0 ≤ w ∧ w ≤ 2) → ∀ J, cZ9 C c (n + 1) K L I R (n + 1) t K L J R → P (some (.int (-2))) (n + 1, t, K, L, J, R)) (h1 : (0 ≤ w ∧ w ≤ 2) → v < 0 → ∀ J, cZ9 C c (n + 1) K L I R (n + 1) t K L J R → P (some (.int (-4))) (n + 1, t, K, L, J, R)) (h2 : (0 ≤ w ∧ w ≤ 2) → ¬ v < 0 → ((w = 0 ∧ 3 < v) ∨ (w = 1 ∧ 100 < v) ∨ (w = 2 ∧ 1 < v)) → ∀ J, cZ9 C c (n + 1) K L I R (n + 1) t K L J R → P (some (.int (-6))) (n + 1, t, K, L, J, R)) (h3 : w = 0 → ¬ v < 0 → ¬ 3 < v → cT C K L (a_ui I (C + 14) 6 v) R → P (some (.int (I (C + 14) 6))) (n + 1, t, K, L, (a_ui I (C + 14) 6 v), R)) (h4 : w = 1 → ¬ v < 0 → ¬ 100 < v → cT C K L (a_ui I (C + 22) 8 v) R → P (some (.int (I (C + 22) 8))) (n + 1, t, K, L, (a_ui I (C + 22) 8 v), R)) (h5 : w = 2 → ¬ v < 0 → ¬ 1 < v → ∀ J, dG9 C K L R (a_ui I (C + 17) 5 v) J → P (some (.int (I (C + 17) 5))) (n + 1, t, K, L, J, R)) : a_does (d + 70) 23 [a_rf C, .int w, .int v] (n + 1, t, K, L, I, R) P := by
  have hT := hH.1
  have hS := hT.s
  have hZ := cZ_refl9 hH
  have hr : w = 0 → 0 ≤ v → v ≤ 3 → ∀ u, a_at (d + 69) (a_xm a_m23) 63 [some (a_rf C), some (.int w), some (.int v), u] [] (n + 1, t, K, L, I, R) P := fun hw a b u => by
    have hP := h3 hw (Int32.not_lt.mpr a) (Int32.not_lt.mpr b) (sT_Hall_rest hT ⟨a, b⟩)
    simp only [q23_63, q23_64, q23_67, q23_68, k_0 hS, z_C hS, r_0_4 hS, k_14 hS, z_14, as_nil, as_i, as_r, Nat.reduceAdd, Nat.reduceLeDiff, z_eq0, z_eq1, z_or, z_em, Classical.not_not, not_false_eq_true, not_true_eq_false, true_and, and_true, false_and, and_false, and_self, true_implies, false_implies, implies_true, Option.toList_some, Option.toList_none, List.cons_append, List.nil_append, Nat.add_eq_zero_iff, a_nl_i, a_nl_r, a_nl_n, true_or, or_true, eq_self, a_isRA_22, a_isRA_24, a_isRA_32, a_isA_20, ok_4, ok_5, ok_6, ok_7, ok_9, ok_20, ok_21, ok_30, ok_50, ok_180, ok_192, ok_200]
    rw [a_enter1 (M := a_m24) rfl (a_cat_rf (a_cat_int a_cat_nil)) (show 2 ≤ 3 by decide)]
    show a_at _ (a_xm a_m24) 0 [some (a_rf (C + 14)), some (.int v), none] [] _ _
    simp only [q24_0, q24_1, q24_4, q24_5, q24_6, q24_7, q24_10, q24_11, k_14 hS, z_14, as_nil, as_i, as_r, Nat.reduceAdd, Nat.reduceLeDiff, z_eq0, z_eq1, z_or, z_em, Classical.not_not, not_false_eq_true, not_true_eq_false, true_and, and_true, false_and, and_false, and_self, true_implies, false_implies, implies_true, Option.toList_some, Option.toList_none, List.cons_append, List.nil_append, Nat.add_eq_zero_iff, a_nl_i, a_nl_r, a_nl_n, true_or, or_true, eq_self, a_isRA_22, a_isRA_24, a_isRA_32, a_isA_20, ok_4, ok_5, ok_6, ok_7, ok_9, ok_20, ok_21, ok_30, ok_50, ok_180, ok_192, ok_200, ui_ap, cc_ne, cc_n0, cc_0n, Nat.reduceEqDiff, reduceIte, if_true, if_false, q23_71]
    exact hP
  have hs : w = 1 → 0 ≤ v → v ≤ 100 → ∀ u, a_at (d + 69) (a_xm a_m23) 77 [some (a_rf C), some (.int w), some (.int v), u] [] (n + 1, t, K, L, I, R) P := fun hw a b u => by
    have hP := h4 hw (Int32.not_lt.mpr a) (Int32.not_lt.mpr b) (sT_Planner_share hT)
    simp only [q23_77, q23_78, q23_81, q23_82, k_0 hS, z_C hS, r_0_5 hS, k_22 hS, z_22, as_nil, as_i, as_r, Nat.reduceAdd, Nat.reduceLeDiff, z_eq0, z_eq1, z_or, z_em, Classical.not_not, not_false_eq_true, not_true_eq_false, true_and, and_true, false_and, and_false, and_self, true_implies, false_implies, implies_true, Option.toList_some, Option.toList_none, List.cons_append, List.nil_append, Nat.add_eq_zero_iff, a_nl_i, a_nl_r, a_nl_n, true_or, or_true, eq_self, a_isRA_22, a_isRA_24, a_isRA_32, a_isA_20, ok_4, ok_5, ok_6, ok_7, ok_9, ok_20, ok_21, ok_30, ok_50, ok_180, ok_192, ok_200]
    rw [a_enter1 (M := a_m25) rfl (a_cat_rf (a_cat_int a_cat_nil)) (show 2 ≤ 3 by decide)]
    show a_at _ (a_xm a_m25) 0 [some (a_rf (C + 22)), some (.int v), none] [] _ _
    simp only [q25_0, q25_1, q25_4, q25_5, q25_6, q25_7, q25_10, q25_11, k_22 hS, z_22, as_nil, as_i, as_r, Nat.reduceAdd, Nat.reduceLeDiff, z_eq0, z_eq1, z_or, z_em, Classical.not_not, not_false_eq_true, not_true_eq_false, true_and, and_true, false_and, and_false, and_self, true_implies, false_implies, implies_true, Option.toList_some, Option.toList_none, List.cons_append, List.nil_append, Nat.add_eq_zero_iff, a_nl_i, a_nl_r, a_nl_n, true_or, or_true, eq_self, a_isRA_22, a_isRA_24, a_isRA_32, a_isA_20, ok_4, ok_5, ok_6, ok_7, ok_9, ok_20, ok_21, ok_30, ok_50, ok_180, ok_192, ok_200, ui_ap, cc_ne, cc_n0, cc_0n, Nat.reduceEqDiff, reduceIte, if_true, if_false, q23_85, q23_88, q23_89, q23_92, q23_93, q23_96, k_0 hS, z_C hS, r_0_3 hS, k_17 hS, z_17]
    exact hP
  have hc : 0 ≤ w → w ≤ 2 → ¬ w = 0 → ¬ w = 1 → 0 ≤ v → v ≤ 1 → ∀ u, a_at (d + 69) (a_xm a_m23) 88 [some (a_rf C), some (.int w), some (.int v), u] [] (n + 1, t, K, L, I, R) P := fun w0 w2 n0 n1 a b u => by
    have hP := h5 (by clear h0 h1 h2 h3 h4 h5 hr hs hZ hH hT hS; grind) (Int32.not_lt.mpr a) (Int32.not_lt.mpr b)
    simp only [q23_88, q23_89, q23_92, q23_93, k_0 hS, z_C hS, r_0_3 hS, k_17 hS, z_17, as_nil, as_i, as_r, Nat.reduceAdd, Nat.reduceLeDiff, z_eq0, z_eq1, z_or, z_em, Classical.not_not, not_false_eq_true, not_true_eq_false, true_and, and_true, false_and, and_false, and_self, true_implies, false_implies, implies_true, Option.toList_some, Option.toList_none, List.cons_append, List.nil_append, Nat.add_eq_zero_iff, a_nl_i, a_nl_r, a_nl_n, true_or, or_true, eq_self, a_isRA_22, a_isRA_24, a_isRA_32, a_isA_20, ok_4, ok_5, ok_6, ok_7, ok_9, ok_20, ok_21, ok_30, ok_50, ok_180, ok_192, ok_200]
    refine ck_changeScaled9 hT (fun J g => ?_)
    simp only [q23_96, as_nil, as_i, as_r, Nat.reduceAdd, Nat.reduceLeDiff, z_eq0, z_eq1, z_or, z_em, Classical.not_not, not_false_eq_true, not_true_eq_false, true_and, and_true, false_and, and_false, and_self, true_implies, false_implies, implies_true, Option.toList_some, Option.toList_none, List.cons_append, List.nil_append, Nat.add_eq_zero_iff, a_nl_i, a_nl_r, a_nl_n, true_or, or_true, eq_self, a_isRA_22, a_isRA_24, a_isRA_32, a_isA_20, ok_4, ok_5, ok_6, ok_7, ok_9, ok_20, ok_21, ok_30, ok_50, ok_180, ok_192, ok_200]
    exact hP J g
  have q0 : ∀ {m : Int32}, ¬ v ≤ m → m < v := fun h => Int32.not_le.mp h
  have hr0 : w < 0 → ∀ J, cZ9 C c (n + 1) K L I R (n + 1) t K L J R → P (some (.int (-2))) (n + 1, t, K, L, J, R) := fun a J z => h0 (fun e => absurd a (Int32.not_lt.mpr e.1)) J z
  have hr0b : ¬ w ≤ 2 → ∀ J, cZ9 C c (n + 1) K L I R (n + 1) t K L J R → P (some (.int (-2))) (n + 1, t, K, L, J, R) := fun a J z => h0 (fun e => a e.2) J z
  have hr1 : ¬ w < 0 → w ≤ 2 → ¬ 0 ≤ v → ∀ J, cZ9 C c (n + 1) K L I R (n + 1) t K L J R → P (some (.int (-4))) (n + 1, t, K, L, J, R) := fun a b c1 J z => h1 ⟨Int32.not_lt.mp a, b⟩ (Int32.not_le.mp c1) J z
  have hr2 : ¬ w < 0 → w ≤ 2 → 0 ≤ v → ∀ m : Int32, ¬ v ≤ m → ((w = 0 ∧ m = 3) ∨ (w = 1 ∧ m = 100) ∨ (¬ w = 0 ∧ ¬ w = 1 ∧ m = 1)) → ∀ J, cZ9 C c (n + 1) K L I R (n + 1) t K L J R → P (some (.int (-6))) (n + 1, t, K, L, J, R) := fun a b c1 m e1 e2 J z => h2 ⟨Int32.not_lt.mp a, b⟩ (Int32.not_lt.mpr c1) (by clear h0 h1 h2 h3 h4 h5 hr hs hc hr0 hr0b hr1 hZ hH hT hS; grind) J z
  rw [a_enter1 (M := a_m23) rfl (a_cat_rf (a_cat_int (a_cat_int a_cat_nil))) (show 3 ≤ 4 by decide)]
  show a_at _ (a_xm a_m23) 0 [some (a_rf C), some (.int w), some (.int v), none] [] _ _
  repeat' first
    | with_reducible apply And.intro
    | with_reducible assumption
    | with_reducible intro _
    | contradiction
    | refine ck_refuse9 hZ (fun _ _ => ?_)
    | exact hr0 (by assumption) _ (by assumption)
    | exact hr0b (by assumption) _ (by assumption)
    | exact hr1 (by assumption) (by assumption) (by assumption) _ (by assumption)
    | exact hr2 (by assumption) (by assumption) (by assumption) 3 (by assumption) (Or.inl ⟨by assumption, rfl⟩) _ (by assumption)
    | exact hr2 (by assumption) (by assumption) (by assumption) 100 (by assumption) (Or.inr (Or.inl ⟨by assumption, rfl⟩)) _ (by assumption)
    | exact hr2 (by assumption) (by assumption) (by assumption) 1 (by assumption) (Or.inr (Or.inr ⟨by assumption, by assumption, rfl⟩)) _ (by assumption)
    | exact hr (by assumption) (by assumption) (by assumption) _
    | exact hs (by assumption) (by assumption) (by assumption) _
    | exact hc (Int32.not_lt.mp (by assumption)) (by assumption) (by assumption) (by assumption) (by assumption) (by assumption) _
    | simp only [q23_0, q23_1, q23_4, q23_5, q23_6, q23_9, q23_10, q23_12, q23_15, q23_16, q23_17, q23_20, q23_21, q23_23, q23_26, q23_27, q23_28, q23_31, q23_32, q23_35, q23_36, q23_37, q23_40, q23_42, q23_45, q23_46, q23_47, q23_48, q23_49, q23_52, q23_53, q23_55, q23_58, q23_59, q23_60, q23_72, q23_73, q23_74, k_0 hS, z_C hS, as_nil, as_i, as_r, Nat.reduceAdd, Nat.reduceLeDiff, z_eq0, z_eq1, z_or, z_em, Classical.not_not, not_false_eq_true, not_true_eq_false, true_and, and_true, false_and, and_false, and_self, true_implies, false_implies, implies_true, Option.toList_some, Option.toList_none, List.cons_append, List.nil_append, Nat.add_eq_zero_iff, a_nl_i, a_nl_r, a_nl_n, true_or, or_true, eq_self, a_isRA_22, a_isRA_24, a_isRA_32, a_isA_20, ok_4, ok_5, ok_6, ok_7, ok_9, ok_20, ok_21, ok_30, ok_50, ok_180, ok_192, ok_200]
  all_goals ((try clear hr); (try clear hs); (try clear hc); (try clear hr0); (try clear hr0b); (try clear hr1); (try clear hr2); (try clear hgo); (try clear hr); (try clear hs); (try clear hc); (try clear h0); (try clear h1); (try clear h2); (try clear h3); (try clear h4); (try clear h5); (try clear hP); (try clear hZ); (try clear hH); (try clear hT); (try clear hS); grind [ui_ap])
end KQ

/-! bits -/
/-! the class: put, check, kin, just so -/
section KU
variable {d n t C c n0 n' n'' t' : Nat} {K L K0 L0 K' L' K'' L'' : Nat → Nat} {I I0 J J0 J1 J2 : Nat → Nat → Int32} {R R0 R' R'' : Nat → Nat → Nat} {P : Option Value → AH → Prop}
theorem ke_put9 (hH : cH C c (n + 1) t K L I R) {v : Int32} (h1 : 21 ≤ I C 10 → ∀ J, cZ9 C c (n + 1) K L I R (n + 1) t K L J R → P (some (.int (-6))) (n + 1, t, K, L, J, R)) (hP : I C 10 < 21 → cT C K L (a_ui (a_ui I (C + 43) (I C 10).toNatClampNeg v) C 10 (I C 10 + 1)) R → P (some (.int (I C 10 + 1))) (n + 1, t, K, L, (a_ui (a_ui I (C + 43) (I C 10).toNatClampNeg v) C 10 (I C 10 + 1)), R)) : a_does (d + 70) 163 [a_rf C, .int v] (n + 1, t, K, L, I, R) P := by
  have hT := hH.1
  have hS := hT.s
  have hZ := cZ_refl9 hH
  have g := hT.g_row
  have hf : I C 10 < 21 → P (some (.int (I C 10 + 1))) (n + 1, t, K, L, (a_ui (a_ui I (C + 43) (I C 10).toNatClampNeg v) C 10 (I C 10 + 1)), R) := fun h => hP h (sT_BeamHall_rowSize (sT_BeamHall_row hT) (by clear hP h1 hZ hH hT hS; grind))
  have hx := fun (e : 21 ≤ I C 10) => h1 e
  rw [a_enter1 (M := a_m163) rfl (a_cat_rf (a_cat_int a_cat_nil)) (show 2 ≤ 2 by decide)]
  show a_at _ (a_xm a_m163) 0 [some (a_rf C), some (.int v)] [] _ _
  repeat' first
    | with_reducible apply And.intro
    | with_reducible assumption
    | with_reducible intro _
    | refine ck_refuse9 hZ (fun _ _ => ?_)
    | exact h1 (Int32.not_lt.mp (by assumption)) _ (by assumption)
    | exact h1 (by assumption) _ (by assumption)
    | with_reducible apply hf
    | simp only [q163_0, q163_1, q163_4, q163_6, q163_9, q163_10, q163_12, q163_15, q163_16, q163_17, q163_20, q163_21, q163_24, q163_25, q163_26, q163_27, q163_28, q163_31, q163_32, q163_33, q163_36, q163_37, q163_40, k_0 hS, z_C hS, r_0_9 hS, k_43 hS, l_43 hS, z_43, as_nil, as_i, as_r, Nat.reduceAdd, Nat.reduceLeDiff, z_eq0, z_eq1, z_or, z_em, Classical.not_not, not_false_eq_true, not_true_eq_false, true_and, and_true, false_and, and_false, and_self, true_implies, false_implies, implies_true, Option.toList_some, Option.toList_none, List.cons_append, List.nil_append, Nat.add_eq_zero_iff, a_nl_i, a_nl_r, a_nl_n, true_or, or_true, eq_self, a_isRA_22, a_isRA_24, a_isRA_32, a_isA_20, ok_4, ok_5, ok_6, ok_7, ok_9, ok_20, ok_21, ok_30, ok_50, ok_180, ok_192, ok_200, ui_ap, cc_ne, cc_n0, cc_0n, Nat.reduceEqDiff, reduceIte, if_true, if_false]
  all_goals ((try clear hf); (try clear hx); (try clear h1); (try clear h2); (try clear h3); (try clear h4); (try clear hP); (try clear hZ); (try clear hH); (try clear hT); (try clear hS); grind [ui_ap])
theorem ke_check9 (hH : cH C c (n + 1) t K L I R) {b a k : Int32} (h1 : ¬ ((0 ≤ b ∧ b < I (C + 14) 5) ∧ (0 ≤ a ∧ a < 200) ∧ a + I C 10 ≤ 200) → ∀ J, cZ9 C c (n + 1) K L I R (n + 1) t K L J R → P (some (.int (-1))) (n + 1, t, K, L, J, R)) (h2 : ((0 ≤ b ∧ b < I (C + 14) 5) ∧ (0 ≤ a ∧ a < 200) ∧ a + I C 10 ≤ 200) → k < 0 → ∀ J, cZ9 C c (n + 1) K L I R (n + 1) t K L J R → P (some (.int (-4))) (n + 1, t, K, L, J, R)) (h3 : ((0 ≤ b ∧ b < I (C + 14) 5) ∧ (0 ≤ a ∧ a < 200) ∧ a + I C 10 ≤ 200) → ¬ k < 0 → I (C + 1) 6 < k → ∀ J, cZ9 C c (n + 1) K L I R (n + 1) t K L J R → P (some (.int (-6))) (n + 1, t, K, L, J, R)) (hP : ((0 ≤ b ∧ b < I (C + 14) 5) ∧ (0 ≤ a ∧ a < 200) ∧ a + I C 10 ≤ 200) → ¬ k < 0 → ¬ I (C + 1) 6 < k → cT C K L (a_ui I C 10 0) R → ∀ v, P (some (.int v)) (n + 1, t, K, L, (a_ui I C 10 0), R)) : a_does (d + 70) 164 [a_rf C, .int b, .int a, .int k] (n + 1, t, K, L, I, R) P := by
  have hT := hH.1
  have hS := hT.s
  have hZ := cZ_refl9 hH
  have gA := hT.g_asksR
  have gB := hT.g_benchesR
  have gX := hT.g_textsR
  have gb := gB b.toNatClampNeg
  have gbn := hT.g_benches
  have gY := hT.g_benY
  have gy : 0 ≤ b → b < I (C + 14) 5 → ¬ R (C + 16) b.toNatClampNeg = 0 := fun e1 e2 => gY _ (cl_lt e1 e2)
  have hf : ((0 ≤ b ∧ b < I (C + 14) 5) ∧ (0 ≤ a ∧ a < 200) ∧ a + I C 10 ≤ 200) → ¬ k < 0 → ¬ I (C + 1) 6 < k → ∀ v, P (some (.int v)) (n + 1, t, K, L, (a_ui I C 10 0), R) := fun e1 e2 e3 v => hP e1 e2 e3 (sT_BeamHall_rowSize hT (by decide)) v
  have hgo : ((0 ≤ b ∧ b < I (C + 14) 5) ∧ (0 ≤ a ∧ a < 200) ∧ a + I C 10 ≤ 200) → ¬ k < 0 → ¬ I (C + 1) 6 < k → ¬ R (C + 16) b.toNatClampNeg = 0 → ∀ u, a_at (d + 69) (a_xm a_m164) 69 [some (a_rf C), some (.int b), some (.int a), some (.int k), some (a_rf (R (C + 16) b.toNatClampNeg)), u] [] (n + 1, t, K, L, I, R) P := fun e1 e2 e3 h0 u => by
    simp only [q164_69, q164_70, q164_72, q164_73, q164_74, k_0 hS, z_C hS, as_nil, as_i, as_r, Nat.reduceAdd, Nat.reduceLeDiff, z_eq0, z_eq1, z_or, z_em, Classical.not_not, not_false_eq_true, not_true_eq_false, true_and, and_true, false_and, and_false, and_self, true_implies, false_implies, implies_true, Option.toList_some, Option.toList_none, List.cons_append, List.nil_append, Nat.add_eq_zero_iff, a_nl_i, a_nl_r, a_nl_n, true_or, or_true, eq_self, a_isRA_22, a_isRA_24, a_isRA_32, a_isA_20, ok_4, ok_5, ok_6, ok_7, ok_9, ok_20, ok_21, ok_30, ok_50, ok_180, ok_192, ok_200]
    refine ck_firstWrong hT (gb.resolve_left h0) e1.2.1.1 e1.2.2 e1.2.1.2 (fun v => ?_)
    simp only [q164_77, q164_79, q164_80, q164_81, q164_84, q164_86, k_0 hS, z_C hS, as_nil, as_i, as_r, Nat.reduceAdd, Nat.reduceLeDiff, z_eq0, z_eq1, z_or, z_em, Classical.not_not, not_false_eq_true, not_true_eq_false, true_and, and_true, false_and, and_false, and_self, true_implies, false_implies, implies_true, Option.toList_some, Option.toList_none, List.cons_append, List.nil_append, Nat.add_eq_zero_iff, a_nl_i, a_nl_r, a_nl_n, true_or, or_true, eq_self, a_isRA_22, a_isRA_24, a_isRA_32, a_isA_20, ok_4, ok_5, ok_6, ok_7, ok_9, ok_20, ok_21, ok_30, ok_50, ok_180, ok_192, ok_200]
    exact hf e1 e2 e3 v
  rw [a_enter1 (M := a_m164) rfl (a_cat_rf (a_cat_int (a_cat_int (a_cat_int a_cat_nil)))) (show 4 ≤ 6 by decide)]
  show a_at _ (a_xm a_m164) 0 [some (a_rf C), some (.int b), some (.int a), some (.int k), none, none] [] _ _
  repeat' first
    | with_reducible apply And.intro
    | with_reducible assumption
    | with_reducible intro _
    | refine ck_refuse9 hZ (fun _ _ => ?_)
    | refine h1 ?_ _ (by assumption)
    | refine h2 ?_ ?_ _ (by assumption)
    | refine h3 ?_ ?_ ?_ _ (by assumption)
    | refine hgo ?_ ?_ ?_ ?_ _
    | simp only [q164_0, q164_1, q164_4, q164_5, q164_8, q164_10, q164_12, q164_15, q164_16, q164_19, q164_22, q164_23, q164_24, q164_27, q164_28, q164_31, q164_34, q164_35, q164_36, q164_39, q164_40, q164_41, q164_44, q164_45, q164_47, q164_50, q164_51, q164_52, q164_53, q164_56, q164_59, q164_62, q164_63, q164_65, q164_68, k_0 hS, z_C hS, r_0_4 hS, k_14 hS, z_14, r_0_0 hS, k_1 hS, z_1, sp_benchAt hS gB, sp_isShiftC, as_nil, as_i, as_r, Nat.reduceAdd, Nat.reduceLeDiff, z_eq0, z_eq1, z_or, z_em, Classical.not_not, not_false_eq_true, not_true_eq_false, true_and, and_true, false_and, and_false, and_self, true_implies, false_implies, implies_true, Option.toList_some, Option.toList_none, List.cons_append, List.nil_append, Nat.add_eq_zero_iff, a_nl_i, a_nl_r, a_nl_n, true_or, or_true, eq_self, a_isRA_22, a_isRA_24, a_isRA_32, a_isA_20, ok_4, ok_5, ok_6, ok_7, ok_9, ok_20, ok_21, ok_30, ok_50, ok_180, ok_192, ok_200]
  all_goals ((try clear hgo); (try clear hf); (try clear gY); (try clear gA); (try clear gB); (try clear gX); (try clear gb); (try clear h1); (try clear h2); (try clear h3); (try clear h4); (try clear hP); (try clear hZ); (try clear hH); (try clear hT); (try clear hS); grind [ui_ap])
theorem ke_kin9 (hH : cH C c (n + 1) t K L I R) {r g : Int32} (h1 : ¬ ((0 ≤ r ∧ r ≤ 5) ∧ (0 ≤ g ∧ g ≤ 9)) → ∀ J, cZ9 C c (n + 1) K L I R (n + 1) t K L J R → P (some (.int (-1))) (n + 1, t, K, L, J, R)) (hP : (0 ≤ r ∧ r ≤ 5) → (0 ≤ g ∧ g ≤ 9) → cT C K L (a_ui I (C + 18) r.toNatClampNeg ((I (C + 18) r.toNatClampNeg) ||| (1 <<< (g &&& 31)))) R → P (some (.int (if ((I (C + 18) r.toNatClampNeg) >>> (g &&& 31)) &&& 1 = 0 then 1 else 0))) (n + 1, t, K, L, (a_ui I (C + 18) r.toNatClampNeg ((I (C + 18) r.toNatClampNeg) ||| (1 <<< (g &&& 31)))), R)) : a_does (d + 70) 89 [a_rf C, .int r, .int g] (n + 1, t, K, L, I, R) P := by
  have hT := hH.1
  have hS := hT.s
  have hZ := cZ_refl9 hH
  have hgo : (0 ≤ r ∧ r < 6) → ¬ g < 0 → g < 10 → a_at (d + 69) (a_xm a_m89) 23 [some (a_rf C), some (.int r), some (.int g)] [] (n + 1, t, K, L, I, R) P := fun h2 h3 h4 => by
    have hf := hP ⟨h2.1, by clear hP h1 hZ hH hT hS; grind⟩ ⟨Int32.not_lt.mp h3, by clear hP h1 hZ hH hT hS; grind⟩ (sT_Panel_kin hT)
    simp only [q89_23, q89_24, q89_27, q89_28, q89_29, k_0 hS, z_C hS, r_0_3 hS, k_17 hS, z_17, as_nil, as_i, as_r, Nat.reduceAdd, Nat.reduceLeDiff, z_eq0, z_eq1, z_or, z_em, Classical.not_not, not_false_eq_true, not_true_eq_false, true_and, and_true, false_and, and_false, and_self, true_implies, false_implies, implies_true, Option.toList_some, Option.toList_none, List.cons_append, List.nil_append, Nat.add_eq_zero_iff, a_nl_i, a_nl_r, a_nl_n, true_or, or_true, eq_self, a_isRA_22, a_isRA_24, a_isRA_32, a_isA_20, ok_4, ok_5, ok_6, ok_7, ok_9, ok_20, ok_21, ok_30, ok_50, ok_180, ok_192, ok_200]
    refine ck_tellKin hS h2 ?_
    simp only [q89_32, q89_35, q89_36, q89_39, q89_40, as_nil, as_i, as_r, Nat.reduceAdd, Nat.reduceLeDiff, z_eq0, z_eq1, z_or, z_em, Classical.not_not, not_false_eq_true, not_true_eq_false, true_and, and_true, false_and, and_false, and_self, true_implies, false_implies, implies_true, Option.toList_some, Option.toList_none, List.cons_append, List.nil_append, Nat.add_eq_zero_iff, a_nl_i, a_nl_r, a_nl_n, true_or, or_true, eq_self, a_isRA_22, a_isRA_24, a_isRA_32, a_isA_20, ok_4, ok_5, ok_6, ok_7, ok_9, ok_20, ok_21, ok_30, ok_50, ok_180, ok_192, ok_200]
    by_cases e : ((I (C + 18) r.toNatClampNeg) >>> (g &&& 31)) &&& 1 = 0
    · simp only [e, if_true, not_true_eq_false, false_implies, true_implies, and_true, true_and, implies_true, not_false_eq_true] at hf ⊢
      exact hf
    · simp only [e, if_false, not_true_eq_false, false_implies, true_implies, and_true, true_and, implies_true, not_false_eq_true] at hf ⊢
      exact hf
  have hr0 : r < 0 → ¬ ((0 ≤ r ∧ r ≤ 5) ∧ (0 ≤ g ∧ g ≤ 9)) := fun q e => absurd q (Int32.not_lt.mpr e.1.1)
  rw [a_enter1 (M := a_m89) rfl (a_cat_rf (a_cat_int (a_cat_int a_cat_nil))) (show 3 ≤ 3 by decide)]
  show a_at _ (a_xm a_m89) 0 [some (a_rf C), some (.int r), some (.int g)] [] _ _
  repeat' first
    | with_reducible apply And.intro
    | with_reducible assumption
    | with_reducible intro _
    | refine ck_refuse9 hZ (fun _ _ => ?_)
    | refine h1 ?_ _ (by assumption)
    | refine hgo ?_ ?_ ?_
    | simp only [q89_0, q89_1, q89_4, q89_7, q89_8, q89_11, q89_12, q89_14, q89_17, q89_18, q89_19, q89_22, k_0 hS, z_C hS, sp_isReaderC, as_nil, as_i, as_r, Nat.reduceAdd, Nat.reduceLeDiff, z_eq0, z_eq1, z_or, z_em, Classical.not_not, not_false_eq_true, not_true_eq_false, true_and, and_true, false_and, and_false, and_self, true_implies, false_implies, implies_true, Option.toList_some, Option.toList_none, List.cons_append, List.nil_append, Nat.add_eq_zero_iff, a_nl_i, a_nl_r, a_nl_n, true_or, or_true, eq_self, a_isRA_22, a_isRA_24, a_isRA_32, a_isA_20, ok_4, ok_5, ok_6, ok_7, ok_9, ok_20, ok_21, ok_30, ok_50, ok_180, ok_192, ok_200]
  all_goals ((try clear hgo); (try clear hr0); (try clear h1); (try clear h2); (try clear h3); (try clear h4); (try clear hP); (try clear hZ); (try clear hH); (try clear hT); (try clear hS); grind [ui_ap])
end KU
/-! the reference: shiftOf, just so -/

/-! the class: reading, just so -/
section KY
variable {d n t C : Nat} {K L : Nat → Nat} {I I0 J J0 J1 J2 : Nat → Nat → Int32} {R : Nat → Nat → Nat} {P : Option Value → AH → Prop}
theorem tq_dG9 (h : tq C K L R I J) (h0 : cT C K L I R) : dG9 C K L R I J := ⟨h.1, fun x j p => h.2 x j (by unfold eD9 eD at p; omega) (by unfold eD9 eD at p; omega)⟩
end KY
/-! the class: feed, just so -/
section KZ
variable {d n t C c n0 n' n'' t' : Nat} {K L K0 L0 K' L' K'' L'' : Nat → Nat} {I I0 J J0 J1 J2 : Nat → Nat → Int32} {R R0 R' R'' : Nat → Nat → Nat} {P : Option Value → AH → Prop}
theorem ke_feed9 (hH : cH C c (n + 1) t K L I R) {m : Int32} {w : Int64} (h1 : m < 1 → ∀ J, cZ9 C c (n + 1) K L I R (n + 1) t K L J R → P (some (.int (-4))) (n + 1, t, K, L, J, R)) (h2 : ¬ m < 1 → (8 < m ∨ 50 < (I (C + 11) 2) + m) → ∀ J, cZ9 C c (n + 1) K L I R (n + 1) t K L J R → P (some (.int (-6))) (n + 1, t, K, L, J, R)) (hP : ¬ m < 1 → ¬ (8 < m ∨ 50 < (I (C + 11) 2) + m) → ∀ J, cT C K L J R → (∀ x j, ¬ x = C + 12 → ¬ (x = C + 11 ∧ j = 2) → J x j = I x j) → J (C + 11) 2 = (I (C + 11) 2) + m → byP (J (C + 12)) (I (C + 12)) w (I (C + 11) 2) m → P (some (.int ((I (C + 11) 2) + m))) (n + 1, t, K, L, J, R)) : a_does (d + 70) 66 [a_rf C, .int m, .long w] (n + 1, t, K, L, I, R) P := by
  have hT := hH.1
  have hS := hT.s
  have hZ := cZ_refl9 hH
  have g := hT.g_size
  have h2' : ¬ m < 1 → (¬ m ≤ 8 ∨ ¬ m ≤ 50 - (I (C + 11) 2)) → ∀ J, cZ9 C c (n + 1) K L I R (n + 1) t K L J R → P (some (.int (-6))) (n + 1, t, K, L, J, R) := fun q1 q2 => h2 q1 (by clear hP h1 h2 hH hT hS hZ; grind)
  have hg : ¬ m < 1 → m ≤ 8 → m ≤ 50 - (I (C + 11) 2) → a_does (d + 69) 67 [a_rf (C + 11), .int m, .long w] (n + 1, t, K, L, I, R) (fun r h' => a_at (d + 69) (a_xm a_m66) 48 [some (a_rf C), some (.int m), some (.long w), none] (r.toList ++ []) h' P) := fun q1 q2 q3 => by
    have q4 : (I (C + 11) 2) + m ≤ 50 := by clear hP h1 h2 hH hT hS hZ; grind
    have hp := hP q1 (fun z => z.elim (fun z => absurd q2 (Int32.not_le.mpr z)) (fun z => absurd q4 (Int32.not_le.mpr z)))
    have hl := le_append_3 (d := d + 68) (w := w) (P := fun r h' => a_at (d + 69) (a_xm a_m66) 48 [some (a_rf C), some (.int m), some (.long w), none] (r.toList ++ []) h' P) g.1 ⟨Int32.not_lt.mp q1, q2⟩ q4 g.2 (fun J j1 j2 j3 j4 => by
      have hf := hp J j1 j2 j3 j4
      simp only [q66_48, as_nil, as_i, as_r, Nat.reduceAdd, Nat.reduceLeDiff, z_eq0, z_eq1, z_or, z_em, Classical.not_not, not_false_eq_true, not_true_eq_false, true_and, and_true, false_and, and_false, and_self, true_implies, false_implies, implies_true, Option.toList_some, Option.toList_none, List.cons_append, List.nil_append, Nat.add_eq_zero_iff, a_nl_i, a_nl_r, a_nl_n, true_or, or_true, eq_self, a_isRA_22, a_isRA_24, a_isRA_32, a_isA_20, ok_4, ok_5, ok_6, ok_7, ok_9, ok_20, ok_21, ok_30, ok_50, ok_180, ok_192, ok_200]
      exact hf) 0 (by decide) I (by decide) (by clear hP h1 h2 hH hT hS hZ; grind) hT (fun _ _ _ _ => rfl) (by rw [Int32.add_zero]) byP_0
    rw [a_enter (M := a_m67) rfl (by rw [a_len_ril]; decide)]
    show a_at _ (a_xm a_m67) 0 (a_init [a_rf (C + 11), .int m, .long w] 5) [] _ _
    rw [a_init_ril]
    simp only [q67_0, q67_1, as_nil, as_i, as_r, Nat.reduceAdd, Nat.reduceLeDiff, z_eq0, z_eq1, z_or, z_em, Classical.not_not, not_false_eq_true, not_true_eq_false, true_and, and_true, false_and, and_false, and_self, true_implies, false_implies, implies_true, Option.toList_some, Option.toList_none, List.cons_append, List.nil_append, Nat.add_eq_zero_iff, a_nl_i, a_nl_r, a_nl_n, true_or, or_true, eq_self, a_isRA_22, a_isRA_24, a_isRA_32, a_isA_20, ok_4, ok_5, ok_6, ok_7, ok_9, ok_20, ok_21, ok_30, ok_50, ok_180, ok_192, ok_200]
    exact hl
  clear hP h2
  rw [a_enter (M := a_m66) rfl (by rw [a_len_ril]; decide)]
  show a_at _ (a_xm a_m66) 0 (a_init [a_rf C, .int m, .long w] 4) [] _ _
  rw [a_init_ril4]
  repeat' first
    | with_reducible apply And.intro
    | with_reducible assumption
    | with_reducible intro _
    | refine ck_refuse9 hZ (fun _ _ => ?_)
    | refine h1 ?_ _ (by assumption)
    | refine h2' ?_ ?_ _ (by assumption)
    | refine hg ?_ ?_ ?_
    | simp only [q66_0, q66_1, q66_2, q66_5, q66_6, q66_8, q66_11, q66_12, q66_13, q66_15, q66_18, q66_19, q66_21, q66_22, q66_25, q66_28, q66_29, q66_32, q66_33, q66_35, q66_38, q66_39, q66_40, q66_43, q66_44, q66_45, q66_48, k_0 hS, z_C hS, r_0_2 hS, k_11 hS, z_11, as_nil, as_i, as_r, Nat.reduceAdd, Nat.reduceLeDiff, z_eq0, z_eq1, z_or, z_em, Classical.not_not, not_false_eq_true, not_true_eq_false, true_and, and_true, false_and, and_false, and_self, true_implies, false_implies, implies_true, Option.toList_some, Option.toList_none, List.cons_append, List.nil_append, Nat.add_eq_zero_iff, a_nl_i, a_nl_r, a_nl_n, true_or, or_true, eq_self, a_isRA_22, a_isRA_24, a_isRA_32, a_isA_20, ok_4, ok_5, ok_6, ok_7, ok_9, ok_20, ok_21, ok_30, ok_50, ok_180, ok_192, ok_200]
  all_goals ((try clear h1); (try clear h2'); (try clear hg); (try clear hP); (try clear hZ); (try clear hH); (try clear hT); (try clear hS); grind [ui_ap])

theorem ke_text9 (hH : cH C c (n + 1) t K L I R) {s : Int32} (h1 : ¬ (0 ≤ s ∧ s ≤ 199) → ∀ J, cZ9 C c (n + 1) K L I R (n + 1) t K L J R → P (some (.int (-1))) (n + 1, t, K, L, J, R)) (h2 : (0 ≤ s ∧ s ≤ 199) → 20 ≤ I (C + 7) 3 → ∀ J, cZ9 C c (n + 1) K L I R (n + 1) t K L J R → P (some (.int (-6))) (n + 1, t, K, L, J, R)) (h3 : (0 ≤ s ∧ s ≤ 199) → ¬ 20 ≤ I (C + 7) 3 → (xT (I (C + 12)) (I (C + 11) 2)).1 = false → ∀ J, tq C K L R I J → cT C K L (a_ui J (C + 11) 2 0) R → P (some (.int (-20 - (xT (I (C + 12)) (I (C + 11) 2)).2.1))) (n + 1, t, K, L, (a_ui J (C + 11) 2 0), R)) (h4 : (0 ≤ s ∧ s ≤ 199) → ¬ 20 ≤ I (C + 7) 3 → (xT (I (C + 12)) (I (C + 11) 2)).1 = true → ∀ n' t' K' L' J R', cZ9 C (c + 2) (n + 1) K L I R (n' + 1) t' K' L' J R' → J (C + 7) 3 = I (C + 7) 3 → n + 1 ≤ n' → K' n' = 11 → J n' 4 = 0 → cH C (c + 2) (n' + 1) t' K' L' (a_ui (a_ui J (C + 7) 3 (I (C + 7) 3 + 1)) (C + 11) 2 0) (a_ur R' (C + 8) (I (C + 7) 3).toNatClampNeg n') → P (some (.int (I (C + 7) 3 + 1 - 1))) (n' + 1, t', K', L', (a_ui (a_ui J (C + 7) 3 (I (C + 7) 3 + 1)) (C + 11) 2 0), a_ur R' (C + 8) (I (C + 7) 3).toNatClampNeg n')) : a_does (d + 70) 68 [a_rf C, .int s] (n + 1, t, K, L, I, R) P := by
  have hT := hH.1
  have hS := hT.s
  have hZ := cZ_refl9 hH
  have g7 := hT.g_texts
  have hC := hH.2.2.1
  have hr1 : ¬ (0 ≤ s ∧ s ≤ 199) → ∀ J, cZ9 C c (n + 1) K L I R (n + 1) t K L J R → P (some (.int (-1))) (n + 1, t, K, L, J, R) := h1
  have hgo : (0 ≤ s ∧ s ≤ 199) → ¬ 20 ≤ I (C + 7) 3 → a_at (d + 69) (a_xm a_m68) 32 [some (a_rf C), some (.int s), none, none] [] (n + 1, t, K, L, I, R) P := fun q1 q2 => by
    have h3 := h3 q1 q2
    have h4 := h4 q1 q2
    simp only [q68_32, q68_33, q68_36, k_0 hS, z_C hS, r_0_2 hS, k_11 hS, z_11, as_nil, as_i, as_r, Nat.reduceAdd, Nat.reduceLeDiff, z_eq0, z_eq1, z_or, z_em, Classical.not_not, not_false_eq_true, not_true_eq_false, true_and, and_true, false_and, and_false, and_self, true_implies, false_implies, implies_true, Option.toList_some, Option.toList_none, List.cons_append, List.nil_append, Nat.add_eq_zero_iff, a_nl_i, a_nl_r, a_nl_n, true_or, or_true, eq_self, a_isRA_22, a_isRA_24, a_isRA_32, a_isA_20, ok_4, ok_5, ok_6, ok_7, ok_9, ok_20, ok_21, ok_30, ok_50, ok_180, ok_192, ok_200]
    refine ce_read (d := d + 8) hT (fun J t1 t2 t3 => ?_)
    have hS := t1.1.s
    by_cases ok : (xT (I (C + 12)) (I (C + 11) 2)).1 = true
    · rw [if_pos ok]
      have n10 : ¬ (1 : Int32) = 0 := by decide
      have z := cZ_G9 hZ (tq_dG9 t1 hT)
      have e7 : J (C + 7) 3 = I (C + 7) 3 := t1.2 _ _ (by omega) (by omega)
      have h4 := h4 ok
      clear h1 h2 h3 hr1 t3
      simp only [q68_39, q68_40, q68_41, q68_44, q68_45, q68_48, q68_49, q68_52, k_0 hS, z_C hS, r_0_1 hS, k_7 hS, z_7, r_0_2 hS, k_11 hS, z_11, as_nil, as_i, as_r, Nat.reduceAdd, Nat.reduceLeDiff, z_eq0, z_eq1, z_or, z_em, Classical.not_not, not_false_eq_true, not_true_eq_false, true_and, and_true, false_and, and_false, and_self, true_implies, false_implies, implies_true, Option.toList_some, Option.toList_none, List.cons_append, List.nil_append, Nat.add_eq_zero_iff, a_nl_i, a_nl_r, a_nl_n, true_or, or_true, eq_self, a_isRA_22, a_isRA_24, a_isRA_32, a_isA_20, ok_4, ok_5, ok_6, ok_7, ok_9, ok_20, ok_21, ok_30, ok_50, ok_180, ok_192, ok_200, n10]
      try simp only [true_and, and_true, true_implies, false_implies, implies_true, not_true_eq_false, not_false_eq_true]
      refine ck_letter t1.1 (fun v2 => ?_)
      simp only [q68_55, q68_56, q68_57, q68_60, k_0 hS, z_C hS, r_0_2 hS, k_11 hS, z_11, as_nil, as_i, as_r, Nat.reduceAdd, Nat.reduceLeDiff, z_eq0, z_eq1, z_or, z_em, Classical.not_not, not_false_eq_true, not_true_eq_false, true_and, and_true, false_and, and_false, and_self, true_implies, false_implies, implies_true, Option.toList_some, Option.toList_none, List.cons_append, List.nil_append, Nat.add_eq_zero_iff, a_nl_i, a_nl_r, a_nl_n, true_or, or_true, eq_self, a_isRA_22, a_isRA_24, a_isRA_32, a_isA_20, ok_4, ok_5, ok_6, ok_7, ok_9, ok_20, ok_21, ok_30, ok_50, ok_180, ok_192, ok_200]
      refine ck_written9 z (fun t' K' L' J' R' z3 k1 l1 => ?_)
      have hS := z3.2.1.1.s
      have e7' : J' (C + 7) 3 = I (C + 7) 3 := z3.2.2.2.2.2.2 _ _ (by unfold eD9 eD; omega) (by omega)
      simp only [q68_63, k_0 hS, z_C hS, as_nil, as_i, as_r, Nat.reduceAdd, Nat.reduceLeDiff, z_eq0, z_eq1, z_or, z_em, Classical.not_not, not_false_eq_true, not_true_eq_false, true_and, and_true, false_and, and_false, and_self, true_implies, false_implies, implies_true, Option.toList_some, Option.toList_none, List.cons_append, List.nil_append, Nat.add_eq_zero_iff, a_nl_i, a_nl_r, a_nl_n, true_or, or_true, eq_self, a_isRA_22, a_isRA_24, a_isRA_32, a_isA_20, ok_4, ok_5, ok_6, ok_7, ok_9, ok_20, ok_21, ok_30, ok_50, ok_180, ok_192, ok_200]
      refine ⟨k_7 hS, ck_addText9 z3 k1 (by omega) l1 (by rw [e7']; exact q2) (fun t' K' L' J2 R' z4 e8 k11 e4 g8 => ?_)⟩
      have hS := z4.2.1.1.s
      rw [e7'] at e8 g8 ⊢
      have hT2 : cT C K' L' (a_ui (a_ui J2 (C + 7) 3 (I (C + 7) 3 + 1)) (C + 11) 2 0) (a_ur R' (C + 8) (I (C + 7) 3).toNatClampNeg (n + 1 + 1)) := sT_Tape_size (sT_Rules_count g8.1 (by clear h4 z z3 z4 g8 hH hT hZ hS t1; grind)) (by decide)
      have hS := hT2.s
      have hf := h4 _ _ _ _ _ _ (cZ_le9 z4 (by omega)) e8 (by omega) k11 e4 (cH_le (cH_J g8 hT2) (by omega))
      simp only [q68_66, q68_69, q68_71, q68_72, q68_75, q68_78, q68_79, q68_80, q68_81, q68_84, q68_85, q68_88, q68_89, k_0 hS, z_C hS, r_0_2 hS, k_11 hS, z_11, as_nil, as_i, as_r, Nat.reduceAdd, Nat.reduceLeDiff, z_eq0, z_eq1, z_or, z_em, Classical.not_not, not_false_eq_true, not_true_eq_false, true_and, and_true, false_and, and_false, and_self, true_implies, false_implies, implies_true, Option.toList_some, Option.toList_none, List.cons_append, List.nil_append, Nat.add_eq_zero_iff, a_nl_i, a_nl_r, a_nl_n, true_or, or_true, eq_self, a_isRA_22, a_isRA_24, a_isRA_32, a_isA_20, ok_4, ok_5, ok_6, ok_7, ok_9, ok_20, ok_21, ok_30, ok_50, ok_180, ok_192, ok_200, ui_ap, cc_ne, cc_n0, cc_0n, Nat.reduceEqDiff, reduceIte, if_true, if_false]
      exact hf
    · have ok2 : (xT (I (C + 12)) (I (C + 11) 2)).1 = false := by cases q : (xT (I (C + 12)) (I (C + 11) 2)).1; rfl; exact absurd q ok
      rw [if_neg ok]
      have hf := h3 ok2 J t1 (sT_Tape_size t1.1 (by decide))
      have hS := t1.1.s
      rw [← t2] at hf
      clear h1 h2 h3 h4 hr1 t3
      simp only [q68_39, q68_40, q68_41, q68_69, q68_71, q68_72, q68_75, q68_78, q68_79, q68_80, q68_81, q68_84, q68_85, q68_88, q68_89, k_0 hS, z_C hS, r_0_2 hS, k_11 hS, z_11, as_nil, as_i, as_r, Nat.reduceAdd, Nat.reduceLeDiff, z_eq0, z_eq1, z_or, z_em, Classical.not_not, not_false_eq_true, not_true_eq_false, true_and, and_true, false_and, and_false, and_self, true_implies, false_implies, implies_true, Option.toList_some, Option.toList_none, List.cons_append, List.nil_append, Nat.add_eq_zero_iff, a_nl_i, a_nl_r, a_nl_n, true_or, or_true, eq_self, a_isRA_22, a_isRA_24, a_isRA_32, a_isA_20, ok_4, ok_5, ok_6, ok_7, ok_9, ok_20, ok_21, ok_30, ok_50, ok_180, ok_192, ok_200, ui_ap, cc_ne, cc_n0, cc_0n, Nat.reduceEqDiff, reduceIte, if_true, if_false]
      try simp only [true_and, and_true, true_implies, false_implies, implies_true, not_true_eq_false, not_false_eq_true]
      exact hf
  clear h3 h4
  rw [a_enter1 (M := a_m68) rfl (a_cat_rf (a_cat_int a_cat_nil)) (show 2 ≤ 4 by decide)]
  show a_at _ (a_xm a_m68) 0 [some (a_rf C), some (.int s), none, none] [] _ _
  repeat' first
    | with_reducible apply And.intro
    | with_reducible assumption
    | with_reducible intro _
    | refine ck_refuse9 hZ (fun _ _ => ?_)
    | refine hr1 ?_ _ (by assumption)
    | refine h2 ?_ ?_ _ (by assumption)
    | refine hgo ?_ ?_
    | simp only [q68_0, q68_1, q68_4, q68_7, q68_8, q68_9, q68_12, q68_13, q68_14, q68_17, q68_20, q68_22, q68_25, q68_26, q68_28, q68_31, k_0 hS, z_C hS, r_0_1 hS, k_7 hS, z_7, sp_isShiftC, as_nil, as_i, as_r, Nat.reduceAdd, Nat.reduceLeDiff, z_eq0, z_eq1, z_or, z_em, Classical.not_not, not_false_eq_true, not_true_eq_false, true_and, and_true, false_and, and_false, and_self, true_implies, false_implies, implies_true, Option.toList_some, Option.toList_none, List.cons_append, List.nil_append, Nat.add_eq_zero_iff, a_nl_i, a_nl_r, a_nl_n, true_or, or_true, eq_self, a_isRA_22, a_isRA_24, a_isRA_32, a_isA_20, ok_4, ok_5, ok_6, ok_7, ok_9, ok_20, ok_21, ok_30, ok_50, ok_180, ok_192, ok_200]
  all_goals ((try clear h1); (try clear h2); (try clear hr1); (try clear hgo); (try clear hZ); (try clear hH); (try clear hT); (try clear hS); grind [ui_ap])
end KZ
/-! strike, just so -/
section KS
variable {d n t C c n0 n' n'' t' : Nat} {K L K0 L0 K' L' K'' L'' : Nat → Nat} {I I0 J J0 J1 J2 : Nat → Nat → Int32} {R R0 R' R'' : Nat → Nat → Nat} {P : Option Value → AH → Prop}
theorem ke_strike9 (hH : cH C c (n + 1) t K L I R) {x s : Int32} (hx : 0 ≤ x → x < I (C + 7) 3 → ¬ (R (C + 8) x.toNatClampNeg) = 0) (h1 : ¬ ((0 ≤ x ∧ x < I (C + 7) 3) ∧ (0 ≤ s ∧ s < 200)) → ∀ J, cZ9 C c (n + 1) K L I R (n + 1) t K L J R → P (some (.int (-1))) (n + 1, t, K, L, J, R)) (h2 : ((0 ≤ x ∧ x < I (C + 7) 3) ∧ (0 ≤ s ∧ s < 200)) → ¬ I (R (C + 8) x.toNatClampNeg) 4 = 0 → ∀ J, cZ9 C c (n + 1) K L I R (n + 1) t K L J R → P (some (.int (-3))) (n + 1, t, K, L, J, R)) (hP : ((0 ≤ x ∧ x < I (C + 7) 3) ∧ (0 ≤ s ∧ s < 200)) → I (R (C + 8) x.toNatClampNeg) 4 = 0 → cT C K L (a_ui (a_ui I (R (C + 8) x.toNatClampNeg) 4 1) (R (C + 8) x.toNatClampNeg) 3 s) R → P (some (.int 1)) (n + 1, t, K, L, (a_ui (a_ui I (R (C + 8) x.toNatClampNeg) 4 1) (R (C + 8) x.toNatClampNeg) 3 s), R)) : a_does (d + 70) 84 [a_rf C, .int x, .int s] (n + 1, t, K, L, I, R) P := by
  have hT := hH.1
  have hS := hT.s
  have hZ := cZ_refl9 hH
  have gA := hT.g_asksR
  have gB := hT.g_benchesR
  have gX := hT.g_textsR
  have g7 := hT.g_texts
  have gi := gX x.toNatClampNeg
  have gx := fun h => (hT.g_txt (R (C + 8) x.toNatClampNeg) (gi.resolve_left h)).1
  have hx2 : (R (C + 8) x.toNatClampNeg) = 0 → ¬ ((0 ≤ x ∧ x < I (C + 7) 3) ∧ (0 ≤ s ∧ s < 200)) := fun e q => hx q.1.1 q.1.2 e
  have hf : ((0 ≤ x ∧ x < I (C + 7) 3) ∧ (0 ≤ s ∧ s < 200)) → I (R (C + 8) x.toNatClampNeg) 4 = 0 → ¬ (R (C + 8) x.toNatClampNeg) = 0 → P (some (.int 1)) (n + 1, t, K, L, (a_ui (a_ui I (R (C + 8) x.toNatClampNeg) 4 1) (R (C + 8) x.toNatClampNeg) 3 s), R) := fun q1 q2 q3 => hP q1 q2 (sT_txt (sT_txt hT (gx q3) (gi.resolve_left q3)) (gx q3) (gi.resolve_left q3))
  rw [a_enter1 (M := a_m84) rfl (a_cat_rf (a_cat_int (a_cat_int a_cat_nil))) (show 3 ≤ 4 by decide)]
  show a_at _ (a_xm a_m84) 0 [some (a_rf C), some (.int x), some (.int s), none] [] _ _
  repeat' first
    | with_reducible apply And.intro
    | with_reducible assumption
    | with_reducible intro _
    | refine ck_refuse9 hZ (fun _ _ => ?_)
    | refine h1 ?_ _ (by assumption)
    | refine h2 ?_ ?_ _ (by assumption)
    | refine hf ?_ ?_ ?_
    | simp only [q84_0, q84_1, q84_4, q84_5, q84_8, q84_9, q84_10, q84_13, q84_14, q84_17, q84_20, q84_21, q84_22, q84_25, q84_26, q84_27, q84_30, q84_33, q84_34, q84_36, q84_39, q84_40, q84_41, q84_42, q84_45, q84_46, q84_47, q84_50, q84_51, k_0 hS, z_C hS, r_0_1 hS, k_7 hS, z_7, sp_textAt hS gX, sp_isShiftC, as_nil, as_i, as_r, Nat.reduceAdd, Nat.reduceLeDiff, z_eq0, z_eq1, z_or, z_em, Classical.not_not, not_false_eq_true, not_true_eq_false, true_and, and_true, false_and, and_false, and_self, true_implies, false_implies, implies_true, Option.toList_some, Option.toList_none, List.cons_append, List.nil_append, Nat.add_eq_zero_iff, a_nl_i, a_nl_r, a_nl_n, true_or, or_true, eq_self, a_isRA_22, a_isRA_24, a_isRA_32, a_isA_20, ok_4, ok_5, ok_6, ok_7, ok_9, ok_20, ok_21, ok_30, ok_50, ok_180, ok_192, ok_200, ui_ap, cc_ne, cc_n0, cc_0n, Nat.reduceEqDiff, reduceIte, if_true, if_false]
  all_goals ((try clear hf); (try clear gA); (try clear gB); (try clear gX); (try clear gx); (try clear h1); (try clear h2); (try clear h3); (try clear h4); (try clear hP); (try clear hZ); (try clear hH); (try clear hT); (try clear hS); grind [ui_ap])
end KS
/-! frames -/
def eDh (C : Nat) (K : Nat → Nat) (x j : Nat) : Prop := eD C K x j ∨ (C + 96 < x ∧ (K x = 20 ∨ K x = 3))
def dGh (C : Nat) (K L : Nat → Nat) (R : Nat → Nat → Nat) (I J : Nat → Nat → Int32) : Prop := cT C K L J R ∧ ∀ x j, eDh C K x j → J x j = I x j
section K3
variable {C : Nat} {K L : Nat → Nat} {I I0 J J0 : Nat → Nat → Int32} {R : Nat → Nat → Nat}
theorem dG_reflh (h : cT C K L I R) : dGh C K L R I I := ⟨h, fun _ _ _ => rfl⟩
theorem dG_Ch (h : dGh C K L R I0 I) (h2 : dC C K L R I J) : dGh C K L R I0 J := ⟨h2.1, fun x j p => (h2.2 x j (by unfold eDh eD at p; omega) (by unfold eDh eD at p; omega)).trans (h.2 x j p)⟩
theorem dG_uih (h : dGh C K L R I J) {x k : Nat} {v : Int32} (hT : cT C K L (a_ui J x k v) R) (hx : ¬ eDh C K x k) : dGh C K L R I (a_ui J x k v) := ⟨hT, fun y j p => by rw [ui_ap, if_neg (fun e => hx (by rw [← e.1, ← e.2]; exact p))]; exact h.2 y j p⟩

theorem dG_19h (h : dGh C K L R I J) {k : Nat} {v : Int32} : dGh C K L R I (a_ui J (C + 19) k v) := dG_uih h (sT_Panel_told h.1) (by unfold eDh eD; omega)
theorem dG_20h (h : dGh C K L R I J) {k : Nat} {v : Int32} : dGh C K L R I (a_ui J (C + 20) k v) := dG_uih h (sT_Panel_marks h.1) (by unfold eDh eD; omega)
theorem dG_21h (h : dGh C K L R I J) {k : Nat} {v : Int32} : dGh C K L R I (a_ui J (C + 21) k v) := dG_uih h (sT_Panel_habits h.1) (by unfold eDh eD; omega)
theorem dG_36h (h : dGh C K L R I J) {k : Nat} {v : Int32} : dGh C K L R I (a_ui J (C + 36) k v) := dG_uih h (sT_Circle_wishes h.1) (by unfold eDh eD; omega)
theorem dG_42h (h : dGh C K L R I J) {k : Nat} {v : Int32} : dGh C K L R I (a_ui J (C + 42) k v) := dG_uih h (sT_BeamHall_refused h.1) (by unfold eDh eD; omega)
theorem dG_askfh (h : dGh C K L R I J) {x k : Nat} {v : Int32} (hx : C + 96 < x) (hk : K x = 1) (hf : ¬ k = 2 ∧ ¬ k = 4 ∧ ¬ k = 13 ∧ ¬ k = 14) : dGh C K L R I (a_ui J x k v) := dG_uih h (sT_askf h.1 hx hk hf) (by unfold eDh eD; omega)
end K3

/-! the class: panels -/
section K9
variable {d n t C : Nat} {K L : Nat → Nat} {I I0 J J0 J1 J2 : Nat → Nat → Int32} {R : Nat → Nat → Nat} {P : Option Value → AH → Prop}
theorem lk_reckonMarks_39h (hP : ∀ J, dGh C K L R I0 J → P none (n, t, K, L, J, R)) : ∀ i : Int32, i ≤ 30 → ∀ J u, 0 ≤ i → dGh C K L R I0 J → a_at (d + 3) (a_xm a_m27) 39 [some (a_rf (C + 17)), some (.int i), u] [] (n, t, K, L, J, R) P := by
  refine up_ind 30 (fun i hk ih => ?_)
  intro J u q0 hJ
  have hT := hJ.1
  have hS := hT.s
  have gA := hT.g_asksR
  have gB := hT.g_benchesR
  have gX := hT.g_textsR
  have gc := hT.g_asks
  have gi := gA i.toNatClampNeg
  have hw : ∀ x v, K x = 1 → dGh C K L R I0 (a_ui J x 12 v) := fun x v hx => dG_askfh hJ (hT.g_ask x hx).1 hx (by decide)
  rw [q27_39]
  repeat' first
    | with_reducible apply And.intro
    | with_reducible assumption
    | with_reducible intro _
    | with_reducible apply hP
    | with_reducible apply ih
    | with_reducible apply ck_joinedMark hS
    | with_reducible apply hw
    | simp only [q27_40, q27_41, q27_44, q27_47, q27_50, q27_51, q27_54, q27_55, q27_58, q27_59, q27_60, q27_63, q27_64, q27_65, q27_66, q27_69, q27_72, q27_75, q27_78, k_17 hS, z_17, r_17_0 hS, k_14 hS, z_14, sp_askAt hS gA, as_nil, as_i, as_r, Nat.reduceAdd, Nat.reduceLeDiff, z_eq0, z_eq1, z_or, z_em, Classical.not_not, not_false_eq_true, not_true_eq_false, true_and, and_true, false_and, and_false, and_self, true_implies, false_implies, implies_true, Option.toList_some, Option.toList_none, List.cons_append, List.nil_append, Nat.add_eq_zero_iff, a_nl_i, a_nl_r, a_nl_n, true_or, or_true, eq_self, a_isRA_22, a_isRA_24, a_isRA_32, a_isA_20, ok_4, ok_5, ok_6, ok_7, ok_9, ok_20, ok_21, ok_30, ok_50, ok_180, ok_192, ok_200]
  all_goals grind [ui_ap]
theorem lk_reckonMarks_2h (hP : ∀ J, dGh C K L R I0 J → P none (n, t, K, L, J, R)) : ∀ i : Int32, i ≤ 6 → ∀ J u, 0 ≤ i → dGh C K L R I0 J → a_at (d + 3) (a_xm a_m27) 2 [some (a_rf (C + 17)), some (.int i), u] [] (n, t, K, L, J, R) P := by
  refine up_ind 6 (fun i hk ih => ?_)
  intro J u q0 hJ
  have hT := hJ.1
  have hS := hT.s
  have hw : ∀ k v, dGh C K L R I0 (a_ui J (C + 21) k v) := fun k v => dG_21h hJ
  have hl := fun u => lk_reckonMarks_39h (d := d) hP 0 (by decide) J u (by decide) hJ
  rw [q27_2]
  repeat' first
    | with_reducible apply And.intro
    | with_reducible assumption
    | with_reducible intro _
    | with_reducible apply hl
    | with_reducible apply ih
    | with_reducible apply ck_habitOf
    | with_reducible apply hw
    | simp only [q27_3, q27_5, q27_8, q27_9, q27_12, q27_13, q27_14, q27_17, q27_18, q27_21, q27_22, q27_23, q27_26, q27_29, q27_30, q27_31, q27_34, q27_37, q27_38, k_17 hS, z_17, r_17_4 hS, k_21 hS, l_21 hS, z_21, as_nil, as_i, as_r, Nat.reduceAdd, Nat.reduceLeDiff, z_eq0, z_eq1, z_or, z_em, Classical.not_not, not_false_eq_true, not_true_eq_false, true_and, and_true, false_and, and_false, and_self, true_implies, false_implies, implies_true, Option.toList_some, Option.toList_none, List.cons_append, List.nil_append, Nat.add_eq_zero_iff, a_nl_i, a_nl_r, a_nl_n, true_or, or_true, eq_self, a_isRA_22, a_isRA_24, a_isRA_32, a_isA_20, ok_4, ok_5, ok_6, ok_7, ok_9, ok_20, ok_21, ok_30, ok_50, ok_180, ok_192, ok_200]
  all_goals grind [ui_ap]
theorem ck_reckonMarksh (hG : dGh C K L R I0 I) (hP : ∀ J, dGh C K L R I0 J → P none (n, t, K, L, J, R)) : a_does (d + 4) 27 [a_rf (C + 17)] (n, t, K, L, I, R) P := by
  have hS := hG.1.s
  have hl := fun u => lk_reckonMarks_2h (d := d) hP 0 (by decide) I u (by decide) hG
  rw [a_enter1 (M := a_m27) rfl (a_cat_rf a_cat_nil) (show 1 ≤ 3 by decide)]
  show a_at _ (a_xm a_m27) 0 [some (a_rf (C + 17)), none, none] [] _ _
  repeat' first
    | with_reducible apply And.intro
    | with_reducible assumption
    | with_reducible intro _
    | with_reducible apply hl
    | simp only [q27_0, q27_1, as_nil, as_i, as_r, Nat.reduceAdd, Nat.reduceLeDiff, z_eq0, z_eq1, z_or, z_em, Classical.not_not, not_false_eq_true, not_true_eq_false, true_and, and_true, false_and, and_false, and_self, true_implies, false_implies, implies_true, Option.toList_some, Option.toList_none, List.cons_append, List.nil_append, Nat.add_eq_zero_iff, a_nl_i, a_nl_r, a_nl_n, true_or, or_true, eq_self, a_isRA_22, a_isRA_24, a_isRA_32, a_isA_20, ok_4, ok_5, ok_6, ok_7, ok_9, ok_20, ok_21, ok_30, ok_50, ok_180, ok_192, ok_200]
  all_goals grind [ui_ap]
theorem ck_changeScaledh (hT : cT C K L I R) {v : Int32} (hP : ∀ J, dGh C K L R (a_ui I (C + 17) 5 v) J → P (some (.int (I (C + 17) 5))) (n, t, K, L, J, R)) : a_does (d + 5) 26 [a_rf (C + 17), .int v] (n, t, K, L, I, R) P := by
  have hS := hT.s
  have hr := dG_reflh (sT_Panel_scaled hT (v := v))
  rw [a_enter1 (M := a_m26) rfl (a_cat_rf (a_cat_int a_cat_nil)) (show 2 ≤ 3 by decide)]
  show a_at _ (a_xm a_m26) 0 [some (a_rf (C + 17)), some (.int v), none] [] _ _
  repeat' first
    | with_reducible apply And.intro
    | with_reducible assumption
    | with_reducible intro _
    | with_reducible apply hP
    | with_reducible apply ck_reckonMarksh hr
    | simp only [q26_0, q26_1, q26_4, q26_5, q26_6, q26_7, q26_10, q26_11, q26_14, q26_15, k_17 hS, z_17, as_nil, as_i, as_r, Nat.reduceAdd, Nat.reduceLeDiff, z_eq0, z_eq1, z_or, z_em, Classical.not_not, not_false_eq_true, not_true_eq_false, true_and, and_true, false_and, and_false, and_self, true_implies, false_implies, implies_true, Option.toList_some, Option.toList_none, List.cons_append, List.nil_append, Nat.add_eq_zero_iff, a_nl_i, a_nl_r, a_nl_n, true_or, or_true, eq_self, a_isRA_22, a_isRA_24, a_isRA_32, a_isA_20, ok_4, ok_5, ok_6, ok_7, ok_9, ok_20, ok_21, ok_30, ok_50, ok_180, ok_192, ok_200]
  all_goals grind [ui_ap]
theorem ck_tellh {a : Nat} (ha : K a = 1) (hG : dGh C K L R I0 I) {r v : Int32} (hr : 0 ≤ r ∧ r < 6) (hP : ∀ v J, dGh C K L R I0 J → P (some (.int v)) (n, t, K, L, J, R)) : a_does (d + 5) 95 [a_rf (C + 17), .int r, a_rf a, .int v] (n, t, K, L, I, R) P := by
  have hT := hG.1
  have hS := hT.s
  obtain ⟨a1, a2, a4, a3⟩ := hT.g_ask a ha
  have a0 : (a = 0) = False := eq_false (by omega)
  have a19 : (a = C + 19) = False := eq_false (by omega)
  have a20 : (a = C + 20) = False := eq_false (by omega)
  rw [a_enter1 (M := a_m95) rfl (a_cat_rf (a_cat_int (a_cat_rf (a_cat_int a_cat_nil)))) (show 4 ≤ 5 by decide)]
  show a_at _ (a_xm a_m95) 0 [some (a_rf (C + 17)), some (.int r), some (a_rf a), some (.int v), none] [] _ _
  repeat' first
    | with_reducible apply And.intro
    | with_reducible assumption
    | with_reducible intro _
    | with_reducible apply hP
    | with_reducible apply ck_reckonMarksh (I0 := I0)
    | with_reducible apply dG_20h
    | with_reducible apply dG_19h
    | simp only [q95_0, q95_1, q95_4, q95_5, q95_6, q95_7, q95_8, q95_9, q95_12, q95_13, q95_14, q95_15, q95_16, q95_19, q95_20, q95_21, q95_22, q95_25, q95_26, q95_27, q95_28, q95_31, q95_32, q95_33, q95_34, q95_36, q95_37, q95_38, q95_41, q95_42, q95_44, q95_46, q95_49, q95_51, q95_52, q95_55, q95_56, q95_59, q95_60, q95_63, q95_65, q95_66, q95_67, q95_68, q95_71, q95_72, k_17 hS, z_17, r_17_2 hS, k_19 hS, l_19 hS, z_19, r_17_1 hS, k_18 hS, l_18 hS, z_18, r_17_3 hS, k_20 hS, l_20 hS, z_20, as_nil, as_i, as_r, Nat.reduceAdd, Nat.reduceLeDiff, z_eq0, z_eq1, z_or, z_em, Classical.not_not, not_false_eq_true, not_true_eq_false, true_and, and_true, false_and, and_false, and_self, true_implies, false_implies, implies_true, Option.toList_some, Option.toList_none, List.cons_append, List.nil_append, Nat.add_eq_zero_iff, a_nl_i, a_nl_r, a_nl_n, true_or, or_true, eq_self, a_isRA_22, a_isRA_24, a_isRA_32, a_isA_20, ok_4, ok_5, ok_6, ok_7, ok_9, ok_20, ok_21, ok_30, ok_50, ok_180, ok_192, ok_200, ha, a0, of_180, a19, ui_ap, cc_ne, cc_n0, cc_0n, Nat.reduceEqDiff, reduceIte, if_true, if_false]
  all_goals grind [ui_ap]
end K9
/-! the class: frames of public methods; what is added -/
def dXh (C n : Nat) (K L : Nat → Nat) (I : Nat → Nat → Int32) (R : Nat → Nat → Nat) (n' : Nat) (K' L' : Nat → Nat) (J : Nat → Nat → Int32) (R' : Nat → Nat → Nat) : Prop := n ≤ n' ∧ (∀ x, x < n → K' x = K x) ∧ (∀ x, x < n → L' x = L x) ∧ (∀ x j, (x = C + 8 ∨ x = C + 16 ∨ C + 44 ≤ x) → (x ≤ C + 96 ∨ (K x = 3 ∧ x < n)) → R' x j = R x j) ∧ (∀ x j, eDh C K x j → x < n → J x j = I x j)
def cZh (C c n0 : Nat) (K0 L0 : Nat → Nat) (I0 : Nat → Nat → Int32) (R0 : Nat → Nat → Nat) (n t : Nat) (K L : Nat → Nat) (J : Nat → Nat → Int32) (R : Nat → Nat → Nat) : Prop := C + 96 < n0 ∧ cH C c n t K L J R ∧ dXh C n0 K0 L0 I0 R0 n K L J R
section KB
variable {d n t C c n0 n' n'' t' : Nat} {K L K0 L0 K' L' K'' L'' : Nat → Nat} {I I0 J J0 J1 J2 : Nat → Nat → Int32} {R R0 R' R'' : Nat → Nat → Nat} {P : Option Value → AH → Prop}
theorem dX_reflh : dXh C n K L I R n K L I R := ⟨Nat.le_refl _, fun _ _ => rfl, fun _ _ => rfl, fun _ _ _ _ => rfl, fun _ _ _ _ => rfl⟩
theorem eD_Kh {x j : Nat} (e : K' x = K x) (h : eDh C K x j) : eDh C K' x j := by
  unfold eDh eD at h ⊢
  rw [e]
  exact h
theorem dX_Xh (h : dXh C n K L I R n' K' L' J R') (h2 : dXh C n' K' L' J R' n'' K'' L'' J0 R'') : dXh C n K L I R n'' K'' L'' J0 R'' := by
  obtain ⟨p1, p2, p3, p4, p5⟩ := h
  obtain ⟨q1, q2, q3, q4, q5⟩ := h2
  exact ⟨by omega, fun x hx => (q2 x (by omega)).trans (p2 x hx), fun x hx => (q3 x (by omega)).trans (p3 x hx), fun x j h1 h2 => (q4 x j h1 (h2.imp id (fun z => ⟨(p2 x z.2).trans z.1, by omega⟩))).trans (p4 x j h1 h2), fun x j h1 h2 => (q5 x j (eD_Kh (p2 x h2) h1) (by omega)).trans (p5 x j h1 h2)⟩
theorem cZ_reflh (h : cH C c n t K L I R) : cZh C c n K L I R n t K L I R := ⟨h.2.2.1, h, dX_reflh⟩
theorem cZ_leh (h : cZh C c n0 K0 L0 I0 R0 n t K L J R) {c2 : Nat} (hc : c ≤ c2) : cZh C c2 n0 K0 L0 I0 R0 n t K L J R := ⟨h.1, cH_le h.2.1 hc, h.2.2⟩
theorem cZ_Gh (h : cZh C c n0 K0 L0 I0 R0 n t K L I R) (g : dGh C K L R I J) : cZh C c n0 K0 L0 I0 R0 n t K L J R := ⟨h.1, cH_J h.2.1 g.1, dX_Xh h.2.2 ⟨Nat.le_refl _, fun _ _ => rfl, fun _ _ => rfl, fun _ _ _ _ => rfl, fun x j h1 _ => g.2 x j h1⟩⟩
theorem cZ_Ch (h : cZh C c n0 K0 L0 I0 R0 n t K L I R) (g : dC C K L R I J) : cZh C c n0 K0 L0 I0 R0 n t K L J R := cZ_Gh h (dG_Ch (dG_reflh h.2.1.1) g)
theorem cZ_Rh (h : cZh C c n0 K0 L0 I0 R0 n t K L J R) {k j v : Nat} (hk : k ≤ 43) (h16 : ¬ k = 16) (h8 : ¬ k = 8) (h2 : cT C K L J (a_ur R (C + k) j v)) : cZh C c n0 K0 L0 I0 R0 n t K L J (a_ur R (C + k) j v) := ⟨h.1, cH_R h.2.1 hk h16 h2, dX_Xh h.2.2 ⟨Nat.le_refl _, fun _ _ => rfl, fun _ _ => rfl, fun x i p q => by rw [ur_ap, if_neg (by omega)], fun _ _ _ _ => rfl⟩⟩
theorem cZ_Rdh (h : cZh C c n0 K0 L0 I0 R0 n t K L J R) {v : Nat} (hv : v = 0 ∨ K v = 1) : cZh C c n0 K0 L0 I0 R0 n t K L J (a_ur R C 11 v) := cZ_Rh (k := 0) h (by decide) (by decide) (by decide) (sT_Rdraft h.2.1.1 hv)
theorem cZ_newh (h : cZh C c n0 K0 L0 I0 R0 (n + 1) t K L I R) {m s : Nat} (hm : 80 * m ≤ 800) (hs : s ≤ 1000) (hK : ∀ x, x < n + 1 → K' x = K x) (hL : ∀ x, x < n + 1 → L' x = L x) (hJ : ∀ x j, x < n + 1 → J x j = I x j) (hR : ∀ x j, x < n + 1 → R' x j = R x j) (hz : ∀ x, n + 1 + m ≤ x → K' x = 0) (na : ∀ a, n + 1 ≤ a → K' a = 1 → (C + 96 < a ∧ (1 ≤ J a 2 ∧ J a 2 ≤ 4) ∧ (0 ≤ J a 4 ∧ J a 4 ≤ 29) ∧ (0 ≤ J a 13 → 0 ≤ J a 14 ∧ J a 14 ≤ 199 ∧ J a 14 + J a 2 ≤ 200))) (nb : ∀ b, n + 1 ≤ b → K' b = 3 → (C + 96 < b ∧ (C + 96 < R' b 2 ∧ K' (R' b 2) = 20 ∧ L' (R' b 2) = 200) ∧ (C + 96 < R' b 3 ∧ K' (R' b 3) = 20 ∧ L' (R' b 3) = 200) ∧ (C + 96 < R' b 4 ∧ K' (R' b 4) = 20 ∧ L' (R' b 4) = 200) ∧ (C + 96 < R' b 5 ∧ K' (R' b 5) = 20 ∧ (∃ m, L' (R' b 5) = 80 * m ∧ 1 ≤ m ∧ m ≤ 2048)) ∧ (0 ≤ J b 6 ∧ J b 6 ≤ 16384 ∧ 5 * (J b 6).toNatClampNeg ≤ L' (R' b 5)))) (nx : ∀ x, n + 1 ≤ x → K' x = 11 → (C + 96 < x ∧ C + 96 < R' x 2 ∧ K' (R' x 2) = 20 ∧ L' (R' x 2) ≤ 50)) : cZh C (c + 1) n0 K0 L0 I0 R0 (n + 1 + m) (t + s) K' L' J R' := by
  obtain ⟨z1, ⟨p1, p2, p3, p4, p5, p6⟩, z3⟩ := h
  have hT := cT_grow p1 p2 p3 hK hL hJ hR na nb nx
  have hv : cV C L' R' = cV C L R := cV_eq (fun i => by
    rw [hR (C + 16) i (by omega)]
    rcases p1.g_benchesR i with q | q
    · rw [q, hR 0 5 (by omega), p4.1, hL 0 (by omega)]
    · have l1 := kn_lt p2 q (by decide)
      rw [hR _ 5 l1, hL _ (kn_lt p2 (p1.g_bnc _ q).2.2.2.2.1.2.1 (by decide))])
  refine ⟨z1, ⟨hT, hz, by omega, ⟨by rw [hR 0 5 (by omega)]; exact p4.1, by rw [hL 0 (by omega)]; exact p4.2⟩, by rw [hv]; omega, by rw [hv]; omega⟩, dX_Xh z3 ⟨by omega, hK, hL, fun x j q1 q2 => hR x j (by omega), fun x j _ q => hJ x j q⟩⟩
end KB
/-! the class: what is added -/
section KC
variable {d n t C c n0 n' n'' t' : Nat} {K L K0 L0 K' L' K'' L'' : Nat → Nat} {I I0 J J0 J1 J2 : Nat → Nat → Int32} {R R0 R' R'' : Nat → Nat → Nat} {P : Option Value → AH → Prop}
theorem ck_Ainith (hZ : cZh C c n0 K0 L0 I0 R0 (n + 1) t K L I R) {g l m w : Int32} (hm : 1 ≤ m ∧ m ≤ 4) (hP : ∀ t' K' L' J R', cZh C (c + 1) n0 K0 L0 I0 R0 (n + 1 + 1) t' K' L' J R' → K' (n + 1) = 1 → (∀ x, x < n + 1 → K' x = K x) → P none (n + 1 + 1, t', K', L', J, R')) : a_does (d + 1) 37 [a_rf (n + 1), .int g, .int l, .int m, .int w] (n + 1 + 1, t + 17, a_up K (n + 1) 1, a_up L (n + 1) 17, a_zi I (n + 1), a_zr R (n + 1)) P := by
  have fr := hZ.2.1.2.1
  have hC := hZ.2.1.2.2.1
  have f0 : (n + 1 = 0) = False := eq_false (by omega)
  rw [a_enter1 (M := a_m37) rfl (a_cat_rf (a_cat_int (a_cat_int (a_cat_int (a_cat_int a_cat_nil))))) (show 5 ≤ 5 by decide)]
  show a_at _ (a_xm a_m37) 0 [some (a_rf (n+1)), some (.int g), some (.int l), some (.int m), some (.int w)] [] _ _
  simp only [q37_0, as_nil, as_i, as_r, Nat.reduceAdd, Nat.reduceLeDiff, z_eq0, z_eq1, z_or, z_em, Classical.not_not, not_false_eq_true, not_true_eq_false, true_and, and_true, false_and, and_false, and_self, true_implies, false_implies, implies_true, Option.toList_some, Option.toList_none, List.cons_append, List.nil_append, Nat.add_eq_zero_iff, a_nl_i, a_nl_r, a_nl_n, true_or, or_true, eq_self, a_isRA_22, a_isRA_24, a_isRA_32, a_isA_20, ok_4, ok_5, ok_6, ok_7, ok_9, ok_20, ok_21, ok_30, ok_50, ok_180, ok_192, ok_200]
  rw [q37_1 (show ¬ n + 1 = 0 by omega) (show a_sum [] ≤ 8 by decide)]
  simp only [q37_4, q37_5, q37_6, q37_9, q37_10, q37_11, q37_14, q37_15, q37_16, q37_19, q37_20, q37_22, q37_25, q37_26, q37_28, q37_31, q37_32, q37_34, q37_37, q37_38, q37_40, q37_43, as_nil, as_i, as_r, Nat.reduceAdd, Nat.reduceLeDiff, z_eq0, z_eq1, z_or, z_em, Classical.not_not, not_false_eq_true, not_true_eq_false, true_and, and_true, false_and, and_false, and_self, true_implies, false_implies, implies_true, Option.toList_some, Option.toList_none, List.cons_append, List.nil_append, Nat.add_eq_zero_iff, a_nl_i, a_nl_r, a_nl_n, true_or, or_true, eq_self, a_isRA_22, a_isRA_24, a_isRA_32, a_isA_20, ok_4, ok_5, ok_6, ok_7, ok_9, ok_20, ok_21, ok_30, ok_50, ok_180, ok_192, ok_200, up_ap, up_eq, Nat.add_left_cancel_iff, Nat.add_right_cancel_iff, Nat.reduceEqDiff, if_true, if_false, f0]
  generalize hi : a_ui (a_ui (a_ui (a_ui (a_ui (a_ui (a_ui (a_zi I (n + 1)) (n + 1) 0 g) (n + 1) 1 l) (n + 1) 2 m) (n + 1) 3 w) (n + 1) 12 (-9)) (n + 1) 13 (-9)) (n + 1) 14 (-9) = I5
  have i2 : I5 (n + 1) 2 = m := by rw [← hi]; simp [ui_ap]
  have i4 : I5 (n + 1) 4 = 0 := by rw [← hi]; simp [ui_ap, zi_ap]
  have i13 : I5 (n + 1) 13 = -9 := by rw [← hi]; simp [ui_ap]
  have ix : ∀ x j, x < n + 1 → I5 x j = I x j := fun x j hx => by
    have e : ¬ x = n + 1 := by omega
    rw [← hi]
    simp [ui_ap, zi_ap, e]
  clear hi
  refine hP (t + 17) _ _ I5 _ (cZ_newh (m := 1) (s := 17) hZ (by decide) (by decide) (fun x hx => up_ne (by omega)) (fun x hx => up_ne (by omega)) ix (fun x j hx => zr_ne (by omega)) (fun x hx => ?_) (fun a h1 h2 => ?_) (fun b h1 h2 => ?_) (fun x h1 h2 => ?_)) up_eq (fun x hx => up_ne (by omega))
  · rw [up_ne (by omega)]
    exact fr x (by omega)
  · by_cases e : a = n + 1
    · subst e
      rw [i2, i4, i13]
      exact ⟨by omega, hm, by decide, fun h => absurd h (by decide)⟩
    · rw [up_ne e, fr a (by omega)] at h2; cases h2
  · by_cases e : b = n + 1
    · subst e
      rw [up_eq] at h2; cases h2
    · rw [up_ne e, fr b (by omega)] at h2; cases h2
  · by_cases e : x = n + 1
    · subst e
      rw [up_eq] at h2; cases h2
    · rw [up_ne e, fr x (by omega)] at h2; cases h2
theorem ck_wanth {a : Nat} (ha : K a = 1) (hG : dGh C K L R I0 I) {p q r w : Int32} (hP : ∀ J, dGh C K L R I0 J → P none (n, t, K, L, J, R)) : a_does (d + 1) 41 [a_rf a, .int p, .int q, .int r, .int w] (n, t, K, L, I, R) P := by
  have hT := hG.1
  obtain ⟨a1, a2, a4, a3⟩ := hT.g_ask a ha
  have a0 : (a = 0) = False := eq_false (by omega)
  have hw : ∀ J k v, dGh C K L R I0 J → (¬ k = 2 ∧ ¬ k = 4 ∧ ¬ k = 13 ∧ ¬ k = 14) → dGh C K L R I0 (a_ui J a k v) := fun J k v h hk => dG_askfh h a1 ha hk
  rw [a_enter1 (M := a_m41) rfl (a_cat_rf (a_cat_int (a_cat_int (a_cat_int (a_cat_int a_cat_nil))))) (show 5 ≤ 5 by decide)]
  show a_at _ (a_xm a_m41) 0 [some (a_rf a), some (.int p), some (.int q), some (.int r), some (.int w)] [] _ _
  simp only [q41_0, q41_1, q41_2, q41_5, q41_6, q41_7, q41_10, q41_11, q41_12, q41_15, q41_16, q41_18, q41_21, as_nil, as_i, as_r, Nat.reduceAdd, Nat.reduceLeDiff, z_eq0, z_eq1, z_or, z_em, Classical.not_not, not_false_eq_true, not_true_eq_false, true_and, and_true, false_and, and_false, and_self, true_implies, false_implies, implies_true, Option.toList_some, Option.toList_none, List.cons_append, List.nil_append, Nat.add_eq_zero_iff, a_nl_i, a_nl_r, a_nl_n, true_or, or_true, eq_self, a_isRA_22, a_isRA_24, a_isRA_32, a_isA_20, ok_4, ok_5, ok_6, ok_7, ok_9, ok_20, ok_21, ok_30, ok_50, ok_180, ok_192, ok_200, ha, a0]
  exact hP _ (hw _ _ _ (hw _ _ _ (hw _ _ _ (hw _ _ _ hG (by decide)) (by decide)) (by decide)) (by decide))
theorem ck_bindh {a : Nat} (ha : K a = 1) (hG : dGh C K L R I0 I) {p q r : Int32} (hP : ∀ J, dGh C K L R I0 J → P none (n, t, K, L, J, R)) : a_does (d + 1) 42 [a_rf a, .int p, .int q, .int r] (n, t, K, L, I, R) P := by
  have hT := hG.1
  obtain ⟨a1, a2, a4, a3⟩ := hT.g_ask a ha
  have a0 : (a = 0) = False := eq_false (by omega)
  have hw : ∀ J k v, dGh C K L R I0 J → (¬ k = 2 ∧ ¬ k = 4 ∧ ¬ k = 13 ∧ ¬ k = 14) → dGh C K L R I0 (a_ui J a k v) := fun J k v h hk => dG_askfh h a1 ha hk
  rw [a_enter1 (M := a_m42) rfl (a_cat_rf (a_cat_int (a_cat_int (a_cat_int a_cat_nil)))) (show 4 ≤ 4 by decide)]
  show a_at _ (a_xm a_m42) 0 [some (a_rf a), some (.int p), some (.int q), some (.int r)] [] _ _
  simp only [q42_0, q42_1, q42_2, q42_5, q42_6, q42_7, q42_10, q42_11, q42_12, q42_15, as_nil, as_i, as_r, Nat.reduceAdd, Nat.reduceLeDiff, z_eq0, z_eq1, z_or, z_em, Classical.not_not, not_false_eq_true, not_true_eq_false, true_and, and_true, false_and, and_false, and_self, true_implies, false_implies, implies_true, Option.toList_some, Option.toList_none, List.cons_append, List.nil_append, Nat.add_eq_zero_iff, a_nl_i, a_nl_r, a_nl_n, true_or, or_true, eq_self, a_isRA_22, a_isRA_24, a_isRA_32, a_isA_20, ok_4, ok_5, ok_6, ok_7, ok_9, ok_20, ok_21, ok_30, ok_50, ok_180, ok_192, ok_200, ha, a0]
  exact hP _ (hw _ _ _ (hw _ _ _ (hw _ _ _ hG (by decide)) (by decide)) (by decide))
theorem ck_owedOneh {a : Nat} (ha : K a = 1) (hZ : cZh C c n0 K0 L0 I0 R0 (n + 1) t K L I R) {m : Int32} (hm : 1 ≤ m ∧ m ≤ 4) (hP : ∀ t' K' L' J R', cZh C (c + 1) n0 K0 L0 I0 R0 (n + 1 + 1) t' K' L' J R' → K' (n + 1) = 1 → (∀ x, x < n + 1 → K' x = K x) → P (some (a_rf (n + 1))) (n + 1 + 1, t', K', L', J, R')) : a_does (d + 2) 142 [a_rf a, .int m] (n + 1, t, K, L, I, R) P := by
  have hT := hZ.2.1.1
  obtain ⟨a1, a2, a4, a3⟩ := hT.g_ask a ha
  have a0 : (a = 0) = False := eq_false (by omega)
  have fr := hZ.2.1.2.1
  have al := kn_lt fr ha (by decide)
  have an : (a = n + 1) = False := eq_false (by omega)
  have f0 : (n + 1 = 0) = False := eq_false (by omega)
  rw [a_enter1 (M := a_m142) rfl (a_cat_rf (a_cat_int a_cat_nil)) (show 2 ≤ 3 by decide)]
  show a_at _ (a_xm a_m142) 0 [some (a_rf a), some (.int m), none] [] _ _
  simp only [q142_0, q142_3, q142_4, q142_5, q142_8, q142_9, q142_12, q142_13, q142_14, q142_17, as_nil, as_i, as_r, Nat.reduceAdd, Nat.reduceLeDiff, z_eq0, z_eq1, z_or, z_em, Classical.not_not, not_false_eq_true, not_true_eq_false, true_and, and_true, false_and, and_false, and_self, true_implies, false_implies, implies_true, Option.toList_some, Option.toList_none, List.cons_append, List.nil_append, Nat.add_eq_zero_iff, a_nl_i, a_nl_r, a_nl_n, true_or, or_true, eq_self, a_isRA_22, a_isRA_24, a_isRA_32, a_isA_20, ok_4, ok_5, ok_6, ok_7, ok_9, ok_20, ok_21, ok_30, ok_50, ok_180, ok_192, ok_200, ha, a0, up_ap, an, f0, if_false]
  refine ck_Ainith hZ hm (fun t' K' L' J R' z k1 k2 => ?_)
  have ha' : K' a = 1 := by rw [k2 a al]; exact ha
  simp only [q142_20, q142_21, q142_22, q142_23, q142_26, q142_27, q142_30, q142_31, q142_34, q142_35, q142_38, as_nil, as_i, as_r, Nat.reduceAdd, Nat.reduceLeDiff, z_eq0, z_eq1, z_or, z_em, Classical.not_not, not_false_eq_true, not_true_eq_false, true_and, and_true, false_and, and_false, and_self, true_implies, false_implies, implies_true, Option.toList_some, Option.toList_none, List.cons_append, List.nil_append, Nat.add_eq_zero_iff, a_nl_i, a_nl_r, a_nl_n, true_or, or_true, eq_self, a_isRA_22, a_isRA_24, a_isRA_32, a_isA_20, ok_4, ok_5, ok_6, ok_7, ok_9, ok_20, ok_21, ok_30, ok_50, ok_180, ok_192, ok_200, a0, ha', k1, f0]
  refine ck_wanth k1 (dG_reflh z.2.1.1) (fun J2 g2 => ?_)
  simp only [q142_41, q142_42, q142_43, q142_44, q142_45, as_nil, as_i, as_r, Nat.reduceAdd, Nat.reduceLeDiff, z_eq0, z_eq1, z_or, z_em, Classical.not_not, not_false_eq_true, not_true_eq_false, true_and, and_true, false_and, and_false, and_self, true_implies, false_implies, implies_true, Option.toList_some, Option.toList_none, List.cons_append, List.nil_append, Nat.add_eq_zero_iff, a_nl_i, a_nl_r, a_nl_n, true_or, or_true, eq_self, a_isRA_22, a_isRA_24, a_isRA_32, a_isA_20, ok_4, ok_5, ok_6, ok_7, ok_9, ok_20, ok_21, ok_30, ok_50, ok_180, ok_192, ok_200, a0, ha', k1, f0]
  refine ck_bindh k1 g2 (fun J3 g3 => ?_)
  simp only [q142_48, q142_49, as_nil, as_i, as_r, Nat.reduceAdd, Nat.reduceLeDiff, z_eq0, z_eq1, z_or, z_em, Classical.not_not, not_false_eq_true, not_true_eq_false, true_and, and_true, false_and, and_false, and_self, true_implies, false_implies, implies_true, Option.toList_some, Option.toList_none, List.cons_append, List.nil_append, Nat.add_eq_zero_iff, a_nl_i, a_nl_r, a_nl_n, true_or, or_true, eq_self, a_isRA_22, a_isRA_24, a_isRA_32, a_isA_20, ok_4, ok_5, ok_6, ok_7, ok_9, ok_20, ok_21, ok_30, ok_50, ok_180, ok_192, ok_200, a0, ha', k1, f0]
  exact hP t' K' L' J3 R' (cZ_Gh z g3) k1 k2
theorem ck_addAskh {a : Nat} (ha : K a = 1) (hZ : cZh C c n0 K0 L0 I0 R0 n t K L I R) (hc : ¬ 30 ≤ I (C + 14) 4) (hP : ∀ v J R', cZh C c n0 K0 L0 I0 R0 n t K L J R' → P (some (.int v)) (n, t, K, L, J, R')) : a_does (d + 1) 43 [a_rf (C + 14), a_rf a] (n, t, K, L, I, R) P := by
  have hT := hZ.2.1.1
  have hS := hT.s
  obtain ⟨a1, a2, a4, a3⟩ := hT.g_ask a ha
  have a0 : (a = 0) = False := eq_false (by omega)
  have g := hT.g_asks
  have h1 := sT_addAsk hT ha hc
  have hC := hT.s.1
  have hc' : I (C + 14) 4 < 30 := Int32.not_le.mp hc
  have g0 : 0 ≤ I (C + 14) 4 := g.1
  have an : (a = C + 14) = False := eq_false (by omega)
  have na : (C + 14 = a) = False := eq_false (by omega)
  have z : cZh C c n0 K0 L0 I0 R0 n t K L (a_ui (a_ui I a 4 (I (C + 14) 4)) (C + 14) 4 (I (C + 14) 4 + 1)) (a_ur R (C + 15) (I (C + 14) 4).toNatClampNeg a) := by
    obtain ⟨z1, ⟨p1, p2, p3, p4, p5, p6⟩, z3⟩ := hZ
    have hv : cV C L (a_ur R (C + 15) (I (C + 14) 4).toNatClampNeg a) = cV C L R := cV_eq (fun i => by
      have e1 : a_ur R (C + 15) (I (C + 14) 4).toNatClampNeg a (C + 16) i = R (C + 16) i := by rw [ur_ap, if_neg (by omega)]
      rw [e1, ur_ap, if_neg ?_]
      intro e
      rcases p1.g_benchesR i with q | q
      · omega
      · have := (p1.g_bnc _ q).1
        omega)
    exact ⟨z1, ⟨h1, p2, p3, by rw [ur_ap, if_neg (by omega)]; exact p4, by rw [hv]; exact p5, by rw [hv]; exact p6⟩, dX_Xh z3 ⟨Nat.le_refl _, fun _ _ => rfl, fun _ _ => rfl, fun x j p q => by rw [ur_ap, if_neg (by omega)], fun x j p q => by rw [ui_ap, if_neg (fun e => by unfold eDh eD at p; omega), ui_ap, if_neg (fun e => by rw [e.1] at p; unfold eDh eD at p; omega)]⟩⟩
  rw [a_enter1 (M := a_m43) rfl (a_cat_rf (a_cat_rf a_cat_nil)) (show 2 ≤ 2 by decide)]
  show a_at _ (a_xm a_m43) 0 [some (a_rf (C + 14)), some (a_rf a)] [] _ _
  simp only [q43_0, q43_1, q43_4, q43_6, q43_9, q43_11, q43_12, q43_13, q43_16, q43_17, q43_20, q43_21, q43_22, q43_23, q43_24, q43_27, q43_30, q43_31, q43_32, q43_35, q43_36, q43_37, q43_40, q43_41, q43_44, k_14 hS, z_14, r_14_2 hS, k_15 hS, l_15 hS, z_15, as_nil, as_i, as_r, Nat.reduceAdd, Nat.reduceLeDiff, z_eq0, z_eq1, z_or, z_em, Classical.not_not, not_false_eq_true, not_true_eq_false, true_and, and_true, false_and, and_false, and_self, true_implies, false_implies, implies_true, Option.toList_some, Option.toList_none, List.cons_append, List.nil_append, Nat.add_eq_zero_iff, a_nl_i, a_nl_r, a_nl_n, true_or, or_true, eq_self, a_isRA_22, a_isRA_24, a_isRA_32, a_isA_20, ok_4, ok_5, ok_6, ok_7, ok_9, ok_20, ok_21, ok_30, ok_50, ok_180, ok_192, ok_200, ui_ap, cc_ne, cc_n0, cc_0n, Nat.reduceEqDiff, reduceIte, if_true, if_false, ha, a0, hc', hc, g0, an, na]
  have hfin := fun v => hP v _ _ z
  repeat' first
    | with_reducible apply And.intro
    | exact hfin _
    | (right; rfl)
    | decide
theorem ck_writtenh (hZ : cZh C c n0 K0 L0 I0 R0 (n + 1) t K L I R) (hP : ∀ t' K' L' J R', cZh C (c + 1) n0 K0 L0 I0 R0 (n + 1 + 1) t' K' L' J R' → K' (n + 1) = 20 → L' (n + 1) ≤ 50 → P (some (a_rf (n + 1))) (n + 1 + 1, t', K', L', J, R')) : a_does (d + 1) 81 [a_rf (C + 11)] (n + 1, t, K, L, I, R) P := by
  have hT := hZ.2.1.1
  have hS := hT.s
  have fr := hZ.2.1.2.1
  have hC := hZ.2.1.2.2.1
  have g := hT.g_code
  have f0 : (n + 1 = 0) = False := eq_false (by omega)
  have e0 := Int32.le_iff_toInt_le.mp g.1
  have e1 := Int32.le_iff_toInt_le.mp g.2
  have c0 : (0 : Int32).toInt = 0 := rfl
  have c50 : (50 : Int32).toInt = 50 := rfl
  have hm : (I (C + 11) 3).toNatClampNeg ≤ 50 := by
    show (I (C + 11) 3).toInt.toNat ≤ 50
    omega
  have h6 : (I (C + 11) 3).toNatClampNeg ≤ 1000000 := by omega
  have hn0 : (I (C + 11) 3 < 0) = False := eq_false (Int32.not_lt.mpr g.1)
  have n11 : (C + 11 = n + 1) = False := eq_false (by omega)
  have n13 : (C + 13 = n + 1) = False := eq_false (by omega)
  rw [a_enter1 (M := a_m81) rfl (a_cat_rf a_cat_nil) (show 1 ≤ 2 by decide)]
  show a_at _ (a_xm a_m81) 0 [some (a_rf (C + 11)), none] [] _ _
  simp only [q81_0, q81_1, q81_4, q81_6, q81_7, q81_8, q81_11, q81_12, q81_13, q81_14, q81_15, k_11 hS, z_11, r_11_1 hS, k_13 hS, l_13 hS, z_13, as_nil, as_i, as_r, Nat.reduceAdd, Nat.reduceLeDiff, z_eq0, z_eq1, z_or, z_em, Classical.not_not, not_false_eq_true, not_true_eq_false, true_and, and_true, false_and, and_false, and_self, true_implies, false_implies, implies_true, Option.toList_some, Option.toList_none, List.cons_append, List.nil_append, Nat.add_eq_zero_iff, a_nl_i, a_nl_r, a_nl_n, true_or, or_true, eq_self, a_isRA_22, a_isRA_24, a_isRA_32, a_isA_20, ok_4, ok_5, ok_6, ok_7, ok_9, ok_20, ok_21, ok_30, ok_50, ok_180, ok_192, ok_200, up_ap, up_eq, zi_ap, zr_ap, if_true, if_false, hn0, h6, n11, n13, f0, a_copy_eq, a_kd_eq, a_ln_eq, cn00, lt00, Nat.zero_add]
  generalize hk : (I (C + 11) 3).toNatClampNeg = k at hm ⊢
  simp only [q81_18, q81_21, q81_22, as_nil, as_i, as_r, Nat.reduceAdd, Nat.reduceLeDiff, z_eq0, z_eq1, z_or, z_em, Classical.not_not, not_false_eq_true, not_true_eq_false, true_and, and_true, false_and, and_false, and_self, true_implies, false_implies, implies_true, Option.toList_some, Option.toList_none, List.cons_append, List.nil_append, Nat.add_eq_zero_iff, a_nl_i, a_nl_r, a_nl_n, true_or, or_true, eq_self, a_isRA_22, a_isRA_24, a_isRA_32, a_isA_20, ok_4, ok_5, ok_6, ok_7, ok_9, ok_20, ok_21, ok_30, ok_50, ok_180, ok_192, ok_200, up_ap, up_eq, zi_ap, zr_ap, if_true, if_false, k_11 hS, z_11, k_13 hS, l_13 hS, z_13, hn0, hk, n11, n13, f0, a_copy_eq, a_kd_eq, a_ln_eq, cn00, lt00, Nat.zero_add, Nat.le_refl, hm]
  have ix : ∀ x j, x < n + 1 → a_ci (a_zi I (n + 1)) (C + 13) (n + 1) 0 0 k x j = I x j := fun x j hx => by rw [ci_ne (by omega), zi_ne (by omega)]
  have z := cZ_newh (m := 1) (s := k) (K' := a_up K (n + 1) 20) (L' := a_up L (n + 1) k) (J := a_ci (a_zi I (n + 1)) (C + 13) (n + 1) 0 0 k) (R' := a_zr R (n + 1)) hZ (by decide) (by omega) (fun x hx => up_ne (by omega)) (fun x hx => up_ne (by omega)) ix (fun x j hx => zr_ne (by omega)) (fun x hx => by rw [up_ne (by omega)]; exact fr x (by omega)) (fun a h1 h2 => by
    by_cases e : a = n + 1
    · rw [e, up_eq] at h2; cases h2
    · rw [up_ne e, fr a (by omega)] at h2; cases h2) (fun a h1 h2 => by
    by_cases e : a = n + 1
    · rw [e, up_eq] at h2; cases h2
    · rw [up_ne e, fr a (by omega)] at h2; cases h2) (fun a h1 h2 => by
    by_cases e : a = n + 1
    · rw [e, up_eq] at h2; cases h2
    · rw [up_ne e, fr a (by omega)] at h2; cases h2)
  exact hP _ _ _ _ _ z up_eq (by rw [up_eq]; exact hm)
theorem ck_addTexth (hZ : cZh C c n0 K0 L0 I0 R0 (n + 1) t K L I R) {x : Nat} (hx : K x = 20) (x1 : C + 96 < x) (hl : L x ≤ 50) {p q : Int32} (hc : ¬ 20 ≤ I (C + 7) 3) (hP : ∀ t' K' L' J R', cZh C (c + 1) n0 K0 L0 I0 R0 (n + 1 + 1) t' K' L' J R' → J (C + 7) 3 = I (C + 7) 3 → K' (n + 1) = 11 → J (n + 1) 4 = 0 → cH C (c + 1) (n + 1 + 1) t' K' L' J (a_ur R' (C + 8) (I (C + 7) 3).toNatClampNeg (n + 1)) → P (some (.int (I (C + 7) 3 + 1 - 1))) (n + 1 + 1, t', K', L', a_ui J (C + 7) 3 (I (C + 7) 3 + 1), a_ur R' (C + 8) (I (C + 7) 3).toNatClampNeg (n + 1))) : a_does (d + 2) 82 [a_rf (C + 7), .int p, .int q, a_rf x] (n + 1, t, K, L, I, R) P := by
  have hT := hZ.2.1.1
  have hS := hT.s
  have fr := hZ.2.1.2.1
  have hC := hZ.2.1.2.2.1
  have g := hT.g_texts
  have xl := kn_lt fr hx (by decide)
  have hc' : I (C + 7) 3 < 20 := Int32.not_le.mp hc
  have g0 : 0 ≤ I (C + 7) 3 := g.1
  have f0 : (n + 1 = 0) = False := eq_false (by omega)
  have n7 : (C + 7 = n + 1) = False := eq_false (by omega)
  have n8 : (C + 8 = n + 1) = False := eq_false (by omega)
  rw [a_enter1 (M := a_m82) rfl (a_cat_rf (a_cat_int (a_cat_int (a_cat_rf a_cat_nil)))) (show 4 ≤ 4 by decide)]
  show a_at _ (a_xm a_m82) 0 [some (a_rf (C + 7)), some (.int p), some (.int q), some (a_rf x)] [] _ _
  simp only [q82_0, q82_1, q82_4, q82_6, q82_9, q82_11, q82_12, q82_13, q82_16, q82_17, q82_20, q82_23, q82_24, q82_25, q82_26, q82_27, k_7 hS, z_7, r_7_0 hS, k_8 hS, l_8 hS, z_8, as_nil, as_i, as_r, Nat.reduceAdd, Nat.reduceLeDiff, z_eq0, z_eq1, z_or, z_em, Classical.not_not, not_false_eq_true, not_true_eq_false, true_and, and_true, false_and, and_false, and_self, true_implies, false_implies, implies_true, Option.toList_some, Option.toList_none, List.cons_append, List.nil_append, Nat.add_eq_zero_iff, a_nl_i, a_nl_r, a_nl_n, true_or, or_true, eq_self, a_isRA_22, a_isRA_24, a_isRA_32, a_isA_20, ok_4, ok_5, ok_6, ok_7, ok_9, ok_20, ok_21, ok_30, ok_50, ok_180, ok_192, ok_200, up_ap, up_eq, zi_ap, zr_ap, if_true, if_false, hc', hc, n7, n8, f0]
  rw [a_enter1 (M := a_m83) rfl (a_cat_rf (a_cat_int (a_cat_int (a_cat_rf a_cat_nil)))) (show 4 ≤ 4 by decide)]
  show a_at _ (a_xm a_m83) 0 [some (a_rf (n+1)), some (.int p), some (.int q), some (a_rf x)] [] _ _
  simp only [q83_0, as_nil, as_i, as_r, Nat.reduceAdd, Nat.reduceLeDiff, z_eq0, z_eq1, z_or, z_em, Classical.not_not, not_false_eq_true, not_true_eq_false, true_and, and_true, false_and, and_false, and_self, true_implies, false_implies, implies_true, Option.toList_some, Option.toList_none, List.cons_append, List.nil_append, Nat.add_eq_zero_iff, a_nl_i, a_nl_r, a_nl_n, true_or, or_true, eq_self, a_isRA_22, a_isRA_24, a_isRA_32, a_isA_20, ok_4, ok_5, ok_6, ok_7, ok_9, ok_20, ok_21, ok_30, ok_50, ok_180, ok_192, ok_200]
  rw [q83_1 (show ¬ n + 1 = 0 by omega) (show a_sum [] ≤ 8 by decide)]
  simp only [q83_4, q83_5, q83_6, q83_9, q83_10, q83_11, q83_14, q83_15, q83_16, q83_19, q83_20, q83_23, q83_26, as_nil, as_i, as_r, Nat.reduceAdd, Nat.reduceLeDiff, z_eq0, z_eq1, z_or, z_em, Classical.not_not, not_false_eq_true, not_true_eq_false, true_and, and_true, false_and, and_false, and_self, true_implies, false_implies, implies_true, Option.toList_some, Option.toList_none, List.cons_append, List.nil_append, Nat.add_eq_zero_iff, a_nl_i, a_nl_r, a_nl_n, true_or, or_true, eq_self, a_isRA_22, a_isRA_24, a_isRA_32, a_isA_20, ok_4, ok_5, ok_6, ok_7, ok_9, ok_20, ok_21, ok_30, ok_50, ok_180, ok_192, ok_200, up_ap, up_eq, Nat.add_left_cancel_iff, Nat.add_right_cancel_iff, Nat.reduceEqDiff, if_true, if_false, f0]
  generalize hi : a_ui (a_ui (a_ui (a_zi I (n + 1)) (n + 1) 0 p) (n + 1) 1 q) (n + 1) 3 200 = I5
  have ix : ∀ x j, x < n + 1 → I5 x j = I x j := fun x j hx => by
    have e : ¬ x = n + 1 := by omega
    rw [← hi]
    simp [ui_ap, zi_ap, e]
  have i4 : I5 (n + 1) 4 = 0 := by rw [← hi]; simp [ui_ap, zi_ap]
  clear hi
  have z := cZ_newh (m := 1) (s := 5) (K' := a_up K (n + 1) 11) (L' := a_up L (n + 1) 5) (J := I5) (R' := a_ur (a_zr R (n + 1)) (n + 1) 2 x) hZ (by decide) (by decide) (fun x hx => up_ne (by omega)) (fun x hx => up_ne (by omega)) ix (fun x j hx => by rw [ur_ap, if_neg (by omega), zr_ne (by omega)]) (fun x hx => by rw [up_ne (by omega)]; exact fr x (by omega)) (fun a h1 h2 => by
    by_cases e : a = n + 1
    · rw [e, up_eq] at h2; cases h2
    · rw [up_ne e, fr a (by omega)] at h2; cases h2) (fun a h1 h2 => by
    by_cases e : a = n + 1
    · rw [e, up_eq] at h2; cases h2
    · rw [up_ne e, fr a (by omega)] at h2; cases h2) (fun a h1 h2 => by
    by_cases e : a = n + 1
    · subst e
      rw [ur_ap, if_pos ⟨rfl, rfl⟩, up_ne (by omega), up_ne (by omega)]
      exact ⟨by omega, x1, hx, hl⟩
    · rw [up_ne e, fr a (by omega)] at h2; cases h2)
  have z2 := cH_R8 z.2.1 (j := (I (C + 7) 3).toNatClampNeg) (Or.inr (up_eq (f := K) (a := n + 1) (v := 11)))
  have e5 : I5 (C + 7) 3 = I (C + 7) 3 := ix _ _ (by omega)
  have hfin := hP _ _ _ _ _ z e5 up_eq i4 z2
  have hS := z.2.1.1.s
  have k11 : a_up K (n + 1) 11 (n + 1) = 11 := up_eq
  simp only [q82_30, q82_31, q82_32, q82_33, q82_36, q82_37, q82_38, q82_41, q82_42, q82_45, q82_46, q82_47, k_7 hS, z_7, as_nil, as_i, as_r, Nat.reduceAdd, Nat.reduceLeDiff, z_eq0, z_eq1, z_or, z_em, Classical.not_not, not_false_eq_true, not_true_eq_false, true_and, and_true, false_and, and_false, and_self, true_implies, false_implies, implies_true, Option.toList_some, Option.toList_none, List.cons_append, List.nil_append, Nat.add_eq_zero_iff, a_nl_i, a_nl_r, a_nl_n, true_or, or_true, eq_self, a_isRA_22, a_isRA_24, a_isRA_32, a_isA_20, ok_4, ok_5, ok_6, ok_7, ok_9, ok_20, ok_21, ok_30, ok_50, ok_180, ok_192, ok_200, ui_ap, cc_ne, cc_n0, cc_0n, Nat.reduceEqDiff, reduceIte, if_true, if_false, k_8 hS, l_8 hS, z_8, e5, k11, hc', g0]
  repeat' first
    | with_reducible apply And.intro
    | exact hfin
    | (right; rfl)
    | decide
end KC
/-! the class: rings -/
section KG
variable {d n t C c n0 n' n'' t' : Nat} {K L K0 L0 K' L' K'' L'' : Nat → Nat} {I I0 J J0 J1 J2 : Nat → Nat → Int32} {R R0 R' R'' : Nat → Nat → Nat} {P : Option Value → AH → Prop}
theorem ck_circleTellh {q r w : Int32} (hr : 0 ≤ r ∧ r < 30) (hw : w = 0 ∨ w = 1) (hG : dGh C K L R I0 I) (hP : ∀ v J, dGh C K L R I0 J → P (some (.int v)) (n, t, K, L, J, R)) : a_does (d + 1) 148 [a_rf (C + 35), .int r, .int q, .int w] (n, t, K, L, I, R) P := by
  have hT := hG.1
  have hS := hT.s
  have hw : ∀ k v, dGh C K L R I0 (a_ui I (C + 36) k v) := fun k v => dG_36h hG
  rw [a_enter1 (M := a_m148) rfl (a_cat_rf (a_cat_int (a_cat_int (a_cat_int a_cat_nil)))) (show 4 ≤ 5 by decide)]
  show a_at _ (a_xm a_m148) 0 [some (a_rf (C + 35)), some (.int r), some (.int q), some (.int w), none] [] _ _
  repeat' first
    | with_reducible apply And.intro
    | with_reducible assumption
    | with_reducible intro _
    | with_reducible apply hP
    | with_reducible apply hw
    | simp only [q148_0, q148_1, q148_4, q148_5, q148_6, q148_7, q148_8, q148_9, q148_10, q148_13, q148_14, q148_17, q148_18, q148_20, q148_21, q148_24, q148_25, q148_28, q148_29, q148_30, q148_31, q148_32, q148_33, q148_34, q148_35, q148_36, q148_39, q148_40, q148_43, q148_44, q148_45, q148_46, q148_47, q148_48, q148_49, q148_50, q148_51, q148_52, q148_53, q148_55, q148_56, q148_59, q148_60, q148_63, q148_64, k_35 hS, z_35, r_35_1 hS, k_36 hS, l_36 hS, z_36, as_nil, as_i, as_r, Nat.reduceAdd, Nat.reduceLeDiff, z_eq0, z_eq1, z_or, z_em, Classical.not_not, not_false_eq_true, not_true_eq_false, true_and, and_true, false_and, and_false, and_self, true_implies, false_implies, implies_true, Option.toList_some, Option.toList_none, List.cons_append, List.nil_append, Nat.add_eq_zero_iff, a_nl_i, a_nl_r, a_nl_n, true_or, or_true, eq_self, a_isRA_22, a_isRA_24, a_isRA_32, a_isA_20, ok_4, ok_5, ok_6, ok_7, ok_9, ok_20, ok_21, ok_30, ok_50, ok_180, ok_192, ok_200, ui_ap, cc_ne, cc_n0, cc_0n, Nat.reduceEqDiff, reduceIte, if_true, if_false]
  all_goals ((try clear ih); (try clear hP); (try clear hl); (try clear hq); (try clear a3); grind [ui_ap])
end KG
/-! the class: public methods -/
section KI
variable {d n t C c n0 n' n'' t' : Nat} {K L K0 L0 K' L' K'' L'' : Nat → Nat} {I I0 J J0 J1 J2 : Nat → Nat → Int32} {R R0 R' R'' : Nat → Nat → Nat} {P : Option Value → AH → Prop}
theorem ck_refuseh (hZ : cZh C c n0 K0 L0 I0 R0 n t K L I R) {v : Int32} (hP : ∀ J, cZh C c n0 K0 L0 I0 R0 n t K L J R → P (some (.int v)) (n, t, K, L, J, R)) : a_does (d + 1) 10 [a_rf C, .int v] (n, t, K, L, I, R) P := by
  have hT := hZ.2.1.1
  have hS := hT.s
  have hw : ∀ k w, cZh C c n0 K0 L0 I0 R0 n t K L (a_ui I (C + 42) k w) R := fun k w => cZ_Gh hZ (dG_42h (dG_reflh hT))
  rw [a_enter1 (M := a_m10) rfl (a_cat_rf (a_cat_int a_cat_nil)) (show 2 ≤ 2 by decide)]
  show a_at _ (a_xm a_m10) 0 [some (a_rf C), some (.int v)] [] _ _
  repeat' first
    | with_reducible apply And.intro
    | with_reducible assumption
    | with_reducible intro _
    | with_reducible apply hP
    | with_reducible apply hw
    | simp only [q10_0, q10_1, q10_4, q10_5, q10_7, q10_10, q10_11, q10_14, q10_15, q10_16, q10_17, q10_18, q10_19, q10_20, q10_21, q10_22, k_0 hS, z_C hS, r_0_8 hS, k_42 hS, l_42 hS, z_42, as_nil, as_i, as_r, Nat.reduceAdd, Nat.reduceLeDiff, z_eq0, z_eq1, z_or, z_em, Classical.not_not, not_false_eq_true, not_true_eq_false, true_and, and_true, false_and, and_false, and_self, true_implies, false_implies, implies_true, Option.toList_some, Option.toList_none, List.cons_append, List.nil_append, Nat.add_eq_zero_iff, a_nl_i, a_nl_r, a_nl_n, true_or, or_true, eq_self, a_isRA_22, a_isRA_24, a_isRA_32, a_isA_20, ok_4, ok_5, ok_6, ok_7, ok_9, ok_20, ok_21, ok_30, ok_50, ok_180, ok_192, ok_200]
  all_goals ((try clear ih); (try clear hP); (try clear hl); (try clear hq); (try clear a3); grind [ui_ap])
theorem cu_shiftOfh (hH : cH C c (n + 1) t K L I R) {s w k : Int32} (hP : ∀ v n' t' K' L' J R', cZh C (c + 4) (n + 1) K L I R (n' + 1) t' K' L' J R' → P (some (.int v)) (n' + 1, t', K', L', J, R')) : a_does (d + 70) 17 [a_rf C, .int s, .int w, .int k] (n + 1, t, K, L, I, R) P := by
  have hT := hH.1
  have hS := hT.s
  have hZ := cZ_reflh hH
  have hq : ∀ v J R1, cZh C c (n + 1) K L I R (n + 1) t K L J R1 → P (some (.int v)) (n + 1, t, K, L, J, R1) := fun v J R1 z => hP v n t K L J R1 (cZ_leh z (by omega))
  clear hP
  have gA := hT.g_asksR
  have gB := hT.g_benchesR
  have gX := hT.g_textsR
  rw [a_enter1 (M := a_m17) rfl (a_cat_rf (a_cat_int (a_cat_int (a_cat_int a_cat_nil)))) (show 4 ≤ 4 by decide)]
  show a_at _ (a_xm a_m17) 0 [some (a_rf C), some (.int s), some (.int w), some (.int k)] [] _ _
  repeat' first
    | with_reducible apply And.intro
    | with_reducible assumption
    | with_reducible intro _
    | exact hq _ _ _ hZ
    | exact hq _ _ _ (by assumption)
    | exact hq _ _ _ (cZ_Ch hZ (by assumption))
    | exact hq _ _ _ (cZ_Gh hZ (by assumption))
    | refine ck_refuseh hZ (fun _ _ => ?_)
    | refine ck_refuseh (cZ_Ch hZ (by assumption)) (fun _ _ => ?_)
    | exact dC_T (by assumption)
    | exact dG_reflh hT
    | with_reducible apply ck_lostAsKnown hT
    | simp only [q17_0, q17_1, q17_4, q17_7, q17_8, q17_9, q17_12, q17_13, q17_14, q17_17, q17_18, q17_19, q17_22, q17_23, q17_25, q17_28, q17_29, q17_30, q17_33, q17_34, q17_36, q17_39, q17_40, q17_41, q17_42, q17_45, q17_48, q17_51, q17_52, q17_54, q17_57, q17_58, q17_59, q17_62, q17_63, q17_66, q17_69, q17_70, q17_71, q17_74, q17_75, q17_78, q17_79, q17_80, q17_83, k_0 hS, z_C hS, r_0_0 hS, k_1 hS, z_1, r_1_0 hS, k_2 hS, l_2 hS, z_2, sp_isShiftC, as_nil, as_i, as_r, Nat.reduceAdd, Nat.reduceLeDiff, z_eq0, z_eq1, z_or, z_em, Classical.not_not, not_false_eq_true, not_true_eq_false, true_and, and_true, false_and, and_false, and_self, true_implies, false_implies, implies_true, Option.toList_some, Option.toList_none, List.cons_append, List.nil_append, Nat.add_eq_zero_iff, a_nl_i, a_nl_r, a_nl_n, true_or, or_true, eq_self, a_isRA_22, a_isRA_24, a_isRA_32, a_isA_20, ok_4, ok_5, ok_6, ok_7, ok_9, ok_20, ok_21, ok_30, ok_50, ok_180, ok_192, ok_200]
  all_goals ((try clear ih); (try clear hP); (try clear hl); (try clear hq); (try clear hZ); (try clear hH); grind [ui_ap])
theorem cu_markOfh (hH : cH C c (n + 1) t K L I R) {q : Int32} (hP : ∀ v n' t' K' L' J R', cZh C (c + 4) (n + 1) K L I R (n' + 1) t' K' L' J R' → P (some (.int v)) (n' + 1, t', K', L', J, R')) : a_does (d + 70) 96 [a_rf C, .int q] (n + 1, t, K, L, I, R) P := by
  have hT := hH.1
  have hS := hT.s
  have hZ := cZ_reflh hH
  have hq : ∀ v J R1, cZh C c (n + 1) K L I R (n + 1) t K L J R1 → P (some (.int v)) (n + 1, t, K, L, J, R1) := fun v J R1 z => hP v n t K L J R1 (cZ_leh z (by omega))
  clear hP
  have gA := hT.g_asksR
  have gB := hT.g_benchesR
  have gX := hT.g_textsR
  have gi := gA q.toNatClampNeg
  have ga := fun h => hT.g_ask (R (C + 15) q.toNatClampNeg) (gi.resolve_left h)
  rw [a_enter1 (M := a_m96) rfl (a_cat_rf (a_cat_int a_cat_nil)) (show 2 ≤ 3 by decide)]
  show a_at _ (a_xm a_m96) 0 [some (a_rf C), some (.int q), none] [] _ _
  repeat' first
    | with_reducible apply And.intro
    | with_reducible assumption
    | with_reducible intro _
    | exact hq _ _ _ hZ
    | exact hq _ _ _ (by assumption)
    | exact hq _ _ _ (cZ_Ch hZ (by assumption))
    | exact hq _ _ _ (cZ_Gh hZ (by assumption))
    | refine ck_refuseh hZ (fun _ _ => ?_)
    | refine ck_refuseh (cZ_Ch hZ (by assumption)) (fun _ _ => ?_)
    | exact dC_T (by assumption)
    | exact dG_reflh hT
    | simp only [q96_0, q96_1, q96_4, q96_5, q96_8, q96_9, q96_10, q96_13, q96_14, q96_15, q96_18, q96_21, q96_22, q96_25, k_0 hS, z_C hS, r_0_4 hS, k_14 hS, z_14, sp_askAt hS gA, as_nil, as_i, as_r, Nat.reduceAdd, Nat.reduceLeDiff, z_eq0, z_eq1, z_or, z_em, Classical.not_not, not_false_eq_true, not_true_eq_false, true_and, and_true, false_and, and_false, and_self, true_implies, false_implies, implies_true, Option.toList_some, Option.toList_none, List.cons_append, List.nil_append, Nat.add_eq_zero_iff, a_nl_i, a_nl_r, a_nl_n, true_or, or_true, eq_self, a_isRA_22, a_isRA_24, a_isRA_32, a_isA_20, ok_4, ok_5, ok_6, ok_7, ok_9, ok_20, ok_21, ok_30, ok_50, ok_180, ok_192, ok_200]
  all_goals ((try clear ih); (try clear hP); (try clear hl); (try clear hq); (try clear hZ); (try clear hH); grind [ui_ap])
theorem cu_fith (hH : cH C c (n + 1) t K L I R) {q b s : Int32} (hP : ∀ v n' t' K' L' J R', cZh C (c + 4) (n + 1) K L I R (n' + 1) t' K' L' J R' → P (some (.int v)) (n' + 1, t', K', L', J, R')) : a_does (d + 70) 99 [a_rf C, .int q, .int b, .int s] (n + 1, t, K, L, I, R) P := by
  have hT := hH.1
  have hS := hT.s
  have hZ := cZ_reflh hH
  have hq : ∀ v J R1, cZh C c (n + 1) K L I R (n + 1) t K L J R1 → P (some (.int v)) (n + 1, t, K, L, J, R1) := fun v J R1 z => hP v n t K L J R1 (cZ_leh z (by omega))
  clear hP
  have gA := hT.g_asksR
  have gB := hT.g_benchesR
  have gX := hT.g_textsR
  have gi := gA q.toNatClampNeg
  have ga := fun h => hT.g_ask (R (C + 15) q.toNatClampNeg) (gi.resolve_left h)
  have gb := gB b.toNatClampNeg
  rw [a_enter1 (M := a_m99) rfl (a_cat_rf (a_cat_int (a_cat_int (a_cat_int a_cat_nil)))) (show 4 ≤ 5 by decide)]
  show a_at _ (a_xm a_m99) 0 [some (a_rf C), some (.int q), some (.int b), some (.int s), none] [] _ _
  repeat' first
    | with_reducible apply And.intro
    | with_reducible assumption
    | with_reducible intro _
    | exact hq _ _ _ hZ
    | exact hq _ _ _ (by assumption)
    | exact hq _ _ _ (cZ_Ch hZ (by assumption))
    | exact hq _ _ _ (cZ_Gh hZ (by assumption))
    | refine ck_refuseh hZ (fun _ _ => ?_)
    | refine ck_refuseh (cZ_Ch hZ (by assumption)) (fun _ _ => ?_)
    | exact dC_T (by assumption)
    | exact dG_reflh hT
    | with_reducible apply ck_firstBar ?_ hT
    | simp only [q99_0, q99_1, q99_4, q99_5, q99_8, q99_10, q99_12, q99_15, q99_16, q99_19, q99_20, q99_23, q99_26, q99_27, q99_30, q99_33, q99_34, q99_35, q99_38, q99_39, q99_40, q99_43, q99_45, q99_46, q99_47, q99_50, k_0 hS, z_C hS, r_0_4 hS, k_14 hS, z_14, sp_askAt hS gA, sp_benchAt hS gB, sp_isShiftC, as_nil, as_i, as_r, Nat.reduceAdd, Nat.reduceLeDiff, z_eq0, z_eq1, z_or, z_em, Classical.not_not, not_false_eq_true, not_true_eq_false, true_and, and_true, false_and, and_false, and_self, true_implies, false_implies, implies_true, Option.toList_some, Option.toList_none, List.cons_append, List.nil_append, Nat.add_eq_zero_iff, a_nl_i, a_nl_r, a_nl_n, true_or, or_true, eq_self, a_isRA_22, a_isRA_24, a_isRA_32, a_isA_20, ok_4, ok_5, ok_6, ok_7, ok_9, ok_20, ok_21, ok_30, ok_50, ok_180, ok_192, ok_200]
  all_goals ((try clear ih); (try clear hP); (try clear hl); (try clear hq); (try clear hZ); (try clear hH); grind [ui_ap])
theorem cu_whyh (hH : cH C c (n + 1) t K L I R) {q b s x y : Int32} (hP : ∀ v n' t' K' L' J R', cZh C (c + 4) (n + 1) K L I R (n' + 1) t' K' L' J R' → P (some (.int v)) (n' + 1, t', K', L', J, R')) : a_does (d + 70) 127 [a_rf C, .int q, .int b, .int s, .int x, .int y] (n + 1, t, K, L, I, R) P := by
  have hT := hH.1
  have hS := hT.s
  have hZ := cZ_reflh hH
  have hq : ∀ v J R1, cZh C c (n + 1) K L I R (n + 1) t K L J R1 → P (some (.int v)) (n + 1, t, K, L, J, R1) := fun v J R1 z => hP v n t K L J R1 (cZ_leh z (by omega))
  clear hP
  have gA := hT.g_asksR
  have gB := hT.g_benchesR
  have gX := hT.g_textsR
  have gi := gA q.toNatClampNeg
  have ga := fun h => hT.g_ask (R (C + 15) q.toNatClampNeg) (gi.resolve_left h)
  have gb := gB b.toNatClampNeg
  rw [a_enter1 (M := a_m127) rfl (a_cat_rf (a_cat_int (a_cat_int (a_cat_int (a_cat_int (a_cat_int a_cat_nil)))))) (show 6 ≤ 8 by decide)]
  show a_at _ (a_xm a_m127) 0 [some (a_rf C), some (.int q), some (.int b), some (.int s), some (.int x), some (.int y), none, none] [] _ _
  repeat' first
    | with_reducible apply And.intro
    | with_reducible assumption
    | with_reducible intro _
    | exact hq _ _ _ hZ
    | exact hq _ _ _ (by assumption)
    | exact hq _ _ _ (cZ_Ch hZ (by assumption))
    | exact hq _ _ _ (cZ_Gh hZ (by assumption))
    | refine ck_refuseh hZ (fun _ _ => ?_)
    | refine ck_refuseh (cZ_Ch hZ (by assumption)) (fun _ _ => ?_)
    | exact dC_T (by assumption)
    | exact dG_reflh hT
    | with_reducible apply ck_firstBar ?_ hT
    | with_reducible apply ck_isInShare
    | simp only [q127_0, q127_1, q127_4, q127_5, q127_8, q127_10, q127_12, q127_15, q127_16, q127_19, q127_20, q127_23, q127_26, q127_28, q127_30, q127_33, q127_36, q127_37, q127_39, q127_42, q127_43, q127_45, q127_48, q127_49, q127_50, q127_53, q127_54, q127_55, q127_58, q127_60, q127_61, q127_62, q127_65, q127_67, q127_69, q127_72, q127_73, q127_76, q127_78, q127_80, q127_82, q127_85, q127_88, q127_90, q127_93, q127_95, k_0 hS, z_C hS, r_0_4 hS, k_14 hS, z_14, r_0_5 hS, k_22 hS, z_22, sp_askAt hS gA, sp_benchAt hS gB, sp_areShifts, as_nil, as_i, as_r, Nat.reduceAdd, Nat.reduceLeDiff, z_eq0, z_eq1, z_or, z_em, Classical.not_not, not_false_eq_true, not_true_eq_false, true_and, and_true, false_and, and_false, and_self, true_implies, false_implies, implies_true, Option.toList_some, Option.toList_none, List.cons_append, List.nil_append, Nat.add_eq_zero_iff, a_nl_i, a_nl_r, a_nl_n, true_or, or_true, eq_self, a_isRA_22, a_isRA_24, a_isRA_32, a_isA_20, ok_4, ok_5, ok_6, ok_7, ok_9, ok_20, ok_21, ok_30, ok_50, ok_180, ok_192, ok_200]
  all_goals ((try clear ih); (try clear hP); (try clear hl); (try clear hq); (try clear hZ); (try clear hH); grind [ui_ap])
end KI
/-! the class: public methods that give -/
section KJ
variable {d n t C c n0 n' n'' t' : Nat} {K L K0 L0 K' L' K'' L'' : Nat → Nat} {I I0 J J0 J1 J2 : Nat → Nat → Int32} {R R0 R' R'' : Nat → Nat → Nat} {P : Option Value → AH → Prop}
theorem cu_markh (hH : cH C c (n + 1) t K L I R) {r q v : Int32} (hP : ∀ v n' t' K' L' J R', cZh C (c + 4) (n + 1) K L I R (n' + 1) t' K' L' J R' → P (some (.int v)) (n' + 1, t', K', L', J, R')) : a_does (d + 70) 92 [a_rf C, .int r, .int q, .int v] (n + 1, t, K, L, I, R) P := by
  have hT := hH.1
  have hS := hT.s
  have hZ := cZ_reflh hH
  have hq : ∀ v J R1, cZh C c (n + 1) K L I R (n + 1) t K L J R1 → P (some (.int v)) (n + 1, t, K, L, J, R1) := fun v J R1 z => hP v n t K L J R1 (cZ_leh z (by omega))
  clear hP
  have gA := hT.g_asksR
  have gB := hT.g_benchesR
  have gX := hT.g_textsR
  have gi := gA q.toNatClampNeg
  have ga := fun h => hT.g_ask (R (C + 15) q.toNatClampNeg) (gi.resolve_left h)
  rw [a_enter1 (M := a_m92) rfl (a_cat_rf (a_cat_int (a_cat_int (a_cat_int a_cat_nil)))) (show 4 ≤ 5 by decide)]
  show a_at _ (a_xm a_m92) 0 [some (a_rf C), some (.int r), some (.int q), some (.int v), none] [] _ _
  repeat' first
    | with_reducible apply And.intro
    | with_reducible assumption
    | with_reducible intro _
    | exact hq _ _ _ hZ
    | exact hq _ _ _ (by assumption)
    | exact hq _ _ _ (cZ_Ch hZ (by assumption))
    | exact hq _ _ _ (cZ_Gh hZ (by assumption))
    | refine ck_refuseh hZ (fun _ _ => ?_)
    | refine ck_refuseh (cZ_Ch hZ (by assumption)) (fun _ _ => ?_)
    | exact dC_T (by assumption)
    | exact dG_reflh hT
    | exact ck_tellh (gi.resolve_left (by assumption)) (dG_reflh hT) (by assumption) (fun _ _ _ => by assumption)
    | refine ck_tellh (gi.resolve_left (by assumption)) (dG_reflh hT) (by assumption) (fun _ _ _ => ?_)
    | with_reducible apply ck_isTold hS
    | with_reducible apply ck_toldOf hS
    | simp only [q92_0, q92_1, q92_4, q92_5, q92_8, q92_10, q92_11, q92_14, q92_17, q92_19, q92_22, q92_23, q92_24, q92_27, q92_28, q92_29, q92_32, q92_33, q92_34, q92_37, q92_40, q92_41, q92_44, q92_45, q92_48, q92_49, q92_52, q92_53, q92_55, q92_58, q92_59, q92_60, q92_63, q92_64, q92_66, q92_69, q92_70, q92_71, q92_73, q92_76, q92_77, q92_79, q92_82, q92_83, q92_84, q92_87, q92_88, q92_90, q92_91, q92_94, q92_97, q92_98, q92_101, q92_102, k_0 hS, z_C hS, r_0_4 hS, k_14 hS, z_14, r_0_3 hS, k_17 hS, z_17, sp_askAt hS gA, sp_isReaderC, as_nil, as_i, as_r, Nat.reduceAdd, Nat.reduceLeDiff, z_eq0, z_eq1, z_or, z_em, Classical.not_not, not_false_eq_true, not_true_eq_false, true_and, and_true, false_and, and_false, and_self, true_implies, false_implies, implies_true, Option.toList_some, Option.toList_none, List.cons_append, List.nil_append, Nat.add_eq_zero_iff, a_nl_i, a_nl_r, a_nl_n, true_or, or_true, eq_self, a_isRA_22, a_isRA_24, a_isRA_32, a_isA_20, ok_4, ok_5, ok_6, ok_7, ok_9, ok_20, ok_21, ok_30, ok_50, ok_180, ok_192, ok_200]
  all_goals ((try clear ih); (try clear hP); (try clear hl); (try clear hq); (try clear hZ); (try clear hH); grind [ui_ap])
theorem cu_wishh (hH : cH C c (n + 1) t K L I R) {q r w : Int32} (hw : w = 0 ∨ w = 1) (hP : ∀ v n' t' K' L' J R', cZh C (c + 4) (n + 1) K L I R (n' + 1) t' K' L' J R' → P (some (.int v)) (n' + 1, t', K', L', J, R')) : a_does (d + 70) 147 [a_rf C, .int q, .int r, .int w] (n + 1, t, K, L, I, R) P := by
  have hT := hH.1
  have hS := hT.s
  have hZ := cZ_reflh hH
  have hq : ∀ v J R1, cZh C c (n + 1) K L I R (n + 1) t K L J R1 → P (some (.int v)) (n + 1, t, K, L, J, R1) := fun v J R1 z => hP v n t K L J R1 (cZ_leh z (by omega))
  clear hP
  have gA := hT.g_asksR
  have gB := hT.g_benchesR
  have gX := hT.g_textsR
  have gi := gA q.toNatClampNeg
  have gj := gA r.toNatClampNeg
  rw [a_enter1 (M := a_m147) rfl (a_cat_rf (a_cat_int (a_cat_int (a_cat_int a_cat_nil)))) (show 4 ≤ 4 by decide)]
  show a_at _ (a_xm a_m147) 0 [some (a_rf C), some (.int q), some (.int r), some (.int w)] [] _ _
  repeat' first
    | with_reducible apply And.intro
    | with_reducible assumption
    | with_reducible intro _
    | exact hq _ _ _ hZ
    | exact hq _ _ _ (by assumption)
    | exact hq _ _ _ (cZ_Ch hZ (by assumption))
    | exact hq _ _ _ (cZ_Gh hZ (by assumption))
    | refine ck_refuseh hZ (fun _ _ => ?_)
    | refine ck_refuseh (cZ_Ch hZ (by assumption)) (fun _ _ => ?_)
    | exact dC_T (by assumption)
    | exact dG_reflh hT
    | refine ck_circleTellh (I0 := I) ?_ hw (dG_reflh hT) (fun _ _ _ => ?_)
    | simp only [q147_0, q147_1, q147_4, q147_5, q147_8, q147_11, q147_12, q147_15, q147_16, q147_19, q147_22, q147_23, q147_24, q147_27, q147_28, q147_29, q147_32, q147_33, q147_34, q147_37, q147_38, q147_39, q147_40, q147_43, q147_46, q147_47, q147_50, q147_51, k_0 hS, z_C hS, r_0_4 hS, k_14 hS, z_14, r_0_7 hS, k_35 hS, z_35, sp_askAt hS gA, as_nil, as_i, as_r, Nat.reduceAdd, Nat.reduceLeDiff, z_eq0, z_eq1, z_or, z_em, Classical.not_not, not_false_eq_true, not_true_eq_false, true_and, and_true, false_and, and_false, and_self, true_implies, false_implies, implies_true, Option.toList_some, Option.toList_none, List.cons_append, List.nil_append, Nat.add_eq_zero_iff, a_nl_i, a_nl_r, a_nl_n, true_or, or_true, eq_self, a_isRA_22, a_isRA_24, a_isRA_32, a_isA_20, ok_4, ok_5, ok_6, ok_7, ok_9, ok_20, ok_21, ok_30, ok_50, ok_180, ok_192, ok_200]
  all_goals ((try clear ih); (try clear hP); (try clear hl); (try clear hq); (try clear hZ); (try clear hH); grind [ui_ap])
end KJ
/-! the class: public methods that make something -/
section KK
variable {d n t C c n0 n' n'' t' : Nat} {K L K0 L0 K' L' K'' L'' : Nat → Nat} {I I0 J J0 J1 J2 : Nat → Nat → Int32} {R R0 R' R'' : Nat → Nat → Nat} {P : Option Value → AH → Prop}
theorem cu_drafth (hH : cH C c (n + 1) t K L I R) {g l m w : Int32} (hP : ∀ v n' t' K' L' J R', cZh C (c + 4) (n + 1) K L I R (n' + 1) t' K' L' J R' → P (some (.int v)) (n' + 1, t', K', L', J, R')) : a_does (d + 70) 36 [a_rf C, .int g, .int l, .int m, .int w] (n + 1, t, K, L, I, R) P := by
  have hT := hH.1
  have hS := hT.s
  have hZ := cZ_reflh hH
  have hq : ∀ v J R1, cZh C c (n + 1) K L I R (n + 1) t K L J R1 → P (some (.int v)) (n + 1, t, K, L, J, R1) := fun v J R1 z => hP v n t K L J R1 (cZ_leh z (by omega))
  have hA : ∀ v n' t' K' L' J R', cZh C c (n + 1) K L I R (n' + 1) t' K' L' J R' → P (some (.int v)) (n' + 1, t', K', L', J, R') := fun v n' t' K' L' J R' z => hP v n' t' K' L' J R' (cZ_leh z (by omega))
  have hB : ∀ v n' t' K' L' J R', cZh C (c + 1) (n + 1) K L I R (n' + 1) t' K' L' J R' → P (some (.int v)) (n' + 1, t', K', L', J, R') := fun v n' t' K' L' J R' z => hP v n' t' K' L' J R' (cZ_leh z (by omega))
  have hB2 : ∀ v n' t' K' L' J R', cZh C (c + 1 + 1) (n + 1) K L I R (n' + 1) t' K' L' J R' → P (some (.int v)) (n' + 1, t', K', L', J, R') := fun v n' t' K' L' J R' z => hP v n' t' K' L' J R' (cZ_leh z (by omega))
  clear hP
  have f0 : (n + 1 = 0) = False := eq_false (by omega)
  have hC := hH.2.2.1
  have nC : (C = n + 1) = False := eq_false (by omega)
  have hgo : (1 ≤ m ∧ m ≤ 4) → a_at (d + 69) (a_xm a_m36) 61 [some (a_rf C), some (.int g), some (.int l), some (.int m), some (.int w)] [] (n + 1, t, K, L, I, R) P := fun hm => by
    simp only [q36_61, q36_62, q36_65, q36_66, q36_67, q36_68, q36_69, q36_71, as_nil, as_i, as_r, Nat.reduceAdd, Nat.reduceLeDiff, z_eq0, z_eq1, z_or, z_em, Classical.not_not, not_false_eq_true, not_true_eq_false, true_and, and_true, false_and, and_false, and_self, true_implies, false_implies, implies_true, Option.toList_some, Option.toList_none, List.cons_append, List.nil_append, Nat.add_eq_zero_iff, a_nl_i, a_nl_r, a_nl_n, true_or, or_true, eq_self, a_isRA_22, a_isRA_24, a_isRA_32, a_isA_20, ok_4, ok_5, ok_6, ok_7, ok_9, ok_20, ok_21, ok_30, ok_50, ok_180, ok_192, ok_200, f0]
    refine ck_Ainith hZ hm (fun t' K' L' J R' z k1 k2 => ?_)
    have hS := z.2.1.1.s
    simp only [q36_74, q36_77, q36_78, k_0 hS, z_C hS, as_nil, as_i, as_r, Nat.reduceAdd, Nat.reduceLeDiff, z_eq0, z_eq1, z_or, z_em, Classical.not_not, not_false_eq_true, not_true_eq_false, true_and, and_true, false_and, and_false, and_self, true_implies, false_implies, implies_true, Option.toList_some, Option.toList_none, List.cons_append, List.nil_append, Nat.add_eq_zero_iff, a_nl_i, a_nl_r, a_nl_n, true_or, or_true, eq_self, a_isRA_22, a_isRA_24, a_isRA_32, a_isA_20, ok_4, ok_5, ok_6, ok_7, ok_9, ok_20, ok_21, ok_30, ok_50, ok_180, ok_192, ok_200, ui_ap, cc_ne, cc_n0, cc_0n, Nat.reduceEqDiff, reduceIte, if_true, if_false]
    exact hB _ _ _ _ _ _ _ (cZ_Rdh z (Or.inr k1))
  rw [a_enter1 (M := a_m36) rfl (a_cat_rf (a_cat_int (a_cat_int (a_cat_int (a_cat_int a_cat_nil))))) (show 5 ≤ 5 by decide)]
  show a_at _ (a_xm a_m36) 0 [some (a_rf C), some (.int g), some (.int l), some (.int m), some (.int w)] [] _ _
  repeat' first
    | with_reducible apply And.intro
    | with_reducible assumption
    | with_reducible intro _
    | exact hq _ _ _ hZ
    | exact hq _ _ _ (by assumption)
    | exact hq _ _ _ (cZ_Ch hZ (by assumption))
    | exact hq _ _ _ (cZ_Gh hZ (by assumption))
    | refine ck_refuseh hZ (fun _ _ => ?_)
    | refine ck_refuseh (cZ_Ch hZ (by assumption)) (fun _ _ => ?_)
    | exact dC_T (by assumption)
    | exact dG_reflh hT
    | with_reducible apply hgo
    | simp only [q36_0, q36_1, q36_4, q36_5, q36_7, q36_10, q36_11, q36_14, q36_15, q36_16, q36_19, q36_20, q36_21, q36_24, q36_25, q36_26, q36_27, q36_30, q36_32, q36_35, q36_36, q36_38, q36_41, q36_42, q36_43, q36_44, q36_47, q36_49, q36_51, q36_54, q36_55, q36_57, q36_60, k_0 hS, z_C hS, as_nil, as_i, as_r, Nat.reduceAdd, Nat.reduceLeDiff, z_eq0, z_eq1, z_or, z_em, Classical.not_not, not_false_eq_true, not_true_eq_false, true_and, and_true, false_and, and_false, and_self, true_implies, false_implies, implies_true, Option.toList_some, Option.toList_none, List.cons_append, List.nil_append, Nat.add_eq_zero_iff, a_nl_i, a_nl_r, a_nl_n, true_or, or_true, eq_self, a_isRA_22, a_isRA_24, a_isRA_32, a_isA_20, ok_4, ok_5, ok_6, ok_7, ok_9, ok_20, ok_21, ok_30, ok_50, ok_180, ok_192, ok_200]
  all_goals ((try clear hgo); (try clear hq); (try clear hA); (try clear hB); (try clear hB2); (try clear hZ); (try clear hH); (try clear hT); grind [ui_ap])
theorem ck_addAsk2h {a : Nat} (ha : K a = 1) (hZ : cZh C c n0 K0 L0 I0 R0 n t K L I R) (hP : ∀ v J R', cZh C c n0 K0 L0 I0 R0 n t K L J R' → P (some (.int v)) (n, t, K, L, J, R')) : a_does (d + 1) 43 [a_rf (C + 14), a_rf a] (n, t, K, L, I, R) P := by
  by_cases hc : 30 ≤ I (C + 14) 4
  · have hS := hZ.2.1.1.s
    rw [a_enter1 (M := a_m43) rfl (a_cat_rf (a_cat_rf a_cat_nil)) (show 2 ≤ 2 by decide)]
    show a_at _ (a_xm a_m43) 0 [some (a_rf (C + 14)), some (a_rf a)] [] _ _
    have hc2 : ¬ I (C + 14) 4 < 30 := Int32.not_lt.mpr hc
    have h0 := fun v => hP v I R hZ
    simp only [q43_0, q43_1, q43_4, q43_6, q43_9, q43_11, k_14 hS, z_14, as_nil, as_i, as_r, Nat.reduceAdd, Nat.reduceLeDiff, z_eq0, z_eq1, z_or, z_em, Classical.not_not, not_false_eq_true, not_true_eq_false, true_and, and_true, false_and, and_false, and_self, true_implies, false_implies, implies_true, Option.toList_some, Option.toList_none, List.cons_append, List.nil_append, Nat.add_eq_zero_iff, a_nl_i, a_nl_r, a_nl_n, true_or, or_true, eq_self, a_isRA_22, a_isRA_24, a_isRA_32, a_isA_20, ok_4, ok_5, ok_6, ok_7, ok_9, ok_20, ok_21, ok_30, ok_50, ok_180, ok_192, ok_200, hc, hc2]
    first
      | exact h0 _
      | exact ⟨fun h => absurd h hc2, fun _ => h0 _⟩
  · exact ck_addAskh ha hZ hc hP
theorem cu_askh (hH : cH C c (n + 1) t K L I R) {k bs ms g dg x y : Int32} (hP : ∀ v n' t' K' L' J R', cZh C (c + 4) (n + 1) K L I R (n' + 1) t' K' L' J R' → P (some (.int v)) (n' + 1, t', K', L', J, R')) : a_does (d + 70) 38 [a_rf C, .int k, .int bs, .int ms, .int g, .int dg, .int x, .int y] (n + 1, t, K, L, I, R) P := by
  have hT := hH.1
  have hS := hT.s
  have hZ := cZ_reflh hH
  have hq : ∀ v J R1, cZh C c (n + 1) K L I R (n + 1) t K L J R1 → P (some (.int v)) (n + 1, t, K, L, J, R1) := fun v J R1 z => hP v n t K L J R1 (cZ_leh z (by omega))
  have hA : ∀ v n' t' K' L' J R', cZh C c (n + 1) K L I R (n' + 1) t' K' L' J R' → P (some (.int v)) (n' + 1, t', K', L', J, R') := fun v n' t' K' L' J R' z => hP v n' t' K' L' J R' (cZ_leh z (by omega))
  have hB : ∀ v n' t' K' L' J R', cZh C (c + 1) (n + 1) K L I R (n' + 1) t' K' L' J R' → P (some (.int v)) (n' + 1, t', K', L', J, R') := fun v n' t' K' L' J R' z => hP v n' t' K' L' J R' (cZ_leh z (by omega))
  have hB2 : ∀ v n' t' K' L' J R', cZh C (c + 1 + 1) (n + 1) K L I R (n' + 1) t' K' L' J R' → P (some (.int v)) (n' + 1, t', K', L', J, R') := fun v n' t' K' L' J R' z => hP v n' t' K' L' J R' (cZ_leh z (by omega))
  clear hP
  have gA := hT.g_asksR
  have gB := hT.g_benchesR
  have gX := hT.g_textsR
  have gd := hT.g_draft
  have gi := gA x.toNatClampNeg
  have hgo : ¬ R C 11 = 0 → ∀ u, a_at (d + 69) (a_xm a_m38) 152 [some (a_rf C), some (.int k), some (.int bs), some (.int ms), some (.int g), some (.int dg), some (.int x), some (.int y), u] [] (n + 1, t, K, L, I, R) P := fun h0 u => by
    have ha := gd.resolve_left h0
    have a1 := (hT.g_ask _ ha).1
    simp only [q38_152, q38_153, q38_156, q38_158, q38_160, q38_161, q38_162, q38_164, q38_166, k_0 hS, z_C hS, as_nil, as_i, as_r, Nat.reduceAdd, Nat.reduceLeDiff, z_eq0, z_eq1, z_or, z_em, Classical.not_not, not_false_eq_true, not_true_eq_false, true_and, and_true, false_and, and_false, and_self, true_implies, false_implies, implies_true, Option.toList_some, Option.toList_none, List.cons_append, List.nil_append, Nat.add_eq_zero_iff, a_nl_i, a_nl_r, a_nl_n, true_or, or_true, eq_self, a_isRA_22, a_isRA_24, a_isRA_32, a_isA_20, ok_4, ok_5, ok_6, ok_7, ok_9, ok_20, ok_21, ok_30, ok_50, ok_180, ok_192, ok_200, ha, h0]
    refine ck_wanth ha (dG_reflh hT) (fun J1 g1 => ?_)
    simp only [q38_169, q38_171, q38_172, q38_174, q38_176, k_0 hS, z_C hS, as_nil, as_i, as_r, Nat.reduceAdd, Nat.reduceLeDiff, z_eq0, z_eq1, z_or, z_em, Classical.not_not, not_false_eq_true, not_true_eq_false, true_and, and_true, false_and, and_false, and_self, true_implies, false_implies, implies_true, Option.toList_some, Option.toList_none, List.cons_append, List.nil_append, Nat.add_eq_zero_iff, a_nl_i, a_nl_r, a_nl_n, true_or, or_true, eq_self, a_isRA_22, a_isRA_24, a_isRA_32, a_isA_20, ok_4, ok_5, ok_6, ok_7, ok_9, ok_20, ok_21, ok_30, ok_50, ok_180, ok_192, ok_200, ha, h0]
    refine ck_bindh ha g1 (fun J2 g2 => ?_)
    have z2 := cZ_Rdh (v := 0) (cZ_Gh hZ g2) (Or.inl rfl)
    have e0 : a_rf 0 = .null := rfl
    simp only [q38_179, q38_180, q38_181, q38_184, q38_185, q38_188, q38_190, k_0 hS, z_C hS, r_0_4 hS, k_14 hS, z_14, as_nil, as_i, as_r, Nat.reduceAdd, Nat.reduceLeDiff, z_eq0, z_eq1, z_or, z_em, Classical.not_not, not_false_eq_true, not_true_eq_false, true_and, and_true, false_and, and_false, and_self, true_implies, false_implies, implies_true, Option.toList_some, Option.toList_none, List.cons_append, List.nil_append, Nat.add_eq_zero_iff, a_nl_i, a_nl_r, a_nl_n, true_or, or_true, eq_self, a_isRA_22, a_isRA_24, a_isRA_32, a_isA_20, ok_4, ok_5, ok_6, ok_7, ok_9, ok_20, ok_21, ok_30, ok_50, ok_180, ok_192, ok_200, ur_ap, cc_ne, cc_n0, cc_0n, Nat.reduceEqDiff, if_false, ha, h0]
    refine ck_addAsk2h ha z2 (fun v J4 R4 z5 => ?_)
    simp only [q38_193, as_nil, as_i, as_r, Nat.reduceAdd, Nat.reduceLeDiff, z_eq0, z_eq1, z_or, z_em, Classical.not_not, not_false_eq_true, not_true_eq_false, true_and, and_true, false_and, and_false, and_self, true_implies, false_implies, implies_true, Option.toList_some, Option.toList_none, List.cons_append, List.nil_append, Nat.add_eq_zero_iff, a_nl_i, a_nl_r, a_nl_n, true_or, or_true, eq_self, a_isRA_22, a_isRA_24, a_isRA_32, a_isA_20, ok_4, ok_5, ok_6, ok_7, ok_9, ok_20, ok_21, ok_30, ok_50, ok_180, ok_192, ok_200]
    exact hq _ _ _ z5
  rw [a_enter1 (M := a_m38) rfl (a_cat_rf (a_cat_int (a_cat_int (a_cat_int (a_cat_int (a_cat_int (a_cat_int (a_cat_int a_cat_nil)))))))) (show 8 ≤ 9 by decide)]
  show a_at _ (a_xm a_m38) 0 [some (a_rf C), some (.int k), some (.int bs), some (.int ms), some (.int g), some (.int dg), some (.int x), some (.int y), none] [] _ _
  repeat' first
    | with_reducible apply And.intro
    | with_reducible assumption
    | with_reducible intro _
    | exact hq _ _ _ hZ
    | exact hq _ _ _ (by assumption)
    | exact hq _ _ _ (cZ_Ch hZ (by assumption))
    | exact hq _ _ _ (cZ_Gh hZ (by assumption))
    | refine ck_refuseh hZ (fun _ _ => ?_)
    | refine ck_refuseh (cZ_Ch hZ (by assumption)) (fun _ _ => ?_)
    | exact dC_T (by assumption)
    | exact dG_reflh hT
    | with_reducible apply ck_daysBelow
    | with_reducible apply ck_daysAbove
    | with_reducible apply hgo
    | simp only [q38_0, q38_1, q38_4, q38_7, q38_8, q38_10, q38_13, q38_14, q38_15, q38_18, q38_19, q38_20, q38_23, q38_24, q38_26, q38_29, q38_30, q38_31, q38_34, q38_35, q38_38, q38_40, q38_43, q38_44, q38_46, q38_48, q38_51, q38_54, q38_55, q38_57, q38_60, q38_61, q38_62, q38_64, q38_67, q38_68, q38_70, q38_73, q38_75, q38_77, q38_80, q38_81, q38_83, q38_85, q38_88, q38_91, q38_92, q38_95, q38_98, q38_100, q38_103, q38_104, q38_106, q38_109, q38_110, q38_112, q38_113, q38_116, q38_118, q38_120, q38_123, q38_124, q38_125, q38_128, q38_129, q38_130, q38_131, q38_134, q38_135, q38_138, q38_140, q38_143, q38_146, q38_147, q38_148, q38_151, k_0 hS, z_C hS, r_0_4 hS, k_14 hS, z_14, sp_askAt hS gA, as_nil, as_i, as_r, Nat.reduceAdd, Nat.reduceLeDiff, z_eq0, z_eq1, z_or, z_em, Classical.not_not, not_false_eq_true, not_true_eq_false, true_and, and_true, false_and, and_false, and_self, true_implies, false_implies, implies_true, Option.toList_some, Option.toList_none, List.cons_append, List.nil_append, Nat.add_eq_zero_iff, a_nl_i, a_nl_r, a_nl_n, true_or, or_true, eq_self, a_isRA_22, a_isRA_24, a_isRA_32, a_isA_20, ok_4, ok_5, ok_6, ok_7, ok_9, ok_20, ok_21, ok_30, ok_50, ok_180, ok_192, ok_200]
  all_goals ((try clear hgo); (try clear hq); (try clear hA); (try clear hB); (try clear hB2); (try clear hZ); (try clear hH); (try clear hT); grind [ui_ap])
theorem cu_oweh (hH : cH C c (n + 1) t K L I R) {q : Int32} (hP : ∀ v n' t' K' L' J R', cZh C (c + 4) (n + 1) K L I R (n' + 1) t' K' L' J R' → P (some (.int v)) (n' + 1, t', K', L', J, R')) : a_does (d + 70) 141 [a_rf C, .int q] (n + 1, t, K, L, I, R) P := by
  have hT := hH.1
  have hS := hT.s
  have hZ := cZ_reflh hH
  have hq : ∀ v J R1, cZh C c (n + 1) K L I R (n + 1) t K L J R1 → P (some (.int v)) (n + 1, t, K, L, J, R1) := fun v J R1 z => hP v n t K L J R1 (cZ_leh z (by omega))
  have hA : ∀ v n' t' K' L' J R', cZh C c (n + 1) K L I R (n' + 1) t' K' L' J R' → P (some (.int v)) (n' + 1, t', K', L', J, R') := fun v n' t' K' L' J R' z => hP v n' t' K' L' J R' (cZ_leh z (by omega))
  have hB : ∀ v n' t' K' L' J R', cZh C (c + 1) (n + 1) K L I R (n' + 1) t' K' L' J R' → P (some (.int v)) (n' + 1, t', K', L', J, R') := fun v n' t' K' L' J R' z => hP v n' t' K' L' J R' (cZ_leh z (by omega))
  have hB2 : ∀ v n' t' K' L' J R', cZh C (c + 1 + 1) (n + 1) K L I R (n' + 1) t' K' L' J R' → P (some (.int v)) (n' + 1, t', K', L', J, R') := fun v n' t' K' L' J R' z => hP v n' t' K' L' J R' (cZ_leh z (by omega))
  clear hP
  have gA := hT.g_asksR
  have gB := hT.g_benchesR
  have gX := hT.g_textsR
  have gi := gA q.toNatClampNeg
  have ga := fun h => hT.g_ask (R (C + 15) q.toNatClampNeg) (gi.resolve_left h)
  have hgo : ¬ R (C + 15) q.toNatClampNeg = 0 → ∀ J1, dC C K L R I J1 → ¬ hw C L R I (R (C + 15) q.toNatClampNeg) = 0 → a_at (d + 69) (a_xm a_m141) 74 [some (a_rf C), some (.int q), some (a_rf (R (C + 15) q.toNatClampNeg))] [] (n + 1, t, K, L, J1, R) P := fun h0 J1 j1 hv => by
    have ha := gi.resolve_left h0
    have a1 := (ga h0).1
    have hT1 := j1.1
    have z1 := cZ_Ch hZ j1
    have g2 : dGh C K L R J1 (a_ui J1 (R (C + 15) q.toNatClampNeg) 16 1) := dG_askfh (dG_reflh hT1) a1 ha (by decide)
    have z2 := cZ_Gh z1 g2
    have e1 : hw C L R (a_ui J1 (R (C + 15) q.toNatClampNeg) 16 1) (R (C + 15) q.toNatClampNeg) = hw C L R I (R (C + 15) q.toNatClampNeg) := (hw_ui ha hT1).trans (hw_C j1 ha hT)
    have hr := hw_rng ha hT
    have hm : 1 ≤ hw C L R I (R (C + 15) q.toNatClampNeg) ∧ hw C L R I (R (C + 15) q.toNatClampNeg) ≤ 4 := by
      generalize hw C L R I (R (C + 15) q.toNatClampNeg) = w at hv hr
      clear hq hA hB hB2 hZ hH hT hT1 z1 z2 g2 ga gi gA gB gX e1
      grind
    simp only [q141_74, q141_75, q141_76, q141_79, q141_80, q141_83, q141_84, q141_85, q141_88, q141_89, k_0 hS, z_C hS, r_0_4 hS, k_14 hS, z_14, as_nil, as_i, as_r, Nat.reduceAdd, Nat.reduceLeDiff, z_eq0, z_eq1, z_or, z_em, Classical.not_not, not_false_eq_true, not_true_eq_false, true_and, and_true, false_and, and_false, and_self, true_implies, false_implies, implies_true, Option.toList_some, Option.toList_none, List.cons_append, List.nil_append, Nat.add_eq_zero_iff, a_nl_i, a_nl_r, a_nl_n, true_or, or_true, eq_self, a_isRA_22, a_isRA_24, a_isRA_32, a_isA_20, ok_4, ok_5, ok_6, ok_7, ok_9, ok_20, ok_21, ok_30, ok_50, ok_180, ok_192, ok_200, ui_ap, cc_ne, cc_n0, cc_0n, Nat.reduceEqDiff, reduceIte, if_true, if_false, ha, h0]
    refine ck_hallOwed ha g2.1 (fun J3 j3 => ?_)
    have z3 := cZ_Ch z2 j3
    rw [e1]
    simp only [q141_92, k_0 hS, z_C hS, as_nil, as_i, as_r, Nat.reduceAdd, Nat.reduceLeDiff, z_eq0, z_eq1, z_or, z_em, Classical.not_not, not_false_eq_true, not_true_eq_false, true_and, and_true, false_and, and_false, and_self, true_implies, false_implies, implies_true, Option.toList_some, Option.toList_none, List.cons_append, List.nil_append, Nat.add_eq_zero_iff, a_nl_i, a_nl_r, a_nl_n, true_or, or_true, eq_self, a_isRA_22, a_isRA_24, a_isRA_32, a_isA_20, ok_4, ok_5, ok_6, ok_7, ok_9, ok_20, ok_21, ok_30, ok_50, ok_180, ok_192, ok_200, ha, h0]
    refine ck_owedOneh ha z3 hm (fun t' K' L' J' R' z4 k1 k2 => ?_)
    have hS := z4.2.1.1.s
    simp only [q141_95, k_0 hS, z_C hS, as_nil, as_i, as_r, Nat.reduceAdd, Nat.reduceLeDiff, z_eq0, z_eq1, z_or, z_em, Classical.not_not, not_false_eq_true, not_true_eq_false, true_and, and_true, false_and, and_false, and_self, true_implies, false_implies, implies_true, Option.toList_some, Option.toList_none, List.cons_append, List.nil_append, Nat.add_eq_zero_iff, a_nl_i, a_nl_r, a_nl_n, true_or, or_true, eq_self, a_isRA_22, a_isRA_24, a_isRA_32, a_isA_20, ok_4, ok_5, ok_6, ok_7, ok_9, ok_20, ok_21, ok_30, ok_50, ok_180, ok_192, ok_200]
    refine ⟨k_14 hS, ck_addAsk2h k1 z4 (fun v J4 R4 z5 => ?_)⟩
    simp only [q141_98, as_nil, as_i, as_r, Nat.reduceAdd, Nat.reduceLeDiff, z_eq0, z_eq1, z_or, z_em, Classical.not_not, not_false_eq_true, not_true_eq_false, true_and, and_true, false_and, and_false, and_self, true_implies, false_implies, implies_true, Option.toList_some, Option.toList_none, List.cons_append, List.nil_append, Nat.add_eq_zero_iff, a_nl_i, a_nl_r, a_nl_n, true_or, or_true, eq_self, a_isRA_22, a_isRA_24, a_isRA_32, a_isA_20, ok_4, ok_5, ok_6, ok_7, ok_9, ok_20, ok_21, ok_30, ok_50, ok_180, ok_192, ok_200]
    exact hB _ _ _ _ _ _ _ z5
  rw [a_enter1 (M := a_m141) rfl (a_cat_rf (a_cat_int a_cat_nil)) (show 2 ≤ 3 by decide)]
  show a_at _ (a_xm a_m141) 0 [some (a_rf C), some (.int q), none] [] _ _
  repeat' first
    | with_reducible apply And.intro
    | with_reducible assumption
    | with_reducible intro _
    | exact hq _ _ _ hZ
    | exact hq _ _ _ (by assumption)
    | exact hq _ _ _ (cZ_Ch hZ (by assumption))
    | exact hq _ _ _ (cZ_Gh hZ (by assumption))
    | refine ck_refuseh hZ (fun _ _ => ?_)
    | refine ck_refuseh (cZ_Ch hZ (by assumption)) (fun _ _ => ?_)
    | exact dC_T (by assumption)
    | exact dG_reflh hT
    | refine ck_hallOwed (gi.resolve_left (by assumption)) hT (fun _ _ => ?_)
    | exact hgo (by assumption) _ (by assumption) (by assumption)
    | with_reducible apply ck_loss ?_ hT
    | simp only [q141_0, q141_1, q141_4, q141_5, q141_8, q141_9, q141_10, q141_13, q141_14, q141_15, q141_18, q141_19, q141_20, q141_23, q141_26, q141_27, q141_30, q141_31, q141_34, q141_37, q141_38, q141_41, q141_42, q141_45, q141_48, q141_49, q141_51, q141_54, q141_55, q141_56, q141_59, q141_62, q141_64, q141_67, q141_68, q141_70, q141_73, k_0 hS, z_C hS, r_0_4 hS, k_14 hS, z_14, sp_askAt hS gA, as_nil, as_i, as_r, Nat.reduceAdd, Nat.reduceLeDiff, z_eq0, z_eq1, z_or, z_em, Classical.not_not, not_false_eq_true, not_true_eq_false, true_and, and_true, false_and, and_false, and_self, true_implies, false_implies, implies_true, Option.toList_some, Option.toList_none, List.cons_append, List.nil_append, Nat.add_eq_zero_iff, a_nl_i, a_nl_r, a_nl_n, true_or, or_true, eq_self, a_isRA_22, a_isRA_24, a_isRA_32, a_isA_20, ok_4, ok_5, ok_6, ok_7, ok_9, ok_20, ok_21, ok_30, ok_50, ok_180, ok_192, ok_200]
  all_goals ((try clear hgo); (try clear hq); (try clear hA); (try clear hB); (try clear hB2); (try clear hZ); (try clear hH); (try clear hT); grind [ui_ap])
end KK
/-! the class: public methods that the first rows compare -/
section KL
variable {d n t C c n0 n' n'' t' : Nat} {K L K0 L0 K' L' K'' L'' : Nat → Nat} {I I0 J J0 J1 J2 : Nat → Nat → Int32} {R R0 R' R'' : Nat → Nat → Nat} {P : Option Value → AH → Prop}
theorem ke_modeh (hH : cH C c (n + 1) t K L I R) {a b m : Int32} (h1 : ¬ ((0 ≤ a ∧ a < 200) ∧ (0 ≤ b ∧ b < 200) ∧ a ≤ b) → ∀ J, cZh C c (n + 1) K L I R (n + 1) t K L J R → P (some (.int (-1))) (n + 1, t, K, L, J, R)) (h2 : ((0 ≤ a ∧ a < 200) ∧ (0 ≤ b ∧ b < 200) ∧ a ≤ b) → (m < 0 ∨ 4 < m) → ∀ J, cZh C c (n + 1) K L I R (n + 1) t K L J R → P (some (.int (-2))) (n + 1, t, K, L, J, R)) (hP : ((0 ≤ a ∧ a < 200) ∧ (0 ≤ b ∧ b < 200) ∧ a ≤ b) → ¬ (m < 0 ∨ 4 < m) → ∀ J, cH C c (n + 1) t K L J R → (∀ x j, ¬ x = C + 2 → J x j = I x j) → (∀ j, J (C + 2) j = if a.toNatClampNeg ≤ j ∧ j ≤ b.toNatClampNeg then m else I (C + 2) j) → P (some (.int (cn (I (C + 2)) m a.toNatClampNeg (b.toNatClampNeg + 1 - a.toNatClampNeg)))) (n + 1, t, K, L, J, R)) : a_does (d + 70) 11 [a_rf C, .int a, .int b, .int m] (n + 1, t, K, L, I, R) P := by
  have hT := hH.1
  have hS := hT.s
  have hZ := cZ_reflh hH
  have hgo : ((0 ≤ a ∧ a < 200) ∧ (0 ≤ b ∧ b < 200) ∧ a ≤ b) → ¬ (m < 0 ∨ 4 < m) → a_at (d + 69) (a_xm a_m11) 30 [some (a_rf C), some (.int a), some (.int b), some (.int m)] [] (n + 1, t, K, L, I, R) P := fun q1 q2 => by
    have hP := hP q1 q2
    have qa : 0 ≤ a ∧ a ≤ 199 := by clear hP h1 h2 hZ hH hT; grind
    have qb : 0 ≤ b ∧ b ≤ 199 := by clear hP h1 h2 hZ hH hT; grind
    simp only [q11_30, q11_31, q11_34, q11_35, q11_36, q11_37, k_0 hS, z_C hS, r_0_0 hS, k_1 hS, z_1, as_nil, as_i, as_r, Nat.reduceAdd, Nat.reduceLeDiff, z_eq0, z_eq1, z_or, z_em, Classical.not_not, not_false_eq_true, not_true_eq_false, true_and, and_true, false_and, and_false, and_self, true_implies, false_implies, implies_true, Option.toList_some, Option.toList_none, List.cons_append, List.nil_append, Nat.add_eq_zero_iff, a_nl_i, a_nl_r, a_nl_n, true_or, or_true, eq_self, a_isRA_22, a_isRA_24, a_isRA_32, a_isA_20, ok_4, ok_5, ok_6, ok_7, ok_9, ok_20, ok_21, ok_30, ok_50, ok_180, ok_192, ok_200]
    rw [a_enter1 (M := a_m14) rfl (a_cat_rf (a_cat_int (a_cat_int (a_cat_int a_cat_nil)))) (show 4 ≤ 6 by decide)]
    show a_at _ (a_xm a_m14) 0 [some (a_rf (C + 1)), some (.int a), some (.int b), some (.int m), none, none] [] _ _
    simp only [q14_0, q14_1, q14_3, q14_4, as_nil, as_i, as_r, Nat.reduceAdd, Nat.reduceLeDiff, z_eq0, z_eq1, z_or, z_em, Classical.not_not, not_false_eq_true, not_true_eq_false, true_and, and_true, false_and, and_false, and_self, true_implies, false_implies, implies_true, Option.toList_some, Option.toList_none, List.cons_append, List.nil_append, Nat.add_eq_zero_iff, a_nl_i, a_nl_r, a_nl_n, true_or, or_true, eq_self, a_isRA_22, a_isRA_24, a_isRA_32, a_isA_20, ok_4, ok_5, ok_6, ok_7, ok_9, ok_20, ok_21, ok_30, ok_50, ok_180, ok_192, ok_200]
    refine lk_change_6 hS qa qb q1.2.2 (fun J f1 f2 => ?_) a (by grind) 0 I (by grind) (by grind) (fun _ _ _ => rfl) (fun j => by rw [if_neg (by omega)]) (by rw [Nat.sub_self]; rfl)
    simp only [q11_40, as_nil, as_i, as_r, Nat.reduceAdd, Nat.reduceLeDiff, z_eq0, z_eq1, z_or, z_em, Classical.not_not, not_false_eq_true, not_true_eq_false, true_and, and_true, false_and, and_false, and_self, true_implies, false_implies, implies_true, Option.toList_some, Option.toList_none, List.cons_append, List.nil_append, Nat.add_eq_zero_iff, a_nl_i, a_nl_r, a_nl_n, true_or, or_true, eq_self, a_isRA_22, a_isRA_24, a_isRA_32, a_isA_20, ok_4, ok_5, ok_6, ok_7, ok_9, ok_20, ok_21, ok_30, ok_50, ok_180, ok_192, ok_200]
    exact hP J (cH_J hH (sT_fr (k := 2) hT (by decide) f1)) f1 f2
  have g1 : m < 0 → m < 0 ∨ 4 < m := Or.inl
  have g2 : ¬ m ≤ 4 → m < 0 ∨ 4 < m := fun h => Or.inr (Int32.not_le.mp h)
  have g3 : ¬ m < 0 → m ≤ 4 → ¬ (m < 0 ∨ 4 < m) := fun h h2 h3 => h3.elim h (fun h4 => absurd h2 (Int32.not_le.mpr h4))
  rw [a_enter1 (M := a_m11) rfl (a_cat_rf (a_cat_int (a_cat_int (a_cat_int a_cat_nil)))) (show 4 ≤ 4 by decide)]
  show a_at _ (a_xm a_m11) 0 [some (a_rf C), some (.int a), some (.int b), some (.int m)] [] _ _
  repeat' first
    | with_reducible apply And.intro
    | with_reducible assumption
    | with_reducible intro _
    | refine ck_refuseh hZ (fun _ _ => ?_)
    | exact h1 (by assumption) _ (by assumption)
    | exact h2 (by assumption) (g1 (by assumption)) _ (by assumption)
    | exact h2 (by assumption) (g2 (by assumption)) _ (by assumption)
    | exact hgo (by assumption) (g3 (by assumption) (by assumption))
    | simp only [q11_0, q11_1, q11_2, q11_5, q11_8, q11_9, q11_10, q11_13, q11_14, q11_15, q11_18, q11_19, q11_20, q11_23, q11_24, q11_26, q11_29, k_0 hS, z_C hS, sp_areShifts, as_nil, as_i, as_r, Nat.reduceAdd, Nat.reduceLeDiff, z_eq0, z_eq1, z_or, z_em, Classical.not_not, not_false_eq_true, not_true_eq_false, true_and, and_true, false_and, and_false, and_self, true_implies, false_implies, implies_true, Option.toList_some, Option.toList_none, List.cons_append, List.nil_append, Nat.add_eq_zero_iff, a_nl_i, a_nl_r, a_nl_n, true_or, or_true, eq_self, a_isRA_22, a_isRA_24, a_isRA_32, a_isA_20, ok_4, ok_5, ok_6, ok_7, ok_9, ok_20, ok_21, ok_30, ok_50, ok_180, ok_192, ok_200]
  all_goals ((try clear hgo); (try clear h1); (try clear h2); (try clear hP); (try clear hZ); (try clear hH); (try clear hT); grind [ui_ap])
theorem ke_hoursh (hH : cH C c (n + 1) t K L I R) {v : Int32} (h1 : v < 0 → ∀ J, cZh C c (n + 1) K L I R (n + 1) t K L J R → P (some (.int (-4))) (n + 1, t, K, L, J, R)) (h2 : ¬ v < 0 → 1600 - I (C + 1) 6 < v → ∀ J, cZh C c (n + 1) K L I R (n + 1) t K L J R → P (some (.int (-6))) (n + 1, t, K, L, J, R)) (hP : ¬ v < 0 → ¬ 1600 - I (C + 1) 6 < v → cH C c (n + 1) t K L (a_ui I (C + 1) 6 (I (C + 1) 6 + v)) R → P (some (.int (I (C + 1) 6 + v))) (n + 1, t, K, L, (a_ui I (C + 1) 6 (I (C + 1) 6 + v)), R)) : a_does (d + 70) 9 [a_rf C, .int v] (n + 1, t, K, L, I, R) P := by
  have hT := hH.1
  have hS := hT.s
  have hZ := cZ_reflh hH
  have g := hT.g_now
  have hc : ¬ v < 0 → ¬ 1600 - I (C + 1) 6 < v → cH C c (n + 1) t K L (a_ui I (C + 1) 6 (I (C + 1) 6 + v)) R := fun q1 q2 => cH_J hH (sT_Beam_now hT (by clear h1 h2 hP hZ hH hT hS; grind))
  rw [a_enter1 (M := a_m9) rfl (a_cat_rf (a_cat_int a_cat_nil)) (show 2 ≤ 2 by decide)]
  show a_at _ (a_xm a_m9) 0 [some (a_rf C), some (.int v)] [] _ _
  simp only [q9_0, q9_1, q9_4, q9_5, q9_7, q9_10, q9_11, q9_12, q9_15, q9_16, q9_19, q9_22, q9_23, q9_26, q9_27, q9_29, q9_32, q9_33, q9_34, q9_37, q9_38, q9_41, q9_42, q9_43, q9_46, q9_47, q9_50, q9_53, k_0 hS, z_C hS, r_0_0 hS, k_1 hS, z_1, as_nil, as_i, as_r, Nat.reduceAdd, Nat.reduceLeDiff, z_eq0, z_eq1, z_or, z_em, Classical.not_not, not_false_eq_true, not_true_eq_false, true_and, and_true, false_and, and_false, and_self, true_implies, false_implies, implies_true, Option.toList_some, Option.toList_none, List.cons_append, List.nil_append, Nat.add_eq_zero_iff, a_nl_i, a_nl_r, a_nl_n, true_or, or_true, eq_self, a_isRA_22, a_isRA_24, a_isRA_32, a_isA_20, ok_4, ok_5, ok_6, ok_7, ok_9, ok_20, ok_21, ok_30, ok_50, ok_180, ok_192, ok_200, ui_ap, cc_ne, cc_n0, cc_0n, Nat.reduceEqDiff, reduceIte, if_true, if_false]
  have hr4 : v < 0 → a_does (d + 69) 10 [a_rf C, .int (-4)] (n + 1, t, K, L, I, R) (fun r h' => a_at (d + 69) (a_xm a_m9) 10 [some (a_rf C), some (.int v)] (r.toList ++ []) h' P) := fun q => ck_refuseh hZ (fun J z => by
    simp only [q9_10, as_nil, as_i, as_r, Nat.reduceAdd, Nat.reduceLeDiff, z_eq0, z_eq1, z_or, z_em, Classical.not_not, not_false_eq_true, not_true_eq_false, true_and, and_true, false_and, and_false, and_self, true_implies, false_implies, implies_true, Option.toList_some, Option.toList_none, List.cons_append, List.nil_append, Nat.add_eq_zero_iff, a_nl_i, a_nl_r, a_nl_n, true_or, or_true, eq_self, a_isRA_22, a_isRA_24, a_isRA_32, a_isA_20, ok_4, ok_5, ok_6, ok_7, ok_9, ok_20, ok_21, ok_30, ok_50, ok_180, ok_192, ok_200]
    exact h1 q J z)
  have hr6 : ¬ v < 0 → 1600 - I (C + 1) 6 < v → a_does (d + 69) 10 [a_rf C, .int (-6)] (n + 1, t, K, L, I, R) (fun r h' => a_at (d + 69) (a_xm a_m9) 32 [some (a_rf C), some (.int v)] (r.toList ++ []) h' P) := fun q q2 => ck_refuseh hZ (fun J z => by
    simp only [q9_32, as_nil, as_i, as_r, Nat.reduceAdd, Nat.reduceLeDiff, z_eq0, z_eq1, z_or, z_em, Classical.not_not, not_false_eq_true, not_true_eq_false, true_and, and_true, false_and, and_false, and_self, true_implies, false_implies, implies_true, Option.toList_some, Option.toList_none, List.cons_append, List.nil_append, Nat.add_eq_zero_iff, a_nl_i, a_nl_r, a_nl_n, true_or, or_true, eq_self, a_isRA_22, a_isRA_24, a_isRA_32, a_isA_20, ok_4, ok_5, ok_6, ok_7, ok_9, ok_20, ok_21, ok_30, ok_50, ok_180, ok_192, ok_200]
    exact h2 q q2 J z)
  clear h1 h2
  clear hZ
  have hfin := fun q1 q2 => hP q1 q2 (hc q1 q2)
  clear hP hc
  clear hH hT hS
  grind
end KL
/-! the class: trip, bench, set, just so -/
section KQ
variable {d n t C c n0 n' n'' t' : Nat} {K L K0 L0 K' L' K'' L'' : Nat → Nat} {I I0 J J0 J1 J2 : Nat → Nat → Int32} {R R0 R' R'' : Nat → Nat → Nat} {P : Option Value → AH → Prop}
theorem ke_triph (hH : cH C c (n + 1) t K L I R) {h v : Int32} (h1 : (h < 0 ∨ v < 1) → ∀ J, cZh C c (n + 1) K L I R (n + 1) t K L J R → P (some (.int (-4))) (n + 1, t, K, L, J, R)) (h2 : ¬ (h < 0 ∨ v < 1) → (I (C + 1) 6 < h ∨ 60 < v ∨ 20 ≤ I (C + 1) 5) → ∀ J, cZh C c (n + 1) K L I R (n + 1) t K L J R → P (some (.int (-6))) (n + 1, t, K, L, J, R)) (hP : ¬ (h < 0 ∨ v < 1) → ¬ (I (C + 1) 6 < h ∨ 60 < v ∨ 20 ≤ I (C + 1) 5) → ∀ J, cH C c (n + 1) t K L J R → (∀ x j, ¬ x = C + 3 → J x j = tX C I h v x j) → P (some (.int (I (C + 1) 5 + 1))) (n + 1, t, K, L, J, R)) : a_does (d + 70) 15 [a_rf C, .int h, .int v] (n + 1, t, K, L, I, R) P := by
  have hT := hH.1
  have hS := hT.s
  have hZ := cZ_reflh hH
  have g := hT.g_now
  have gneg : ¬ h < 0 → 1 ≤ v → ¬ (h < 0 ∨ v < 1) := fun a b e => e.elim a (fun x => absurd b (Int32.not_le.mpr x))
  have hgo : ¬ h < 0 → 1 ≤ v → ¬ I (C + 1) 6 < h → ¬ 60 < v → I (C + 1) 5 < 20 → a_at (d + 69) (a_xm a_m15) 52 [some (a_rf C), some (.int h), some (.int v)] [] (n + 1, t, K, L, I, R) P := fun a b c1 d1 e1 => by
    have hP := hP (gneg a b) (fun e => e.elim c1 (fun e => e.elim d1 (fun x => absurd e1 (Int32.not_lt.mpr x))))
    simp only [q15_52, q15_53, q15_56, q15_57, q15_58, k_0 hS, z_C hS, r_0_0 hS, k_1 hS, z_1, as_nil, as_i, as_r, Nat.reduceAdd, Nat.reduceLeDiff, z_eq0, z_eq1, z_or, z_em, Classical.not_not, not_false_eq_true, not_true_eq_false, true_and, and_true, false_and, and_false, and_self, true_implies, false_implies, implies_true, Option.toList_some, Option.toList_none, List.cons_append, List.nil_append, Nat.add_eq_zero_iff, a_nl_i, a_nl_r, a_nl_n, true_or, or_true, eq_self, a_isRA_22, a_isRA_24, a_isRA_32, a_isA_20, ok_4, ok_5, ok_6, ok_7, ok_9, ok_20, ok_21, ok_30, ok_50, ok_180, ok_192, ok_200]
    refine ck_found ⟨Int32.not_lt.mp a, Int32.le_trans (Int32.not_lt.mp c1) g.2⟩ hT e1 (fun J g1 f => ?_)
    simp only [q15_61, as_nil, as_i, as_r, Nat.reduceAdd, Nat.reduceLeDiff, z_eq0, z_eq1, z_or, z_em, Classical.not_not, not_false_eq_true, not_true_eq_false, true_and, and_true, false_and, and_false, and_self, true_implies, false_implies, implies_true, Option.toList_some, Option.toList_none, List.cons_append, List.nil_append, Nat.add_eq_zero_iff, a_nl_i, a_nl_r, a_nl_n, true_or, or_true, eq_self, a_isRA_22, a_isRA_24, a_isRA_32, a_isA_20, ok_4, ok_5, ok_6, ok_7, ok_9, ok_20, ok_21, ok_30, ok_50, ok_180, ok_192, ok_200]
    exact hP J (cH_J hH g1) f
  rw [a_enter1 (M := a_m15) rfl (a_cat_rf (a_cat_int (a_cat_int a_cat_nil))) (show 3 ≤ 3 by decide)]
  show a_at _ (a_xm a_m15) 0 [some (a_rf C), some (.int h), some (.int v)] [] _ _
  repeat' first
    | with_reducible apply And.intro
    | with_reducible assumption
    | with_reducible intro _
    | refine ck_refuseh hZ (fun _ _ => ?_)
    | exact h1 (Or.inl (by assumption)) _ (by assumption)
    | exact h1 (Or.inr (Int32.not_le.mp (by assumption))) _ (by assumption)
    | exact h2 (gneg (by assumption) (by assumption)) (Or.inl (by assumption)) _ (by assumption)
    | exact h2 (gneg (by assumption) (by assumption)) (Or.inr (Or.inl (by assumption))) _ (by assumption)
    | exact h2 (gneg (by assumption) (by assumption)) (Or.inr (Or.inr (Int32.not_lt.mp (by assumption)))) _ (by assumption)
    | exact hgo (by assumption) (by assumption) (by assumption) (by assumption) (by assumption)
    | simp only [q15_0, q15_1, q15_4, q15_5, q15_6, q15_9, q15_10, q15_12, q15_15, q15_16, q15_17, q15_18, q15_21, q15_24, q15_27, q15_28, q15_30, q15_33, q15_34, q15_37, q15_40, q15_42, q15_45, q15_46, q15_48, q15_51, k_0 hS, z_C hS, r_0_0 hS, k_1 hS, z_1, as_nil, as_i, as_r, Nat.reduceAdd, Nat.reduceLeDiff, z_eq0, z_eq1, z_or, z_em, Classical.not_not, not_false_eq_true, not_true_eq_false, true_and, and_true, false_and, and_false, and_self, true_implies, false_implies, implies_true, Option.toList_some, Option.toList_none, List.cons_append, List.nil_append, Nat.add_eq_zero_iff, a_nl_i, a_nl_r, a_nl_n, true_or, or_true, eq_self, a_isRA_22, a_isRA_24, a_isRA_32, a_isA_20, ok_4, ok_5, ok_6, ok_7, ok_9, ok_20, ok_21, ok_30, ok_50, ok_180, ok_192, ok_200]
  all_goals ((try clear hgo); (try clear hr); (try clear hs); (try clear hc); (try clear h0); (try clear h1); (try clear h2); (try clear h3); (try clear h4); (try clear h5); (try clear hP); (try clear hZ); (try clear hH); (try clear hT); (try clear hS); grind [ui_ap])
theorem ke_seth (hH : cH C c (n + 1) t K L I R) {w v : Int32} (h0 : ¬ (0 ≤ w ∧ w ≤ 2) → ∀ J, cZh C c (n + 1) K L I R (n + 1) t K L J R → P (some (.int (-2))) (n + 1, t, K, L, J, R)) (h1 : (0 ≤ w ∧ w ≤ 2) → v < 0 → ∀ J, cZh C c (n + 1) K L I R (n + 1) t K L J R → P (some (.int (-4))) (n + 1, t, K, L, J, R)) (h2 : (0 ≤ w ∧ w ≤ 2) → ¬ v < 0 → ((w = 0 ∧ 3 < v) ∨ (w = 1 ∧ 100 < v) ∨ (w = 2 ∧ 1 < v)) → ∀ J, cZh C c (n + 1) K L I R (n + 1) t K L J R → P (some (.int (-6))) (n + 1, t, K, L, J, R)) (h3 : w = 0 → ¬ v < 0 → ¬ 3 < v → cT C K L (a_ui I (C + 14) 6 v) R → P (some (.int (I (C + 14) 6))) (n + 1, t, K, L, (a_ui I (C + 14) 6 v), R)) (h4 : w = 1 → ¬ v < 0 → ¬ 100 < v → cT C K L (a_ui I (C + 22) 8 v) R → P (some (.int (I (C + 22) 8))) (n + 1, t, K, L, (a_ui I (C + 22) 8 v), R)) (h5 : w = 2 → ¬ v < 0 → ¬ 1 < v → ∀ J, dGh C K L R (a_ui I (C + 17) 5 v) J → P (some (.int (I (C + 17) 5))) (n + 1, t, K, L, J, R)) : a_does (d + 70) 23 [a_rf C, .int w, .int v] (n + 1, t, K, L, I, R) P := by
  have hT := hH.1
  have hS := hT.s
  have hZ := cZ_reflh hH
  have hr : w = 0 → 0 ≤ v → v ≤ 3 → ∀ u, a_at (d + 69) (a_xm a_m23) 63 [some (a_rf C), some (.int w), some (.int v), u] [] (n + 1, t, K, L, I, R) P := fun hw a b u => by
    have hP := h3 hw (Int32.not_lt.mpr a) (Int32.not_lt.mpr b) (sT_Hall_rest hT ⟨a, b⟩)
    simp only [q23_63, q23_64, q23_67, q23_68, k_0 hS, z_C hS, r_0_4 hS, k_14 hS, z_14, as_nil, as_i, as_r, Nat.reduceAdd, Nat.reduceLeDiff, z_eq0, z_eq1, z_or, z_em, Classical.not_not, not_false_eq_true, not_true_eq_false, true_and, and_true, false_and, and_false, and_self, true_implies, false_implies, implies_true, Option.toList_some, Option.toList_none, List.cons_append, List.nil_append, Nat.add_eq_zero_iff, a_nl_i, a_nl_r, a_nl_n, true_or, or_true, eq_self, a_isRA_22, a_isRA_24, a_isRA_32, a_isA_20, ok_4, ok_5, ok_6, ok_7, ok_9, ok_20, ok_21, ok_30, ok_50, ok_180, ok_192, ok_200]
    rw [a_enter1 (M := a_m24) rfl (a_cat_rf (a_cat_int a_cat_nil)) (show 2 ≤ 3 by decide)]
    show a_at _ (a_xm a_m24) 0 [some (a_rf (C + 14)), some (.int v), none] [] _ _
    simp only [q24_0, q24_1, q24_4, q24_5, q24_6, q24_7, q24_10, q24_11, k_14 hS, z_14, as_nil, as_i, as_r, Nat.reduceAdd, Nat.reduceLeDiff, z_eq0, z_eq1, z_or, z_em, Classical.not_not, not_false_eq_true, not_true_eq_false, true_and, and_true, false_and, and_false, and_self, true_implies, false_implies, implies_true, Option.toList_some, Option.toList_none, List.cons_append, List.nil_append, Nat.add_eq_zero_iff, a_nl_i, a_nl_r, a_nl_n, true_or, or_true, eq_self, a_isRA_22, a_isRA_24, a_isRA_32, a_isA_20, ok_4, ok_5, ok_6, ok_7, ok_9, ok_20, ok_21, ok_30, ok_50, ok_180, ok_192, ok_200, ui_ap, cc_ne, cc_n0, cc_0n, Nat.reduceEqDiff, reduceIte, if_true, if_false, q23_71]
    exact hP
  have hs : w = 1 → 0 ≤ v → v ≤ 100 → ∀ u, a_at (d + 69) (a_xm a_m23) 77 [some (a_rf C), some (.int w), some (.int v), u] [] (n + 1, t, K, L, I, R) P := fun hw a b u => by
    have hP := h4 hw (Int32.not_lt.mpr a) (Int32.not_lt.mpr b) (sT_Planner_share hT)
    simp only [q23_77, q23_78, q23_81, q23_82, k_0 hS, z_C hS, r_0_5 hS, k_22 hS, z_22, as_nil, as_i, as_r, Nat.reduceAdd, Nat.reduceLeDiff, z_eq0, z_eq1, z_or, z_em, Classical.not_not, not_false_eq_true, not_true_eq_false, true_and, and_true, false_and, and_false, and_self, true_implies, false_implies, implies_true, Option.toList_some, Option.toList_none, List.cons_append, List.nil_append, Nat.add_eq_zero_iff, a_nl_i, a_nl_r, a_nl_n, true_or, or_true, eq_self, a_isRA_22, a_isRA_24, a_isRA_32, a_isA_20, ok_4, ok_5, ok_6, ok_7, ok_9, ok_20, ok_21, ok_30, ok_50, ok_180, ok_192, ok_200]
    rw [a_enter1 (M := a_m25) rfl (a_cat_rf (a_cat_int a_cat_nil)) (show 2 ≤ 3 by decide)]
    show a_at _ (a_xm a_m25) 0 [some (a_rf (C + 22)), some (.int v), none] [] _ _
    simp only [q25_0, q25_1, q25_4, q25_5, q25_6, q25_7, q25_10, q25_11, k_22 hS, z_22, as_nil, as_i, as_r, Nat.reduceAdd, Nat.reduceLeDiff, z_eq0, z_eq1, z_or, z_em, Classical.not_not, not_false_eq_true, not_true_eq_false, true_and, and_true, false_and, and_false, and_self, true_implies, false_implies, implies_true, Option.toList_some, Option.toList_none, List.cons_append, List.nil_append, Nat.add_eq_zero_iff, a_nl_i, a_nl_r, a_nl_n, true_or, or_true, eq_self, a_isRA_22, a_isRA_24, a_isRA_32, a_isA_20, ok_4, ok_5, ok_6, ok_7, ok_9, ok_20, ok_21, ok_30, ok_50, ok_180, ok_192, ok_200, ui_ap, cc_ne, cc_n0, cc_0n, Nat.reduceEqDiff, reduceIte, if_true, if_false, q23_85, q23_88, q23_89, q23_92, q23_93, q23_96, k_0 hS, z_C hS, r_0_3 hS, k_17 hS, z_17]
    exact hP
  have hc : 0 ≤ w → w ≤ 2 → ¬ w = 0 → ¬ w = 1 → 0 ≤ v → v ≤ 1 → ∀ u, a_at (d + 69) (a_xm a_m23) 88 [some (a_rf C), some (.int w), some (.int v), u] [] (n + 1, t, K, L, I, R) P := fun w0 w2 n0 n1 a b u => by
    have hP := h5 (by clear h0 h1 h2 h3 h4 h5 hr hs hZ hH hT hS; grind) (Int32.not_lt.mpr a) (Int32.not_lt.mpr b)
    simp only [q23_88, q23_89, q23_92, q23_93, k_0 hS, z_C hS, r_0_3 hS, k_17 hS, z_17, as_nil, as_i, as_r, Nat.reduceAdd, Nat.reduceLeDiff, z_eq0, z_eq1, z_or, z_em, Classical.not_not, not_false_eq_true, not_true_eq_false, true_and, and_true, false_and, and_false, and_self, true_implies, false_implies, implies_true, Option.toList_some, Option.toList_none, List.cons_append, List.nil_append, Nat.add_eq_zero_iff, a_nl_i, a_nl_r, a_nl_n, true_or, or_true, eq_self, a_isRA_22, a_isRA_24, a_isRA_32, a_isA_20, ok_4, ok_5, ok_6, ok_7, ok_9, ok_20, ok_21, ok_30, ok_50, ok_180, ok_192, ok_200]
    refine ck_changeScaledh hT (fun J g => ?_)
    simp only [q23_96, as_nil, as_i, as_r, Nat.reduceAdd, Nat.reduceLeDiff, z_eq0, z_eq1, z_or, z_em, Classical.not_not, not_false_eq_true, not_true_eq_false, true_and, and_true, false_and, and_false, and_self, true_implies, false_implies, implies_true, Option.toList_some, Option.toList_none, List.cons_append, List.nil_append, Nat.add_eq_zero_iff, a_nl_i, a_nl_r, a_nl_n, true_or, or_true, eq_self, a_isRA_22, a_isRA_24, a_isRA_32, a_isA_20, ok_4, ok_5, ok_6, ok_7, ok_9, ok_20, ok_21, ok_30, ok_50, ok_180, ok_192, ok_200]
    exact hP J g
  have q0 : ∀ {m : Int32}, ¬ v ≤ m → m < v := fun h => Int32.not_le.mp h
  have hr0 : w < 0 → ∀ J, cZh C c (n + 1) K L I R (n + 1) t K L J R → P (some (.int (-2))) (n + 1, t, K, L, J, R) := fun a J z => h0 (fun e => absurd a (Int32.not_lt.mpr e.1)) J z
  have hr0b : ¬ w ≤ 2 → ∀ J, cZh C c (n + 1) K L I R (n + 1) t K L J R → P (some (.int (-2))) (n + 1, t, K, L, J, R) := fun a J z => h0 (fun e => a e.2) J z
  have hr1 : ¬ w < 0 → w ≤ 2 → ¬ 0 ≤ v → ∀ J, cZh C c (n + 1) K L I R (n + 1) t K L J R → P (some (.int (-4))) (n + 1, t, K, L, J, R) := fun a b c1 J z => h1 ⟨Int32.not_lt.mp a, b⟩ (Int32.not_le.mp c1) J z
  have hr2 : ¬ w < 0 → w ≤ 2 → 0 ≤ v → ∀ m : Int32, ¬ v ≤ m → ((w = 0 ∧ m = 3) ∨ (w = 1 ∧ m = 100) ∨ (¬ w = 0 ∧ ¬ w = 1 ∧ m = 1)) → ∀ J, cZh C c (n + 1) K L I R (n + 1) t K L J R → P (some (.int (-6))) (n + 1, t, K, L, J, R) := fun a b c1 m e1 e2 J z => h2 ⟨Int32.not_lt.mp a, b⟩ (Int32.not_lt.mpr c1) (by clear h0 h1 h2 h3 h4 h5 hr hs hc hr0 hr0b hr1 hZ hH hT hS; grind) J z
  rw [a_enter1 (M := a_m23) rfl (a_cat_rf (a_cat_int (a_cat_int a_cat_nil))) (show 3 ≤ 4 by decide)]
  show a_at _ (a_xm a_m23) 0 [some (a_rf C), some (.int w), some (.int v), none] [] _ _
  repeat' first
    | with_reducible apply And.intro
    | with_reducible assumption
    | with_reducible intro _
    | contradiction
    | refine ck_refuseh hZ (fun _ _ => ?_)
    | exact hr0 (by assumption) _ (by assumption)
    | exact hr0b (by assumption) _ (by assumption)
    | exact hr1 (by assumption) (by assumption) (by assumption) _ (by assumption)
    | exact hr2 (by assumption) (by assumption) (by assumption) 3 (by assumption) (Or.inl ⟨by assumption, rfl⟩) _ (by assumption)
    | exact hr2 (by assumption) (by assumption) (by assumption) 100 (by assumption) (Or.inr (Or.inl ⟨by assumption, rfl⟩)) _ (by assumption)
    | exact hr2 (by assumption) (by assumption) (by assumption) 1 (by assumption) (Or.inr (Or.inr ⟨by assumption, by assumption, rfl⟩)) _ (by assumption)
    | exact hr (by assumption) (by assumption) (by assumption) _
    | exact hs (by assumption) (by assumption) (by assumption) _
    | exact hc (Int32.not_lt.mp (by assumption)) (by assumption) (by assumption) (by assumption) (by assumption) (by assumption) _
    | simp only [q23_0, q23_1, q23_4, q23_5, q23_6, q23_9, q23_10, q23_12, q23_15, q23_16, q23_17, q23_20, q23_21, q23_23, q23_26, q23_27, q23_28, q23_31, q23_32, q23_35, q23_36, q23_37, q23_40, q23_42, q23_45, q23_46, q23_47, q23_48, q23_49, q23_52, q23_53, q23_55, q23_58, q23_59, q23_60, q23_72, q23_73, q23_74, k_0 hS, z_C hS, as_nil, as_i, as_r, Nat.reduceAdd, Nat.reduceLeDiff, z_eq0, z_eq1, z_or, z_em, Classical.not_not, not_false_eq_true, not_true_eq_false, true_and, and_true, false_and, and_false, and_self, true_implies, false_implies, implies_true, Option.toList_some, Option.toList_none, List.cons_append, List.nil_append, Nat.add_eq_zero_iff, a_nl_i, a_nl_r, a_nl_n, true_or, or_true, eq_self, a_isRA_22, a_isRA_24, a_isRA_32, a_isA_20, ok_4, ok_5, ok_6, ok_7, ok_9, ok_20, ok_21, ok_30, ok_50, ok_180, ok_192, ok_200]
  all_goals ((try clear hr); (try clear hs); (try clear hc); (try clear hr0); (try clear hr0b); (try clear hr1); (try clear hr2); (try clear hgo); (try clear hr); (try clear hs); (try clear hc); (try clear h0); (try clear h1); (try clear h2); (try clear h3); (try clear h4); (try clear h5); (try clear hP); (try clear hZ); (try clear hH); (try clear hT); (try clear hS); grind [ui_ap])
end KQ

/-! bits -/
/-! the class: put, check, kin, just so -/
section KU
variable {d n t C c n0 n' n'' t' : Nat} {K L K0 L0 K' L' K'' L'' : Nat → Nat} {I I0 J J0 J1 J2 : Nat → Nat → Int32} {R R0 R' R'' : Nat → Nat → Nat} {P : Option Value → AH → Prop}
theorem ke_puth (hH : cH C c (n + 1) t K L I R) {v : Int32} (h1 : 21 ≤ I C 10 → ∀ J, cZh C c (n + 1) K L I R (n + 1) t K L J R → P (some (.int (-6))) (n + 1, t, K, L, J, R)) (hP : I C 10 < 21 → cT C K L (a_ui (a_ui I (C + 43) (I C 10).toNatClampNeg v) C 10 (I C 10 + 1)) R → P (some (.int (I C 10 + 1))) (n + 1, t, K, L, (a_ui (a_ui I (C + 43) (I C 10).toNatClampNeg v) C 10 (I C 10 + 1)), R)) : a_does (d + 70) 163 [a_rf C, .int v] (n + 1, t, K, L, I, R) P := by
  have hT := hH.1
  have hS := hT.s
  have hZ := cZ_reflh hH
  have g := hT.g_row
  have hf : I C 10 < 21 → P (some (.int (I C 10 + 1))) (n + 1, t, K, L, (a_ui (a_ui I (C + 43) (I C 10).toNatClampNeg v) C 10 (I C 10 + 1)), R) := fun h => hP h (sT_BeamHall_rowSize (sT_BeamHall_row hT) (by clear hP h1 hZ hH hT hS; grind))
  have hx := fun (e : 21 ≤ I C 10) => h1 e
  rw [a_enter1 (M := a_m163) rfl (a_cat_rf (a_cat_int a_cat_nil)) (show 2 ≤ 2 by decide)]
  show a_at _ (a_xm a_m163) 0 [some (a_rf C), some (.int v)] [] _ _
  repeat' first
    | with_reducible apply And.intro
    | with_reducible assumption
    | with_reducible intro _
    | refine ck_refuseh hZ (fun _ _ => ?_)
    | exact h1 (Int32.not_lt.mp (by assumption)) _ (by assumption)
    | exact h1 (by assumption) _ (by assumption)
    | with_reducible apply hf
    | simp only [q163_0, q163_1, q163_4, q163_6, q163_9, q163_10, q163_12, q163_15, q163_16, q163_17, q163_20, q163_21, q163_24, q163_25, q163_26, q163_27, q163_28, q163_31, q163_32, q163_33, q163_36, q163_37, q163_40, k_0 hS, z_C hS, r_0_9 hS, k_43 hS, l_43 hS, z_43, as_nil, as_i, as_r, Nat.reduceAdd, Nat.reduceLeDiff, z_eq0, z_eq1, z_or, z_em, Classical.not_not, not_false_eq_true, not_true_eq_false, true_and, and_true, false_and, and_false, and_self, true_implies, false_implies, implies_true, Option.toList_some, Option.toList_none, List.cons_append, List.nil_append, Nat.add_eq_zero_iff, a_nl_i, a_nl_r, a_nl_n, true_or, or_true, eq_self, a_isRA_22, a_isRA_24, a_isRA_32, a_isA_20, ok_4, ok_5, ok_6, ok_7, ok_9, ok_20, ok_21, ok_30, ok_50, ok_180, ok_192, ok_200, ui_ap, cc_ne, cc_n0, cc_0n, Nat.reduceEqDiff, reduceIte, if_true, if_false]
  all_goals ((try clear hf); (try clear hx); (try clear h1); (try clear h2); (try clear h3); (try clear h4); (try clear hP); (try clear hZ); (try clear hH); (try clear hT); (try clear hS); grind [ui_ap])
theorem ke_checkh (hH : cH C c (n + 1) t K L I R) {b a k : Int32} (h1 : ¬ ((0 ≤ b ∧ b < I (C + 14) 5) ∧ (0 ≤ a ∧ a < 200) ∧ a + I C 10 ≤ 200) → ∀ J, cZh C c (n + 1) K L I R (n + 1) t K L J R → P (some (.int (-1))) (n + 1, t, K, L, J, R)) (h2 : ((0 ≤ b ∧ b < I (C + 14) 5) ∧ (0 ≤ a ∧ a < 200) ∧ a + I C 10 ≤ 200) → k < 0 → ∀ J, cZh C c (n + 1) K L I R (n + 1) t K L J R → P (some (.int (-4))) (n + 1, t, K, L, J, R)) (h3 : ((0 ≤ b ∧ b < I (C + 14) 5) ∧ (0 ≤ a ∧ a < 200) ∧ a + I C 10 ≤ 200) → ¬ k < 0 → I (C + 1) 6 < k → ∀ J, cZh C c (n + 1) K L I R (n + 1) t K L J R → P (some (.int (-6))) (n + 1, t, K, L, J, R)) (hP : ((0 ≤ b ∧ b < I (C + 14) 5) ∧ (0 ≤ a ∧ a < 200) ∧ a + I C 10 ≤ 200) → ¬ k < 0 → ¬ I (C + 1) 6 < k → cT C K L (a_ui I C 10 0) R → ∀ v, P (some (.int v)) (n + 1, t, K, L, (a_ui I C 10 0), R)) : a_does (d + 70) 164 [a_rf C, .int b, .int a, .int k] (n + 1, t, K, L, I, R) P := by
  have hT := hH.1
  have hS := hT.s
  have hZ := cZ_reflh hH
  have gA := hT.g_asksR
  have gB := hT.g_benchesR
  have gX := hT.g_textsR
  have gb := gB b.toNatClampNeg
  have gbn := hT.g_benches
  have gY := hT.g_benY
  have gy : 0 ≤ b → b < I (C + 14) 5 → ¬ R (C + 16) b.toNatClampNeg = 0 := fun e1 e2 => gY _ (cl_lt e1 e2)
  have hf : ((0 ≤ b ∧ b < I (C + 14) 5) ∧ (0 ≤ a ∧ a < 200) ∧ a + I C 10 ≤ 200) → ¬ k < 0 → ¬ I (C + 1) 6 < k → ∀ v, P (some (.int v)) (n + 1, t, K, L, (a_ui I C 10 0), R) := fun e1 e2 e3 v => hP e1 e2 e3 (sT_BeamHall_rowSize hT (by decide)) v
  have hgo : ((0 ≤ b ∧ b < I (C + 14) 5) ∧ (0 ≤ a ∧ a < 200) ∧ a + I C 10 ≤ 200) → ¬ k < 0 → ¬ I (C + 1) 6 < k → ¬ R (C + 16) b.toNatClampNeg = 0 → ∀ u, a_at (d + 69) (a_xm a_m164) 69 [some (a_rf C), some (.int b), some (.int a), some (.int k), some (a_rf (R (C + 16) b.toNatClampNeg)), u] [] (n + 1, t, K, L, I, R) P := fun e1 e2 e3 h0 u => by
    simp only [q164_69, q164_70, q164_72, q164_73, q164_74, k_0 hS, z_C hS, as_nil, as_i, as_r, Nat.reduceAdd, Nat.reduceLeDiff, z_eq0, z_eq1, z_or, z_em, Classical.not_not, not_false_eq_true, not_true_eq_false, true_and, and_true, false_and, and_false, and_self, true_implies, false_implies, implies_true, Option.toList_some, Option.toList_none, List.cons_append, List.nil_append, Nat.add_eq_zero_iff, a_nl_i, a_nl_r, a_nl_n, true_or, or_true, eq_self, a_isRA_22, a_isRA_24, a_isRA_32, a_isA_20, ok_4, ok_5, ok_6, ok_7, ok_9, ok_20, ok_21, ok_30, ok_50, ok_180, ok_192, ok_200]
    refine ck_firstWrong hT (gb.resolve_left h0) e1.2.1.1 e1.2.2 e1.2.1.2 (fun v => ?_)
    simp only [q164_77, q164_79, q164_80, q164_81, q164_84, q164_86, k_0 hS, z_C hS, as_nil, as_i, as_r, Nat.reduceAdd, Nat.reduceLeDiff, z_eq0, z_eq1, z_or, z_em, Classical.not_not, not_false_eq_true, not_true_eq_false, true_and, and_true, false_and, and_false, and_self, true_implies, false_implies, implies_true, Option.toList_some, Option.toList_none, List.cons_append, List.nil_append, Nat.add_eq_zero_iff, a_nl_i, a_nl_r, a_nl_n, true_or, or_true, eq_self, a_isRA_22, a_isRA_24, a_isRA_32, a_isA_20, ok_4, ok_5, ok_6, ok_7, ok_9, ok_20, ok_21, ok_30, ok_50, ok_180, ok_192, ok_200]
    exact hf e1 e2 e3 v
  rw [a_enter1 (M := a_m164) rfl (a_cat_rf (a_cat_int (a_cat_int (a_cat_int a_cat_nil)))) (show 4 ≤ 6 by decide)]
  show a_at _ (a_xm a_m164) 0 [some (a_rf C), some (.int b), some (.int a), some (.int k), none, none] [] _ _
  repeat' first
    | with_reducible apply And.intro
    | with_reducible assumption
    | with_reducible intro _
    | refine ck_refuseh hZ (fun _ _ => ?_)
    | refine h1 ?_ _ (by assumption)
    | refine h2 ?_ ?_ _ (by assumption)
    | refine h3 ?_ ?_ ?_ _ (by assumption)
    | refine hgo ?_ ?_ ?_ ?_ _
    | simp only [q164_0, q164_1, q164_4, q164_5, q164_8, q164_10, q164_12, q164_15, q164_16, q164_19, q164_22, q164_23, q164_24, q164_27, q164_28, q164_31, q164_34, q164_35, q164_36, q164_39, q164_40, q164_41, q164_44, q164_45, q164_47, q164_50, q164_51, q164_52, q164_53, q164_56, q164_59, q164_62, q164_63, q164_65, q164_68, k_0 hS, z_C hS, r_0_4 hS, k_14 hS, z_14, r_0_0 hS, k_1 hS, z_1, sp_benchAt hS gB, sp_isShiftC, as_nil, as_i, as_r, Nat.reduceAdd, Nat.reduceLeDiff, z_eq0, z_eq1, z_or, z_em, Classical.not_not, not_false_eq_true, not_true_eq_false, true_and, and_true, false_and, and_false, and_self, true_implies, false_implies, implies_true, Option.toList_some, Option.toList_none, List.cons_append, List.nil_append, Nat.add_eq_zero_iff, a_nl_i, a_nl_r, a_nl_n, true_or, or_true, eq_self, a_isRA_22, a_isRA_24, a_isRA_32, a_isA_20, ok_4, ok_5, ok_6, ok_7, ok_9, ok_20, ok_21, ok_30, ok_50, ok_180, ok_192, ok_200]
  all_goals ((try clear hgo); (try clear hf); (try clear gY); (try clear gA); (try clear gB); (try clear gX); (try clear gb); (try clear h1); (try clear h2); (try clear h3); (try clear h4); (try clear hP); (try clear hZ); (try clear hH); (try clear hT); (try clear hS); grind [ui_ap])
theorem ke_kinh (hH : cH C c (n + 1) t K L I R) {r g : Int32} (h1 : ¬ ((0 ≤ r ∧ r ≤ 5) ∧ (0 ≤ g ∧ g ≤ 9)) → ∀ J, cZh C c (n + 1) K L I R (n + 1) t K L J R → P (some (.int (-1))) (n + 1, t, K, L, J, R)) (hP : (0 ≤ r ∧ r ≤ 5) → (0 ≤ g ∧ g ≤ 9) → cT C K L (a_ui I (C + 18) r.toNatClampNeg ((I (C + 18) r.toNatClampNeg) ||| (1 <<< (g &&& 31)))) R → P (some (.int (if ((I (C + 18) r.toNatClampNeg) >>> (g &&& 31)) &&& 1 = 0 then 1 else 0))) (n + 1, t, K, L, (a_ui I (C + 18) r.toNatClampNeg ((I (C + 18) r.toNatClampNeg) ||| (1 <<< (g &&& 31)))), R)) : a_does (d + 70) 89 [a_rf C, .int r, .int g] (n + 1, t, K, L, I, R) P := by
  have hT := hH.1
  have hS := hT.s
  have hZ := cZ_reflh hH
  have hgo : (0 ≤ r ∧ r < 6) → ¬ g < 0 → g < 10 → a_at (d + 69) (a_xm a_m89) 23 [some (a_rf C), some (.int r), some (.int g)] [] (n + 1, t, K, L, I, R) P := fun h2 h3 h4 => by
    have hf := hP ⟨h2.1, by clear hP h1 hZ hH hT hS; grind⟩ ⟨Int32.not_lt.mp h3, by clear hP h1 hZ hH hT hS; grind⟩ (sT_Panel_kin hT)
    simp only [q89_23, q89_24, q89_27, q89_28, q89_29, k_0 hS, z_C hS, r_0_3 hS, k_17 hS, z_17, as_nil, as_i, as_r, Nat.reduceAdd, Nat.reduceLeDiff, z_eq0, z_eq1, z_or, z_em, Classical.not_not, not_false_eq_true, not_true_eq_false, true_and, and_true, false_and, and_false, and_self, true_implies, false_implies, implies_true, Option.toList_some, Option.toList_none, List.cons_append, List.nil_append, Nat.add_eq_zero_iff, a_nl_i, a_nl_r, a_nl_n, true_or, or_true, eq_self, a_isRA_22, a_isRA_24, a_isRA_32, a_isA_20, ok_4, ok_5, ok_6, ok_7, ok_9, ok_20, ok_21, ok_30, ok_50, ok_180, ok_192, ok_200]
    refine ck_tellKin hS h2 ?_
    simp only [q89_32, q89_35, q89_36, q89_39, q89_40, as_nil, as_i, as_r, Nat.reduceAdd, Nat.reduceLeDiff, z_eq0, z_eq1, z_or, z_em, Classical.not_not, not_false_eq_true, not_true_eq_false, true_and, and_true, false_and, and_false, and_self, true_implies, false_implies, implies_true, Option.toList_some, Option.toList_none, List.cons_append, List.nil_append, Nat.add_eq_zero_iff, a_nl_i, a_nl_r, a_nl_n, true_or, or_true, eq_self, a_isRA_22, a_isRA_24, a_isRA_32, a_isA_20, ok_4, ok_5, ok_6, ok_7, ok_9, ok_20, ok_21, ok_30, ok_50, ok_180, ok_192, ok_200]
    by_cases e : ((I (C + 18) r.toNatClampNeg) >>> (g &&& 31)) &&& 1 = 0
    · simp only [e, if_true, not_true_eq_false, false_implies, true_implies, and_true, true_and, implies_true, not_false_eq_true] at hf ⊢
      exact hf
    · simp only [e, if_false, not_true_eq_false, false_implies, true_implies, and_true, true_and, implies_true, not_false_eq_true] at hf ⊢
      exact hf
  have hr0 : r < 0 → ¬ ((0 ≤ r ∧ r ≤ 5) ∧ (0 ≤ g ∧ g ≤ 9)) := fun q e => absurd q (Int32.not_lt.mpr e.1.1)
  rw [a_enter1 (M := a_m89) rfl (a_cat_rf (a_cat_int (a_cat_int a_cat_nil))) (show 3 ≤ 3 by decide)]
  show a_at _ (a_xm a_m89) 0 [some (a_rf C), some (.int r), some (.int g)] [] _ _
  repeat' first
    | with_reducible apply And.intro
    | with_reducible assumption
    | with_reducible intro _
    | refine ck_refuseh hZ (fun _ _ => ?_)
    | refine h1 ?_ _ (by assumption)
    | refine hgo ?_ ?_ ?_
    | simp only [q89_0, q89_1, q89_4, q89_7, q89_8, q89_11, q89_12, q89_14, q89_17, q89_18, q89_19, q89_22, k_0 hS, z_C hS, sp_isReaderC, as_nil, as_i, as_r, Nat.reduceAdd, Nat.reduceLeDiff, z_eq0, z_eq1, z_or, z_em, Classical.not_not, not_false_eq_true, not_true_eq_false, true_and, and_true, false_and, and_false, and_self, true_implies, false_implies, implies_true, Option.toList_some, Option.toList_none, List.cons_append, List.nil_append, Nat.add_eq_zero_iff, a_nl_i, a_nl_r, a_nl_n, true_or, or_true, eq_self, a_isRA_22, a_isRA_24, a_isRA_32, a_isA_20, ok_4, ok_5, ok_6, ok_7, ok_9, ok_20, ok_21, ok_30, ok_50, ok_180, ok_192, ok_200]
  all_goals ((try clear hgo); (try clear hr0); (try clear h1); (try clear h2); (try clear h3); (try clear h4); (try clear hP); (try clear hZ); (try clear hH); (try clear hT); (try clear hS); grind [ui_ap])
end KU
/-! the reference: shiftOf, just so -/

/-! the class: reading, just so -/
section KY
variable {d n t C : Nat} {K L : Nat → Nat} {I I0 J J0 J1 J2 : Nat → Nat → Int32} {R : Nat → Nat → Nat} {P : Option Value → AH → Prop}
theorem tq_dGh (h : tq C K L R I J) (h0 : cT C K L I R) : dGh C K L R I J := ⟨h.1, fun x j p => h.2 x j (by unfold eDh eD at p; omega) (by unfold eDh eD at p; omega)⟩
end KY
/-! the class: feed, just so -/
section KZ
variable {d n t C c n0 n' n'' t' : Nat} {K L K0 L0 K' L' K'' L'' : Nat → Nat} {I I0 J J0 J1 J2 : Nat → Nat → Int32} {R R0 R' R'' : Nat → Nat → Nat} {P : Option Value → AH → Prop}
theorem ke_feedh (hH : cH C c (n + 1) t K L I R) {m : Int32} {w : Int64} (h1 : m < 1 → ∀ J, cZh C c (n + 1) K L I R (n + 1) t K L J R → P (some (.int (-4))) (n + 1, t, K, L, J, R)) (h2 : ¬ m < 1 → (8 < m ∨ 50 < (I (C + 11) 2) + m) → ∀ J, cZh C c (n + 1) K L I R (n + 1) t K L J R → P (some (.int (-6))) (n + 1, t, K, L, J, R)) (hP : ¬ m < 1 → ¬ (8 < m ∨ 50 < (I (C + 11) 2) + m) → ∀ J, cT C K L J R → (∀ x j, ¬ x = C + 12 → ¬ (x = C + 11 ∧ j = 2) → J x j = I x j) → J (C + 11) 2 = (I (C + 11) 2) + m → byP (J (C + 12)) (I (C + 12)) w (I (C + 11) 2) m → P (some (.int ((I (C + 11) 2) + m))) (n + 1, t, K, L, J, R)) : a_does (d + 70) 66 [a_rf C, .int m, .long w] (n + 1, t, K, L, I, R) P := by
  have hT := hH.1
  have hS := hT.s
  have hZ := cZ_reflh hH
  have g := hT.g_size
  have h2' : ¬ m < 1 → (¬ m ≤ 8 ∨ ¬ m ≤ 50 - (I (C + 11) 2)) → ∀ J, cZh C c (n + 1) K L I R (n + 1) t K L J R → P (some (.int (-6))) (n + 1, t, K, L, J, R) := fun q1 q2 => h2 q1 (by clear hP h1 h2 hH hT hS hZ; grind)
  have hg : ¬ m < 1 → m ≤ 8 → m ≤ 50 - (I (C + 11) 2) → a_does (d + 69) 67 [a_rf (C + 11), .int m, .long w] (n + 1, t, K, L, I, R) (fun r h' => a_at (d + 69) (a_xm a_m66) 48 [some (a_rf C), some (.int m), some (.long w), none] (r.toList ++ []) h' P) := fun q1 q2 q3 => by
    have q4 : (I (C + 11) 2) + m ≤ 50 := by clear hP h1 h2 hH hT hS hZ; grind
    have hp := hP q1 (fun z => z.elim (fun z => absurd q2 (Int32.not_le.mpr z)) (fun z => absurd q4 (Int32.not_le.mpr z)))
    have hl := le_append_3 (d := d + 68) (w := w) (P := fun r h' => a_at (d + 69) (a_xm a_m66) 48 [some (a_rf C), some (.int m), some (.long w), none] (r.toList ++ []) h' P) g.1 ⟨Int32.not_lt.mp q1, q2⟩ q4 g.2 (fun J j1 j2 j3 j4 => by
      have hf := hp J j1 j2 j3 j4
      simp only [q66_48, as_nil, as_i, as_r, Nat.reduceAdd, Nat.reduceLeDiff, z_eq0, z_eq1, z_or, z_em, Classical.not_not, not_false_eq_true, not_true_eq_false, true_and, and_true, false_and, and_false, and_self, true_implies, false_implies, implies_true, Option.toList_some, Option.toList_none, List.cons_append, List.nil_append, Nat.add_eq_zero_iff, a_nl_i, a_nl_r, a_nl_n, true_or, or_true, eq_self, a_isRA_22, a_isRA_24, a_isRA_32, a_isA_20, ok_4, ok_5, ok_6, ok_7, ok_9, ok_20, ok_21, ok_30, ok_50, ok_180, ok_192, ok_200]
      exact hf) 0 (by decide) I (by decide) (by clear hP h1 h2 hH hT hS hZ; grind) hT (fun _ _ _ _ => rfl) (by rw [Int32.add_zero]) byP_0
    rw [a_enter (M := a_m67) rfl (by rw [a_len_ril]; decide)]
    show a_at _ (a_xm a_m67) 0 (a_init [a_rf (C + 11), .int m, .long w] 5) [] _ _
    rw [a_init_ril]
    simp only [q67_0, q67_1, as_nil, as_i, as_r, Nat.reduceAdd, Nat.reduceLeDiff, z_eq0, z_eq1, z_or, z_em, Classical.not_not, not_false_eq_true, not_true_eq_false, true_and, and_true, false_and, and_false, and_self, true_implies, false_implies, implies_true, Option.toList_some, Option.toList_none, List.cons_append, List.nil_append, Nat.add_eq_zero_iff, a_nl_i, a_nl_r, a_nl_n, true_or, or_true, eq_self, a_isRA_22, a_isRA_24, a_isRA_32, a_isA_20, ok_4, ok_5, ok_6, ok_7, ok_9, ok_20, ok_21, ok_30, ok_50, ok_180, ok_192, ok_200]
    exact hl
  clear hP h2
  rw [a_enter (M := a_m66) rfl (by rw [a_len_ril]; decide)]
  show a_at _ (a_xm a_m66) 0 (a_init [a_rf C, .int m, .long w] 4) [] _ _
  rw [a_init_ril4]
  repeat' first
    | with_reducible apply And.intro
    | with_reducible assumption
    | with_reducible intro _
    | refine ck_refuseh hZ (fun _ _ => ?_)
    | refine h1 ?_ _ (by assumption)
    | refine h2' ?_ ?_ _ (by assumption)
    | refine hg ?_ ?_ ?_
    | simp only [q66_0, q66_1, q66_2, q66_5, q66_6, q66_8, q66_11, q66_12, q66_13, q66_15, q66_18, q66_19, q66_21, q66_22, q66_25, q66_28, q66_29, q66_32, q66_33, q66_35, q66_38, q66_39, q66_40, q66_43, q66_44, q66_45, q66_48, k_0 hS, z_C hS, r_0_2 hS, k_11 hS, z_11, as_nil, as_i, as_r, Nat.reduceAdd, Nat.reduceLeDiff, z_eq0, z_eq1, z_or, z_em, Classical.not_not, not_false_eq_true, not_true_eq_false, true_and, and_true, false_and, and_false, and_self, true_implies, false_implies, implies_true, Option.toList_some, Option.toList_none, List.cons_append, List.nil_append, Nat.add_eq_zero_iff, a_nl_i, a_nl_r, a_nl_n, true_or, or_true, eq_self, a_isRA_22, a_isRA_24, a_isRA_32, a_isA_20, ok_4, ok_5, ok_6, ok_7, ok_9, ok_20, ok_21, ok_30, ok_50, ok_180, ok_192, ok_200]
  all_goals ((try clear h1); (try clear h2'); (try clear hg); (try clear hP); (try clear hZ); (try clear hH); (try clear hT); (try clear hS); grind [ui_ap])

theorem ke_texth (hH : cH C c (n + 1) t K L I R) {s : Int32} (h1 : ¬ (0 ≤ s ∧ s ≤ 199) → ∀ J, cZh C c (n + 1) K L I R (n + 1) t K L J R → P (some (.int (-1))) (n + 1, t, K, L, J, R)) (h2 : (0 ≤ s ∧ s ≤ 199) → 20 ≤ I (C + 7) 3 → ∀ J, cZh C c (n + 1) K L I R (n + 1) t K L J R → P (some (.int (-6))) (n + 1, t, K, L, J, R)) (h3 : (0 ≤ s ∧ s ≤ 199) → ¬ 20 ≤ I (C + 7) 3 → (xT (I (C + 12)) (I (C + 11) 2)).1 = false → ∀ J, tq C K L R I J → cT C K L (a_ui J (C + 11) 2 0) R → P (some (.int (-20 - (xT (I (C + 12)) (I (C + 11) 2)).2.1))) (n + 1, t, K, L, (a_ui J (C + 11) 2 0), R)) (h4 : (0 ≤ s ∧ s ≤ 199) → ¬ 20 ≤ I (C + 7) 3 → (xT (I (C + 12)) (I (C + 11) 2)).1 = true → ∀ n' t' K' L' J R', cZh C (c + 2) (n + 1) K L I R (n' + 1) t' K' L' J R' → J (C + 7) 3 = I (C + 7) 3 → n + 1 ≤ n' → K' n' = 11 → J n' 4 = 0 → cH C (c + 2) (n' + 1) t' K' L' (a_ui (a_ui J (C + 7) 3 (I (C + 7) 3 + 1)) (C + 11) 2 0) (a_ur R' (C + 8) (I (C + 7) 3).toNatClampNeg n') → P (some (.int (I (C + 7) 3 + 1 - 1))) (n' + 1, t', K', L', (a_ui (a_ui J (C + 7) 3 (I (C + 7) 3 + 1)) (C + 11) 2 0), a_ur R' (C + 8) (I (C + 7) 3).toNatClampNeg n')) : a_does (d + 70) 68 [a_rf C, .int s] (n + 1, t, K, L, I, R) P := by
  have hT := hH.1
  have hS := hT.s
  have hZ := cZ_reflh hH
  have g7 := hT.g_texts
  have hC := hH.2.2.1
  have hr1 : ¬ (0 ≤ s ∧ s ≤ 199) → ∀ J, cZh C c (n + 1) K L I R (n + 1) t K L J R → P (some (.int (-1))) (n + 1, t, K, L, J, R) := h1
  have hgo : (0 ≤ s ∧ s ≤ 199) → ¬ 20 ≤ I (C + 7) 3 → a_at (d + 69) (a_xm a_m68) 32 [some (a_rf C), some (.int s), none, none] [] (n + 1, t, K, L, I, R) P := fun q1 q2 => by
    have h3 := h3 q1 q2
    have h4 := h4 q1 q2
    simp only [q68_32, q68_33, q68_36, k_0 hS, z_C hS, r_0_2 hS, k_11 hS, z_11, as_nil, as_i, as_r, Nat.reduceAdd, Nat.reduceLeDiff, z_eq0, z_eq1, z_or, z_em, Classical.not_not, not_false_eq_true, not_true_eq_false, true_and, and_true, false_and, and_false, and_self, true_implies, false_implies, implies_true, Option.toList_some, Option.toList_none, List.cons_append, List.nil_append, Nat.add_eq_zero_iff, a_nl_i, a_nl_r, a_nl_n, true_or, or_true, eq_self, a_isRA_22, a_isRA_24, a_isRA_32, a_isA_20, ok_4, ok_5, ok_6, ok_7, ok_9, ok_20, ok_21, ok_30, ok_50, ok_180, ok_192, ok_200]
    refine ce_read (d := d + 8) hT (fun J t1 t2 t3 => ?_)
    have hS := t1.1.s
    by_cases ok : (xT (I (C + 12)) (I (C + 11) 2)).1 = true
    · rw [if_pos ok]
      have n10 : ¬ (1 : Int32) = 0 := by decide
      have z := cZ_Gh hZ (tq_dGh t1 hT)
      have e7 : J (C + 7) 3 = I (C + 7) 3 := t1.2 _ _ (by omega) (by omega)
      have h4 := h4 ok
      clear h1 h2 h3 hr1 t3
      simp only [q68_39, q68_40, q68_41, q68_44, q68_45, q68_48, q68_49, q68_52, k_0 hS, z_C hS, r_0_1 hS, k_7 hS, z_7, r_0_2 hS, k_11 hS, z_11, as_nil, as_i, as_r, Nat.reduceAdd, Nat.reduceLeDiff, z_eq0, z_eq1, z_or, z_em, Classical.not_not, not_false_eq_true, not_true_eq_false, true_and, and_true, false_and, and_false, and_self, true_implies, false_implies, implies_true, Option.toList_some, Option.toList_none, List.cons_append, List.nil_append, Nat.add_eq_zero_iff, a_nl_i, a_nl_r, a_nl_n, true_or, or_true, eq_self, a_isRA_22, a_isRA_24, a_isRA_32, a_isA_20, ok_4, ok_5, ok_6, ok_7, ok_9, ok_20, ok_21, ok_30, ok_50, ok_180, ok_192, ok_200, n10]
      try simp only [true_and, and_true, true_implies, false_implies, implies_true, not_true_eq_false, not_false_eq_true]
      refine ck_letter t1.1 (fun v2 => ?_)
      simp only [q68_55, q68_56, q68_57, q68_60, k_0 hS, z_C hS, r_0_2 hS, k_11 hS, z_11, as_nil, as_i, as_r, Nat.reduceAdd, Nat.reduceLeDiff, z_eq0, z_eq1, z_or, z_em, Classical.not_not, not_false_eq_true, not_true_eq_false, true_and, and_true, false_and, and_false, and_self, true_implies, false_implies, implies_true, Option.toList_some, Option.toList_none, List.cons_append, List.nil_append, Nat.add_eq_zero_iff, a_nl_i, a_nl_r, a_nl_n, true_or, or_true, eq_self, a_isRA_22, a_isRA_24, a_isRA_32, a_isA_20, ok_4, ok_5, ok_6, ok_7, ok_9, ok_20, ok_21, ok_30, ok_50, ok_180, ok_192, ok_200]
      refine ck_writtenh z (fun t' K' L' J' R' z3 k1 l1 => ?_)
      have hS := z3.2.1.1.s
      have e7' : J' (C + 7) 3 = I (C + 7) 3 := z3.2.2.2.2.2.2 _ _ (by unfold eDh eD; omega) (by omega)
      simp only [q68_63, k_0 hS, z_C hS, as_nil, as_i, as_r, Nat.reduceAdd, Nat.reduceLeDiff, z_eq0, z_eq1, z_or, z_em, Classical.not_not, not_false_eq_true, not_true_eq_false, true_and, and_true, false_and, and_false, and_self, true_implies, false_implies, implies_true, Option.toList_some, Option.toList_none, List.cons_append, List.nil_append, Nat.add_eq_zero_iff, a_nl_i, a_nl_r, a_nl_n, true_or, or_true, eq_self, a_isRA_22, a_isRA_24, a_isRA_32, a_isA_20, ok_4, ok_5, ok_6, ok_7, ok_9, ok_20, ok_21, ok_30, ok_50, ok_180, ok_192, ok_200]
      refine ⟨k_7 hS, ck_addTexth z3 k1 (by omega) l1 (by rw [e7']; exact q2) (fun t' K' L' J2 R' z4 e8 k11 e4 g8 => ?_)⟩
      have hS := z4.2.1.1.s
      rw [e7'] at e8 g8 ⊢
      have hT2 : cT C K' L' (a_ui (a_ui J2 (C + 7) 3 (I (C + 7) 3 + 1)) (C + 11) 2 0) (a_ur R' (C + 8) (I (C + 7) 3).toNatClampNeg (n + 1 + 1)) := sT_Tape_size (sT_Rules_count g8.1 (by clear h4 z z3 z4 g8 hH hT hZ hS t1; grind)) (by decide)
      have hS := hT2.s
      have hf := h4 _ _ _ _ _ _ (cZ_leh z4 (by omega)) e8 (by omega) k11 e4 (cH_le (cH_J g8 hT2) (by omega))
      simp only [q68_66, q68_69, q68_71, q68_72, q68_75, q68_78, q68_79, q68_80, q68_81, q68_84, q68_85, q68_88, q68_89, k_0 hS, z_C hS, r_0_2 hS, k_11 hS, z_11, as_nil, as_i, as_r, Nat.reduceAdd, Nat.reduceLeDiff, z_eq0, z_eq1, z_or, z_em, Classical.not_not, not_false_eq_true, not_true_eq_false, true_and, and_true, false_and, and_false, and_self, true_implies, false_implies, implies_true, Option.toList_some, Option.toList_none, List.cons_append, List.nil_append, Nat.add_eq_zero_iff, a_nl_i, a_nl_r, a_nl_n, true_or, or_true, eq_self, a_isRA_22, a_isRA_24, a_isRA_32, a_isA_20, ok_4, ok_5, ok_6, ok_7, ok_9, ok_20, ok_21, ok_30, ok_50, ok_180, ok_192, ok_200, ui_ap, cc_ne, cc_n0, cc_0n, Nat.reduceEqDiff, reduceIte, if_true, if_false]
      exact hf
    · have ok2 : (xT (I (C + 12)) (I (C + 11) 2)).1 = false := by cases q : (xT (I (C + 12)) (I (C + 11) 2)).1; rfl; exact absurd q ok
      rw [if_neg ok]
      have hf := h3 ok2 J t1 (sT_Tape_size t1.1 (by decide))
      have hS := t1.1.s
      rw [← t2] at hf
      clear h1 h2 h3 h4 hr1 t3
      simp only [q68_39, q68_40, q68_41, q68_69, q68_71, q68_72, q68_75, q68_78, q68_79, q68_80, q68_81, q68_84, q68_85, q68_88, q68_89, k_0 hS, z_C hS, r_0_2 hS, k_11 hS, z_11, as_nil, as_i, as_r, Nat.reduceAdd, Nat.reduceLeDiff, z_eq0, z_eq1, z_or, z_em, Classical.not_not, not_false_eq_true, not_true_eq_false, true_and, and_true, false_and, and_false, and_self, true_implies, false_implies, implies_true, Option.toList_some, Option.toList_none, List.cons_append, List.nil_append, Nat.add_eq_zero_iff, a_nl_i, a_nl_r, a_nl_n, true_or, or_true, eq_self, a_isRA_22, a_isRA_24, a_isRA_32, a_isA_20, ok_4, ok_5, ok_6, ok_7, ok_9, ok_20, ok_21, ok_30, ok_50, ok_180, ok_192, ok_200, ui_ap, cc_ne, cc_n0, cc_0n, Nat.reduceEqDiff, reduceIte, if_true, if_false]
      try simp only [true_and, and_true, true_implies, false_implies, implies_true, not_true_eq_false, not_false_eq_true]
      exact hf
  clear h3 h4
  rw [a_enter1 (M := a_m68) rfl (a_cat_rf (a_cat_int a_cat_nil)) (show 2 ≤ 4 by decide)]
  show a_at _ (a_xm a_m68) 0 [some (a_rf C), some (.int s), none, none] [] _ _
  repeat' first
    | with_reducible apply And.intro
    | with_reducible assumption
    | with_reducible intro _
    | refine ck_refuseh hZ (fun _ _ => ?_)
    | refine hr1 ?_ _ (by assumption)
    | refine h2 ?_ ?_ _ (by assumption)
    | refine hgo ?_ ?_
    | simp only [q68_0, q68_1, q68_4, q68_7, q68_8, q68_9, q68_12, q68_13, q68_14, q68_17, q68_20, q68_22, q68_25, q68_26, q68_28, q68_31, k_0 hS, z_C hS, r_0_1 hS, k_7 hS, z_7, sp_isShiftC, as_nil, as_i, as_r, Nat.reduceAdd, Nat.reduceLeDiff, z_eq0, z_eq1, z_or, z_em, Classical.not_not, not_false_eq_true, not_true_eq_false, true_and, and_true, false_and, and_false, and_self, true_implies, false_implies, implies_true, Option.toList_some, Option.toList_none, List.cons_append, List.nil_append, Nat.add_eq_zero_iff, a_nl_i, a_nl_r, a_nl_n, true_or, or_true, eq_self, a_isRA_22, a_isRA_24, a_isRA_32, a_isA_20, ok_4, ok_5, ok_6, ok_7, ok_9, ok_20, ok_21, ok_30, ok_50, ok_180, ok_192, ok_200]
  all_goals ((try clear h1); (try clear h2); (try clear hr1); (try clear hgo); (try clear hZ); (try clear hH); (try clear hT); (try clear hS); grind [ui_ap])
end KZ
/-! strike, just so -/
section KS
variable {d n t C c n0 n' n'' t' : Nat} {K L K0 L0 K' L' K'' L'' : Nat → Nat} {I I0 J J0 J1 J2 : Nat → Nat → Int32} {R R0 R' R'' : Nat → Nat → Nat} {P : Option Value → AH → Prop}
theorem ke_strikeh (hH : cH C c (n + 1) t K L I R) {x s : Int32} (hx : 0 ≤ x → x < I (C + 7) 3 → ¬ (R (C + 8) x.toNatClampNeg) = 0) (h1 : ¬ ((0 ≤ x ∧ x < I (C + 7) 3) ∧ (0 ≤ s ∧ s < 200)) → ∀ J, cZh C c (n + 1) K L I R (n + 1) t K L J R → P (some (.int (-1))) (n + 1, t, K, L, J, R)) (h2 : ((0 ≤ x ∧ x < I (C + 7) 3) ∧ (0 ≤ s ∧ s < 200)) → ¬ I (R (C + 8) x.toNatClampNeg) 4 = 0 → ∀ J, cZh C c (n + 1) K L I R (n + 1) t K L J R → P (some (.int (-3))) (n + 1, t, K, L, J, R)) (hP : ((0 ≤ x ∧ x < I (C + 7) 3) ∧ (0 ≤ s ∧ s < 200)) → I (R (C + 8) x.toNatClampNeg) 4 = 0 → cT C K L (a_ui (a_ui I (R (C + 8) x.toNatClampNeg) 4 1) (R (C + 8) x.toNatClampNeg) 3 s) R → P (some (.int 1)) (n + 1, t, K, L, (a_ui (a_ui I (R (C + 8) x.toNatClampNeg) 4 1) (R (C + 8) x.toNatClampNeg) 3 s), R)) : a_does (d + 70) 84 [a_rf C, .int x, .int s] (n + 1, t, K, L, I, R) P := by
  have hT := hH.1
  have hS := hT.s
  have hZ := cZ_reflh hH
  have gA := hT.g_asksR
  have gB := hT.g_benchesR
  have gX := hT.g_textsR
  have g7 := hT.g_texts
  have gi := gX x.toNatClampNeg
  have gx := fun h => (hT.g_txt (R (C + 8) x.toNatClampNeg) (gi.resolve_left h)).1
  have hx2 : (R (C + 8) x.toNatClampNeg) = 0 → ¬ ((0 ≤ x ∧ x < I (C + 7) 3) ∧ (0 ≤ s ∧ s < 200)) := fun e q => hx q.1.1 q.1.2 e
  have hf : ((0 ≤ x ∧ x < I (C + 7) 3) ∧ (0 ≤ s ∧ s < 200)) → I (R (C + 8) x.toNatClampNeg) 4 = 0 → ¬ (R (C + 8) x.toNatClampNeg) = 0 → P (some (.int 1)) (n + 1, t, K, L, (a_ui (a_ui I (R (C + 8) x.toNatClampNeg) 4 1) (R (C + 8) x.toNatClampNeg) 3 s), R) := fun q1 q2 q3 => hP q1 q2 (sT_txt (sT_txt hT (gx q3) (gi.resolve_left q3)) (gx q3) (gi.resolve_left q3))
  rw [a_enter1 (M := a_m84) rfl (a_cat_rf (a_cat_int (a_cat_int a_cat_nil))) (show 3 ≤ 4 by decide)]
  show a_at _ (a_xm a_m84) 0 [some (a_rf C), some (.int x), some (.int s), none] [] _ _
  repeat' first
    | with_reducible apply And.intro
    | with_reducible assumption
    | with_reducible intro _
    | refine ck_refuseh hZ (fun _ _ => ?_)
    | refine h1 ?_ _ (by assumption)
    | refine h2 ?_ ?_ _ (by assumption)
    | refine hf ?_ ?_ ?_
    | simp only [q84_0, q84_1, q84_4, q84_5, q84_8, q84_9, q84_10, q84_13, q84_14, q84_17, q84_20, q84_21, q84_22, q84_25, q84_26, q84_27, q84_30, q84_33, q84_34, q84_36, q84_39, q84_40, q84_41, q84_42, q84_45, q84_46, q84_47, q84_50, q84_51, k_0 hS, z_C hS, r_0_1 hS, k_7 hS, z_7, sp_textAt hS gX, sp_isShiftC, as_nil, as_i, as_r, Nat.reduceAdd, Nat.reduceLeDiff, z_eq0, z_eq1, z_or, z_em, Classical.not_not, not_false_eq_true, not_true_eq_false, true_and, and_true, false_and, and_false, and_self, true_implies, false_implies, implies_true, Option.toList_some, Option.toList_none, List.cons_append, List.nil_append, Nat.add_eq_zero_iff, a_nl_i, a_nl_r, a_nl_n, true_or, or_true, eq_self, a_isRA_22, a_isRA_24, a_isRA_32, a_isA_20, ok_4, ok_5, ok_6, ok_7, ok_9, ok_20, ok_21, ok_30, ok_50, ok_180, ok_192, ok_200, ui_ap, cc_ne, cc_n0, cc_0n, Nat.reduceEqDiff, reduceIte, if_true, if_false]
  all_goals ((try clear hf); (try clear gA); (try clear gB); (try clear gX); (try clear gx); (try clear h1); (try clear h2); (try clear h3); (try clear h4); (try clear hP); (try clear hZ); (try clear hH); (try clear hT); (try clear hS); grind [ui_ap])
end KS
/-! giving and taking back: the model's words, the reference -/
section YX1
variable {Y Z : Nat → Nat → Int32}
theorem wtA_b (h : sbE Y Z) {g a b s : Int32} : wtA Z g a b s = wtA Y g a b s := by
  unfold wtA
  rw [hgY_b h, fcA_b h, h 0 41 (by unfold sb; omega)]
theorem fxY_b (h : sbE Y Z) {a b s : Int32} : fxY Z a b s = fxY Y a b s := by
  unfold fxY
  rw [sbE_r h (k := 12) (by omega), sbE_r h (k := 5) (by omega), sbE_r h (k := 11) (by omega), h 0 0 (by unfold sb; omega), sbE_r h (k := 1) (by omega), liY_b h, sbE_r h (k := 13) (by omega)]
/-- who would stand in the i-th SHIFT of a place -/
def sdY (Y : Nat → Nat → Int32) (a b s i : Int32) : Int32 := sfB (fhY Y a b (s + i)) (if 0 ≤ wtA Y 87 a b (s + i) then 2 else 1)
theorem sdY_c {a b s i : Int32} (hn : 0 ≤ Y 0 17 ∧ Y 0 17 ≤ 30) (hl : ∀ j, 0 ≤ Y 10 j ∧ Y 10 j ≤ 4) (hs : sbE Y Z) (hq : ∀ o : Int32, 0 ≤ o → o < 30 → ¬ o = a → Z 20 o.toNatClampNeg = Y 20 o.toNatClampNeg ∧ Z 21 o.toNatClampNeg = Y 21 o.toNatClampNeg ∧ (0 ≤ Y 20 o.toNatClampNeg → ∀ i : Int32, 0 ≤ i → i < Y 10 o.toNatClampNeg → Z 22 (4 * o + i).toNatClampNeg = Y 22 (4 * o + i).toNatClampNeg)) : sdY Z a b s i = sdY Y a b s i := by
  unfold sdY
  rw [fhY_c hn hl (sbE_r hs (by omega)) (hs 0 17 (by unfold sb; omega)) (hs 0 9 (by unfold sb; omega)) (fun o o0 o1 on => ⟨(hq o o0 o1 on).1, (hq o o0 o1 on).2.1, by rw [sbE_r hs (k := 10) (by omega)], (hq o o0 o1 on).2.2⟩), wtA_b hs]
/-- an ASK has a place; has none -/
def puY (Y : Nat → Nat → Int32) (a b s : Int32) : Nat → Nat → Int32 := fun k j => if k = 20 ∧ j = a.toNatClampNeg then b else if k = 21 ∧ j = a.toNatClampNeg then s else if k = 22 ∧ 4 * a.toNatClampNeg ≤ j ∧ j < 4 * a.toNatClampNeg + (Y 10 a.toNatClampNeg).toNatClampNeg then sdY Y a b s (Int32.ofNat (j - 4 * a.toNatClampNeg)) else Y k j
def unY (Y : Nat → Nat → Int32) (a : Int32) : Nat → Nat → Int32 := fun k j => if (k = 20 ∨ k = 21) ∧ j = a.toNatClampNeg then -9 else Y k j
theorem puY_b {a b s : Int32} : sbE Y (puY Y a b s) := fun k j h => by
  unfold sb at h
  unfold puY
  rw [if_neg (by omega), if_neg (by omega), if_neg (by omega)]
theorem unY_b {a : Int32} : sbE Y (unY Y a) := fun k j h => by
  unfold sb at h
  unfold unY
  rw [if_neg (by omega)]
end YX1
/-- cells of the model that aren't looked at here: its reader's, what happened, how often it refused -/
def mk0 (k j : Nat) : Prop := k = 23 ∨ k = 24 ∨ k = 25 ∨ k = 26 ∨ k = 32 ∨ k = 33 ∨ k = 34 ∨ (k = 0 ∧ (j = 35 ∨ (46 ≤ j ∧ j ≤ 51) ∨ j = 54 ∨ j = 56))
def yR (M : Nat) (I J : Nat → Nat → Int32) (Y : Nat → Nat → Int32) : Prop := mR M J ∧ (∀ x j, (x < M ∨ M + 52 < x) → J x j = I x j) ∧ ∀ k j, k ≤ 52 → ¬ mk0 k j → J (M + k) j = Y k j
section YX2
variable {d n t M : Nat} {K L : Nat → Nat} {I I0 J J0 J1 J2 : Nat → Nat → Int32} {R : Nat → Nat → Nat} {P : Option Value → AH → Prop} {f : Nat → Int32} {e : Int32}
theorem moP_S (h : moP M I0) (hC : mS M I0 I) : moP M I := by
  obtain ⟨h1, h2, h3, h4, h5, h6⟩ := h
  have e : ∀ k j, ¬ (k = 32 ∨ k = 33 ∨ k = 34 ∨ k = 0 ∨ k = 22) → (yv M I) k j = yv M I0 k j := fun k j q => hC.2 _ _ (by unfold sC; omega) (by omega)
  have e41 : (yv M I) 0 41 = yv M I0 0 41 := hC.2 _ _ (by unfold sC; omega) (by omega)
  have e2 : I M 2 = I0 M 2 := hC.2 _ _ (by unfold sC; omega) (by omega)
  refine ⟨hC.1, fun k q => ?_, fun x hx => ?_, fun j hj => ?_, fun j hj => ?_, fun b => ?_⟩
  · rw [e 38 k (by omega)] at q
    rw [e 36 k (by omega)]
    exact h2 k q
  · rw [e41] at hx
    have ew : wtY (yv M I) x = wtY (yv M I0) x := funext (fun j => e _ _ (by omega))
    rw [ew, e 29 x (by omega)]
    exact h3 x hx
  · rw [e2] at hj
    have e3 : I (M + 2) j = I0 (M + 2) j := hC.2 _ _ (by unfold sC; omega) (by omega)
    have e4 : I (M + 3) j = I0 (M + 3) j := hC.2 _ _ (by unfold sC; omega) (by omega)
    rw [e3, e4]
    exact h4 j hj
  · rw [e 20 j (by omega), e 21 j (by omega), e 10 j (by omega)]
    exact h5 j hj
  · rw [e 6 b (by omega)]
    exact h6 b
theorem on_sub {a i : Int32} (h : 0 ≤ i) : Int32.ofNat (4 * a.toNatClampNeg + i.toNatClampNeg - 4 * a.toNatClampNeg) = i := by
  rw [show 4 * a.toNatClampNeg + i.toNatClampNeg - 4 * a.toNatClampNeg = i.toNatClampNeg by omega]
  exact (on_cl h).symm
theorem xt_putAt_3 (hS : m_S M K L R) (hm : moP M I) {a b s : Int32} (ha : 0 ≤ a ∧ a < 30) (hb : 0 ≤ b ∧ b ≤ 5) (hP : ∀ J, mR M J → (∀ x j, ¬ sC M x j → J x j = if x = M + 22 ∧ 4 * a.toNatClampNeg ≤ j ∧ j < 4 * a.toNatClampNeg + (I (M + 10) a.toNatClampNeg).toNatClampNeg then sdY (yv M I) a b s (Int32.ofNat (j - 4 * a.toNatClampNeg)) else I x j) → P none (n, t, K, L, (a_ui (a_ui J (M + 20) a.toNatClampNeg b) (M + 21) a.toNatClampNeg s), R)) : ∀ i : Int32, i ≤ 4 → ∀ J, 0 ≤ i → i ≤ I (M + 10) a.toNatClampNeg → mR M J → (∀ x j, ¬ sC M x j → J x j = if x = M + 22 ∧ 4 * a.toNatClampNeg ≤ j ∧ j < 4 * a.toNatClampNeg + i.toNatClampNeg then sdY (yv M I) a b s (Int32.ofNat (j - 4 * a.toNatClampNeg)) else I x j) → a_at (d + 9) (a_xm a_m231) 3 [some (a_rf M), some (.int a), some (.int b), some (.int s), some (.int i)] [] (n, t, K, L, J, R) P := by
  have gl := rg_length hm.1
  have ga := rg_asks hm.1
  have glA := gl a.toNatClampNeg
  refine up_ind 4 (fun i i4 ih => ?_)
  intro J h0 h1 hR hJ
  have el : J (M + 10) a.toNatClampNeg = I (M + 10) a.toNatClampNeg := by rw [hJ _ _ (by unfold sC; omega), if_neg (by omega)]
  generalize ez : I (M + 10) a.toNatClampNeg = z at glA h1 hP ih el
  have hexit : ¬ i < z → P none (n, t, K, L, (a_ui (a_ui J (M + 20) a.toNatClampNeg b) (M + 21) a.toNatClampNeg s), R) := fun w => by
    have e := (lp_end h1 w).2
    subst e
    exact hP J hR hJ
  have hgo : i < z → a_does (d + 9) 232 [a_rf M, .int a, .int b, .int (s + i)] (n, t, K, L, J, R) (fun r h' => a_at (d + 9) (a_xm a_m231) 34 [some (a_rf M), some (.int a), some (.int b), some (.int s), some (.int i)] (r.toList ++ [.int (4 * a + i), a_rf (M + 22)]) h' P) := fun w => by
    obtain ⟨s1, s2, s3, s4⟩ := lp_st h0 w
    have hi : 0 ≤ i ∧ i < 4 := ⟨h0, Int32.lt_of_lt_of_le w glA.2⟩
    obtain ⟨n1, n2, n3⟩ := n4 ha hi
    have hSt : mS M I J := ⟨hR, fun x j p q => by rw [hJ x j p, if_neg (fun e => q e.1)]⟩
    have hmJ := moP_S hm hSt
    have hsb : sbE (yv M I) (yv M J) := fun k j q => by
      unfold sb at q
      exact hSt.2 _ _ (by unfold sC; omega) (by omega)
    refine xt_standFor (d := d) hS hmJ (mC_refl hR) ha hb (fun J2 c2 => ?_)
    have ev : sfB (fhY (yv M J) a b (s + i)) (if 0 ≤ wtA (yv M J) 87 a b (s + i) then 2 else 1) = sdY (yv M I) a b s i := sdY_c (Z := yv M J) ga gl hsb (fun o o0 o1 on => ⟨hSt.2 _ _ (by unfold sC; omega) (by omega), hSt.2 _ _ (by unfold sC; omega) (by omega), fun _ x x0 x1 => by
      have x1 := Int32.lt_of_lt_of_le x1 (gl o.toNatClampNeg).2
      obtain ⟨m1, -, -⟩ := n4 ⟨o0, o1⟩ ⟨x0, x1⟩
      have hx := lt4 ⟨x0, x1⟩
      have hii := lt4 hi
      have hne : ¬ o.toNatClampNeg = a.toNatClampNeg := fun e => on (cl_inj o0 ha.1 e)
      show J (M + 22) _ = I (M + 22) _
      rw [hJ _ _ (by unfold sC; omega), if_neg (by rw [m1]; omega)]⟩)
    rw [ev]
    have hg := ih (by clear ih hP hexit; grind) (a_ui J2 (M + 22) (4 * a + i).toNatClampNeg (sdY (yv M I) a b s i)) s2 s3 (sR_standing c2.1) (fun x j p => by
      rw [ui_ap, n1]
      by_cases e : x = M + 22 ∧ j = 4 * a.toNatClampNeg + i.toNatClampNeg
      · rw [if_pos e, if_pos ⟨e.1, by omega, by omega⟩, e.2, on_sub h0]
      · rw [if_neg e, c2.2 x j p, hJ x j p]
        by_cases e2 : x = M + 22 ∧ 4 * a.toNatClampNeg ≤ j ∧ j < 4 * a.toNatClampNeg + i.toNatClampNeg
        · rw [if_pos e2, if_pos ⟨e2.1, e2.2.1, by omega⟩]
        · rw [if_neg e2, if_neg (fun q => e2 ⟨q.1, q.2.1, by omega⟩)])
    clear ih hP hexit hm hmJ hsb ev hJ hSt c2
    simp only [q231_34, q231_35, q231_38, as_nil, as_i, as_r, Nat.reduceAdd, Nat.reduceLeDiff, z_eq0, z_eq1, z_or, z_em, Classical.not_not, not_false_eq_true, not_true_eq_false, true_and, and_true, false_and, and_false, and_self, true_implies, false_implies, implies_true, Option.toList_some, Option.toList_none, List.cons_append, List.nil_append, Nat.add_eq_zero_iff, a_nl_i, a_nl_r, a_nl_n, true_or, or_true, eq_self, ok_4, ok_5, ok_6, ok_7, ok_9, ok_10, ok_20, ok_21, ok_24, ok_30, ok_48, ok_50, ok_60, ok_80, ok_120, ok_180, ok_192, ok_200, ok_900, ok_1000, ok_84000, mK_standing hS, mL_standing hS]
    first
      | exact hg
      | exact ⟨⟨n2, n3⟩, hg⟩
      | grind
  have a30 : 0 ≤ a ∧ a < 30 := ha
  clear ih hP hm hJ
  rw [q231_3]
  repeat' first
    | with_reducible apply And.intro
    | with_reducible assumption
    | with_reducible intro _
    | refine hexit ?_
    | refine hgo ?_
    | simp only [q231_5, q231_6, q231_9, q231_10, q231_11, q231_14, q231_15, q231_18, q231_19, q231_20, q231_21, q231_23, q231_24, q231_25, q231_26, q231_27, q231_28, q231_30, q231_31, q231_41, q231_42, q231_45, q231_46, q231_47, q231_48, q231_49, q231_52, q231_53, q231_54, q231_55, m_0 hS, m_K hS, mR_length hS, mK_length hS, mL_length hS, mR_standing hS, mK_standing hS, mL_standing hS, mR_atBench hS, mK_atBench hS, mL_atBench hS, mR_atShift hS, mK_atShift hS, mL_atShift hS, as_nil, as_i, as_r, Nat.reduceAdd, Nat.reduceLeDiff, z_eq0, z_eq1, z_or, z_em, Classical.not_not, not_false_eq_true, not_true_eq_false, true_and, and_true, false_and, and_false, and_self, true_implies, false_implies, implies_true, Option.toList_some, Option.toList_none, List.cons_append, List.nil_append, Nat.add_eq_zero_iff, a_nl_i, a_nl_r, a_nl_n, true_or, or_true, eq_self, ok_4, ok_5, ok_6, ok_7, ok_9, ok_10, ok_20, ok_21, ok_24, ok_30, ok_48, ok_50, ok_60, ok_80, ok_120, ok_180, ok_192, ok_200, ok_900, ok_1000, ok_84000, el, a30]
  all_goals ((try clear hexit); (try clear hgo); (try clear hS); grind [ui_ap])
theorem xt_putAt (hS : m_S M K L R) (hm : moP M I) {a b s : Int32} (ha : 0 ≤ a ∧ a < 30) (hb : 0 ≤ b ∧ b ≤ 5) (hs : -9 ≤ s ∧ s ≤ 200) (hP : ∀ J, (∀ x j, ¬ sC M x j → ¬ x = M + 20 → ¬ x = M + 21 → ¬ x = M + 22 → J x j = I x j) → yR M I J (puY (yv M I) a b s) → P none (n, t, K, L, J, R)) : a_does (d + 10) 231 [a_rf M, .int a, .int b, .int s] (n, t, K, L, I, R) P := by
  have gl := rg_length hm.1 a.toNatClampNeg
  have hl := xt_putAt_3 (d := d) (n := n) (t := t) (P := P) hS hm ha hb (s := s) (fun J hR hJ => by
    refine hP _ (fun x j p q1 q2 q3 => by rw [ui_ap, if_neg (fun e => q2 e.1), ui_ap, if_neg (fun e => q1 e.1), hJ x j p, if_neg (fun e => q3 e.1)]) ⟨sR_atShift (sR_atBench hR (by clear hP hJ; grind)) hs, fun x j p => by rw [ui_ap, if_neg (by omega), ui_ap, if_neg (by omega), hJ x j (by unfold sC; omega), if_neg (by omega)], fun k j hk q => ?_⟩
    unfold mk0 at q
    unfold puY
    rw [ui_ap, ui_ap]
    by_cases e1 : k = 20 ∧ j = a.toNatClampNeg
    · rw [if_neg (by omega), if_pos (by omega), if_pos e1]
    · by_cases e2 : k = 21 ∧ j = a.toNatClampNeg
      · rw [if_pos (by omega), if_neg e1, if_pos e2]
      · rw [if_neg (by omega), if_neg (by omega), if_neg e1, if_neg e2, hJ _ _ (by unfold sC; omega)]
        by_cases e3 : k = 22 ∧ 4 * a.toNatClampNeg ≤ j ∧ j < 4 * a.toNatClampNeg + ((yv M I) 10 a.toNatClampNeg).toNatClampNeg
        · rw [if_pos e3, if_pos ⟨by omega, e3.2⟩]
        · rw [if_neg e3, if_neg (fun z => e3 ⟨by omega, z.2⟩)]
          rfl) 0 (by decide) I (by decide) gl.1 hm.1 (fun x j p => by rw [if_neg (by rw [show (0 : Int32).toNatClampNeg = 0 from rfl]; omega)])
  clear hP hm
  rw [a_enter1 (M := a_m231) rfl (a_cat_rf (a_cat_int (a_cat_int (a_cat_int a_cat_nil)))) (show 4 ≤ 5 by decide)]
  show a_at _ (a_xm a_m231) 0 [some (a_rf M), some (.int a), some (.int b), some (.int s), none] [] _ _
  simp only [q231_0, q231_1, as_nil, as_i, as_r, Nat.reduceAdd, Nat.reduceLeDiff, z_eq0, z_eq1, z_or, z_em, Classical.not_not, not_false_eq_true, not_true_eq_false, true_and, and_true, false_and, and_false, and_self, true_implies, false_implies, implies_true, Option.toList_some, Option.toList_none, List.cons_append, List.nil_append, Nat.add_eq_zero_iff, a_nl_i, a_nl_r, a_nl_n, true_or, or_true, eq_self, ok_4, ok_5, ok_6, ok_7, ok_9, ok_10, ok_20, ok_21, ok_24, ok_30, ok_48, ok_50, ok_60, ok_80, ok_120, ok_180, ok_192, ok_200, ok_900, ok_1000, ok_84000]
  exact hl
theorem xt_giveTo0 (hS : m_S M K L R) (hm : moP M I) (hv : I M 35 ≤ 83996) {a b s : Int32} (ha : 0 ≤ a ∧ a < 30) (hb : 0 ≤ b ∧ b ≤ 5) (hs : -9 ≤ s ∧ s ≤ 200) (hP : ∀ J, yR M I J (puY (yv M I) a b s) → P none (n, t, K, L, J, R)) : a_does (d + 11) 230 [a_rf M, .int a, .int b, .int s] (n, t, K, L, I, R) P := by
  rw [a_enter1 (M := a_m230) rfl (a_cat_rf (a_cat_int (a_cat_int (a_cat_int a_cat_nil)))) (show 4 ≤ 5 by decide)]
  show a_at _ (a_xm a_m230) 0 [some (a_rf M), some (.int a), some (.int b), some (.int s), none] [] _ _
  simp only [q230_0, q230_1, q230_2, q230_3, q230_4, m_0 hS, m_K hS, as_nil, as_i, as_r, Nat.reduceAdd, Nat.reduceLeDiff, z_eq0, z_eq1, z_or, z_em, Classical.not_not, not_false_eq_true, not_true_eq_false, true_and, and_true, false_and, and_false, and_self, true_implies, false_implies, implies_true, Option.toList_some, Option.toList_none, List.cons_append, List.nil_append, Nat.add_eq_zero_iff, a_nl_i, a_nl_r, a_nl_n, true_or, or_true, eq_self, ok_4, ok_5, ok_6, ok_7, ok_9, ok_10, ok_20, ok_21, ok_24, ok_30, ok_48, ok_50, ok_60, ok_80, ok_120, ok_180, ok_192, ok_200, ok_900, ok_1000, ok_84000]
  refine xt_putAt (d := d) hS hm ha hb hs (fun J hf hy => ?_)
  simp only [q230_7, q230_8, as_nil, as_i, as_r, Nat.reduceAdd, Nat.reduceLeDiff, z_eq0, z_eq1, z_or, z_em, Classical.not_not, not_false_eq_true, not_true_eq_false, true_and, and_true, false_and, and_false, and_self, true_implies, false_implies, implies_true, Option.toList_some, Option.toList_none, List.cons_append, List.nil_append, Nat.add_eq_zero_iff, a_nl_i, a_nl_r, a_nl_n, true_or, or_true, eq_self, ok_4, ok_5, ok_6, ok_7, ok_9, ok_10, ok_20, ok_21, ok_24, ok_30, ok_48, ok_50, ok_60, ok_80, ok_120, ok_180, ok_192, ok_200, ok_900, ok_1000, ok_84000]
  have ev0 : J M 35 = I M 35 := hf _ _ (by unfold sC; omega) (by omega) (by omega) (by omega)
  have hl := rg_length hy.1 a.toNatClampNeg
  have hv0 := rg_events hy.1
  refine lp_giveTo_10 hS ha (by rw [ev0]; exact hv) hv0.1 (fun J2 hq => ?_) 0 (by decide) J (by decide) hl.1 (hq_refl hy.1)
  refine hP J2 ⟨hq.1, fun x j p => by rw [hq.2.1 x j (by unfold evC; omega)]; exact hy.2.1 x j p, fun k j hk q => ?_⟩
  rw [hq.2.1 _ _ (by unfold mk0 at q; unfold evC; omega)]
  exact hy.2.2 k j hk q
theorem xt_takeFrom0 (hS : m_S M K L R) (hR : mR M I) (hv : I M 35 ≤ 83996) {a : Int32} (ha : 0 ≤ a ∧ a < 30) (hP : ∀ J, yR M I J (unY (yv M I) a) → P none (n, t, K, L, J, R)) : a_does (d + 2) 186 [a_rf M, .int a] (n, t, K, L, I, R) P := by
  have hl := rg_length hR a.toNatClampNeg
  have hv0 := rg_events hR
  rw [a_enter1 (M := a_m186) rfl (a_cat_rf (a_cat_int a_cat_nil)) (show 2 ≤ 3 by decide)]
  show a_at _ (a_xm a_m186) 0 [some (a_rf M), some (.int a), none] [] _ _
  simp only [q186_0, q186_1, as_nil, as_i, as_r, Nat.reduceAdd, Nat.reduceLeDiff, z_eq0, z_eq1, z_or, z_em, Classical.not_not, not_false_eq_true, not_true_eq_false, true_and, and_true, false_and, and_false, and_self, true_implies, false_implies, implies_true, Option.toList_some, Option.toList_none, List.cons_append, List.nil_append, Nat.add_eq_zero_iff, a_nl_i, a_nl_r, a_nl_n, true_or, or_true, eq_self, ok_4, ok_5, ok_6, ok_7, ok_9, ok_10, ok_20, ok_21, ok_24, ok_30, ok_48, ok_50, ok_60, ok_80, ok_120, ok_180, ok_192, ok_200, ok_900, ok_1000, ok_84000]
  refine lp_takeFrom_2 hS ha hv hv0.1 (fun J hq => ?_) 0 (by decide) I (by decide) hl.1 (hq_refl hR)
  refine hP _ ⟨sR_atShift (sR_atBench hq.1 (by decide)) (by decide), fun x j p => by rw [ui_ap, if_neg (by omega), ui_ap, if_neg (by omega), hq.2.1 x j (by unfold evC; omega)], fun k j hk q => ?_⟩
  unfold unY
  unfold mk0 at q
  rw [ui_ap, ui_ap]
  by_cases e1 : (k = 20 ∨ k = 21) ∧ j = a.toNatClampNeg
  · rw [if_pos e1]
    by_cases e2 : k = 20
    · rw [if_neg (by omega), if_pos (by omega)]
    · rw [if_pos (by omega)]
  · rw [if_neg e1, if_neg (by omega), if_neg (by omega), hq.2.1 _ _ (by unfold evC; omega)]
    rfl
/-- with the row of events -/
theorem xt_giveTo (hS : m_S M K L R) (hm : moP M I) {c : Nat} (hF : mF M c I0 I) (hc : c + 4 ≤ 84000) {a b s : Int32} (ha : 0 ≤ a ∧ a < 30) (hb : 0 ≤ b ∧ b ≤ 5) (hs : -9 ≤ s ∧ s ≤ 200) (hP : ∀ J, mF M (c + 4) I0 J → yR M I J (puY (yv M I) a b s) → P none (n, t, K, L, J, R)) : a_does (d + 11) 230 [a_rf M, .int a, .int b, .int s] (n, t, K, L, I, R) P := by
  have h1 := ct_giveTo (d := d) hS hF hc ha hb hs (P := fun r h' => r = none ∧ ∃ J, h' = (n, t, K, L, J, R) ∧ mF M (c + 4) I0 J) (fun J q _ _ => ⟨rfl, J, rfl, q⟩)
  have h2 := xt_giveTo0 (d := d) hS hm (mE_ev hF.2 hF.1.1 hc) ha hb hs (P := fun r h' => r = none ∧ ∃ J, h' = (n, t, K, L, J, R) ∧ yR M I J (puY (yv M I) a b s)) (fun J q => ⟨rfl, J, rfl, q⟩)
  refine (does_and h1 h2).weaken (fun r h' q => ?_)
  obtain ⟨⟨e1, J, e2, q1⟩, ⟨-, J2, e3, q2⟩⟩ := q
  subst e1
  subst e2
  cases e3
  exact hP J q1 q2
theorem xt_takeFrom (hS : m_S M K L R) {c : Nat} (hF : mF M c I0 I) (hc : c + 4 ≤ 84000) {a : Int32} (ha : 0 ≤ a ∧ a < 30) (hP : ∀ J, mF M (c + 4) I0 J → (a < I M 17 → 0 ≤ I (M + 20) a.toNatClampNeg → mF M c I0 J) → yR M I J (unY (yv M I) a) → P none (n, t, K, L, J, R)) : a_does (d + 2) 186 [a_rf M, .int a] (n, t, K, L, I, R) P := by
  have h1 := ct_takeFrom (d := d) hS hF hc ha (P := fun r h' => r = none ∧ ∃ J, h' = (n, t, K, L, J, R) ∧ mF M (c + 4) I0 J ∧ (a < I M 17 → 0 ≤ I (M + 20) a.toNatClampNeg → mF M c I0 J)) (fun J q q2 _ _ => ⟨rfl, J, rfl, q, q2⟩)
  have h2 := xt_takeFrom0 (d := d) hS hF.1.1 (mE_ev hF.2 hF.1.1 hc) ha (P := fun r h' => r = none ∧ ∃ J, h' = (n, t, K, L, J, R) ∧ yR M I J (unY (yv M I) a)) (fun J q => ⟨rfl, J, rfl, q⟩)
  refine (does_and h1 h2).weaken (fun r h' q => ?_)
  obtain ⟨⟨e1, J, e2, q1, q3⟩, ⟨-, J2, e3, q2⟩⟩ := q
  subst e1
  subst e2
  cases e3
  exact hP J q1 q3 q2
end YX2

/-! the class: lifting, the past, placing, taking back -/
section YA0
variable {d n t C c : Nat} {K L : Nat → Nat} {I I0 J J0 J1 J2 : Nat → Nat → Int32} {R : Nat → Nat → Nat} {P : Option Value → AH → Prop}
variable {Y Z : Nat → Nat → Int32}
/-- the cells that the class's coupling looks at stay: it stays -/
theorem cp_fr (hT : cT C K L I R) (hc : cpP C K L I R Y) (f1 : ∀ k j, (k = 1 ∨ k = 2 ∨ k = 3 ∨ k = 7 ∨ k = 14) → J (C + k) j = I (C + k) j) (f2 : ∀ x j, K x = 1 → J x j = I x j) (f3 : ∀ x j, K x = 3 → ¬ j = 6 → J x j = I x j) (f4 : ∀ x j, K x = 11 → J x j = I x j) (f5 : ∀ k : Int32, 0 ≤ k → k < Y 0 41 → ∀ j, J (R (R (C + 8) k.toNatClampNeg) 2) j = I (R (R (C + 8) k.toNatClampNeg) 2) j) (f6 : ∀ b : Int32, 0 ≤ b → b < Y 0 6 → ∀ j, J (R (R (C + 16) b.toNatClampNeg) 2) j = I (R (R (C + 16) b.toNatClampNeg) 2) j ∧ J (R (R (C + 16) b.toNatClampNeg) 3) j = I (R (R (C + 16) b.toNatClampNeg) 3) j) : cpP C K L J R Y :=
  cp_mk hT hc (fun _ _ _ => rfl) hc.2.2.2.2.2.2.2.2.2.2.1 (fun _ _ => ⟨rfl, rfl⟩) (fun _ _ _ _ _ _ _ => rfl) f1 (fun x j kx _ _ => f2 x j kx) f3 f4 f5 (fun o o0 o1 => by
    have ao := hc.2.2.1.2.1 o o0 o1
    rw [f2 _ _ ao.1, f2 _ _ ao.1]
    exact (hc.2.2.1.2.2.2 o o0 o1).2.2.2.1) (plP_eq hc.2.1.2.2.2 (fun b b0 b1 => funext (fun j => (f6 b b0 b1 j).1)) (fun b b0 b1 => funext (fun j => (f6 b b0 b1 j).2)))
theorem le_watchOf_6 (hT0 : cT C K L I R) (hc : cpP C K L I R Y) {a : Nat} {i : Int32} (ap : aaP C K I Y i a) {b s : Int32} (hs : 0 ≤ s ∧ s ≤ 199) (hsl : s + Y 10 i.toNatClampNeg ≤ 200) (hP : ∀ w J, dC C K L R I J → (∀ z : Int32, 0 ≤ z → z < Y 10 i.toNatClampNeg → ((w >>> (z &&& 31)) &&& 1 = 0 ↔ ¬ 0 ≤ wtA Y 87 i b (s + z))) → P (some (.int w)) (n, t, K, L, J, R)) : ∀ x : Int32, x ≤ 4 → ∀ J w, dC C K L R I J → 0 ≤ x → x ≤ Y 10 i.toNatClampNeg → (∀ k, k < 32 → (bq w k = true ↔ (k < x.toNatClampNeg ∧ 0 ≤ wtA Y 87 i b (s + Int32.ofNat k)))) → a_at (d + 4) (a_xm a_m114) 6 [some (a_rf (C + 14)), some (a_rf a), some (.int b), some (.int s), some (.int w), some (.int x)] [] (n, t, K, L, J, R) P := by
  have y10 := hc.2.2.2.2.2.1 i.toNatClampNeg
  have y41 := hc.2.2.2.2.1
  refine up_ind 4 (fun x x4 ih => ?_)
  intro J w hJ h0 h1 hw
  have hT := hJ.1
  have hcJ := cpP_C hT0 hc hJ
  have apJ := aaP_C hT0 ap hJ
  have hS := hT.s
  obtain ⟨ai, ⟨ha, an0, a4n⟩, am, al⟩ := id apJ
  have a0 : (a = 0) = False := eq_false an0
  have e2 : J a 2 = Y 10 i.toNatClampNeg := al.1.2.2.1
  generalize ez : Y 10 i.toNatClampNeg = z at y10 h1 ih e2 hP hsl
  have hexit : ¬ x < z → P (some (.int w)) (n, t, K, L, J, R) := fun q => by
    have e := (lp_end h1 q).2
    subst e
    refine hP w J hJ (fun y y0 y1 => ?_)
    have hlt := cl_lt y0 y1
    have h32 : y.toNatClampNeg < 32 := by
      have := lt4 (i := y) ⟨y0, Int32.lt_of_lt_of_le y1 y10.2⟩
      omega
    have hb := hw _ h32
    rw [← on_cl y0] at hb
    have hbit : (w >>> (y &&& 31)) &&& 1 = 0 ↔ bq w y.toNatClampNeg = false := by
      have hq := bq_at h32 w
      rw [← on_cl y0] at hq
      exact hq
    rw [hbit]
    refine ⟨fun e c => ?_, fun c => ?_⟩
    · rw [hb.mpr ⟨hlt, c⟩] at e
      cases e
    · cases e : bq w y.toNatClampNeg with
      | false => rfl
      | true => exact absurd (hb.mp e).2 c
  have hcall : x < z → a_does (d + 4) 86 [a_rf (C + 7), .int 87, a_rf a, .int b, .int (s + x)] (n, t, K, L, J, R) (fun r h' => a_at (d + 4) (a_xm a_m114) 30 [some (a_rf (C + 14)), some (a_rf a), some (.int b), some (.int s), some (.int w), some (.int x)] (r.toList ++ []) h' P) := fun q => by
    obtain ⟨t1, t2, t3, t4⟩ := lp_st h0 q
    have hx4 : 0 ≤ x ∧ x < 4 := ⟨h0, Int32.lt_of_lt_of_le q y10.2⟩
    have hx := lt4 hx4
    obtain ⟨n1, n2, n3⟩ := sh_at hs.1 (Int32.le_trans hs.2 (by decide)) (i := x) ⟨h0, Int32.le_of_lt hx4.2⟩
    refine ce_leastA (d := d + 1) hT hcJ apJ ⟨n2, ((sh_lt ⟨hs.1, Int32.le_trans hs.2 (by decide)⟩ y10 hsl ⟨h0, Int32.le_of_lt q⟩).1 q).2⟩ (fun J2 c2 => ?_)
    have hS2 := c2.1.s
    have eo : Int32.ofNat x.toNatClampNeg = x := (on_cl h0).symm
    by_cases cw : 0 ≤ wtA Y 87 i b (s + x)
    · have cw' : ¬ wtA Y 87 i b (s + x) = -9 := by rw [wtA_rng y41]; exact fun q => q cw
      have hg := ih (by clear ih hP hexit hw; grind) J2 (w ||| ((1 : Int32) <<< (x &&& 31))) (dC_C hJ c2) t2 t3 (fun k hk => by
        have hset := bq_set (k := x.toNatClampNeg) (i := k) (by omega) hk w
        rw [eo] at hset
        rw [hset, t4, Bool.or_eq_true, hw k hk]
        refine ⟨fun r => ?_, fun r => ?_⟩
        · rcases r with r | r
          · exact ⟨by omega, r.2⟩
          · have r := of_decide_eq_true r
            rw [r, eo]
            exact ⟨by omega, cw⟩
        · by_cases e : k = x.toNatClampNeg
          · exact Or.inr (decide_eq_true e)
          · exact Or.inl ⟨by omega, r.2⟩)
      clear ih hP hexit hw hc ap hcJ apJ al am
      simp only [q114_30, q114_32, q114_35, q114_37, q114_38, q114_40, q114_41, q114_42, q114_44, q114_47, as_nil, as_i, as_r, Nat.reduceAdd, Nat.reduceLeDiff, z_eq0, z_eq1, z_or, z_em, Classical.not_not, not_false_eq_true, not_true_eq_false, true_and, and_true, false_and, and_false, and_self, true_implies, false_implies, implies_true, Option.toList_some, Option.toList_none, List.cons_append, List.nil_append, Nat.add_eq_zero_iff, a_nl_i, a_nl_r, a_nl_n, true_or, or_true, eq_self, a_isRA_22, a_isRA_24, a_isRA_32, a_isA_20, ok_4, ok_5, ok_6, ok_7, ok_9, ok_20, ok_21, ok_30, ok_50, ok_180, ok_192, ok_200, cw']
      first
        | exact hg
        | grind
    · have cw' : wtA Y 87 i b (s + x) = -9 := by rw [wtA_rng y41]; exact cw
      have hg := ih (by clear ih hP hexit hw; grind) J2 w (dC_C hJ c2) t2 t3 (fun k hk => by
        rw [t4, hw k hk]
        refine ⟨fun r => ⟨by omega, r.2⟩, fun r => ⟨?_, r.2⟩⟩
        by_cases e : k = x.toNatClampNeg
        · rw [e, eo] at r
          exact absurd r.2 cw
        · omega)
      clear ih hP hexit hw hc ap hcJ apJ al am
      simp only [q114_30, q114_32, q114_35, q114_37, q114_38, q114_40, q114_41, q114_42, q114_44, q114_47, as_nil, as_i, as_r, Nat.reduceAdd, Nat.reduceLeDiff, z_eq0, z_eq1, z_or, z_em, Classical.not_not, not_false_eq_true, not_true_eq_false, true_and, and_true, false_and, and_false, and_self, true_implies, false_implies, implies_true, Option.toList_some, Option.toList_none, List.cons_append, List.nil_append, Nat.add_eq_zero_iff, a_nl_i, a_nl_r, a_nl_n, true_or, or_true, eq_self, a_isRA_22, a_isRA_24, a_isRA_32, a_isA_20, ok_4, ok_5, ok_6, ok_7, ok_9, ok_20, ok_21, ok_30, ok_50, ok_180, ok_192, ok_200, cw']
      first
        | exact hg
        | grind
  clear ih hP hw hc ap hcJ apJ al am
  rw [q114_6]
  repeat' first
    | with_reducible apply And.intro
    | with_reducible assumption
    | with_reducible intro _
    | refine hexit ?_
    | refine hcall ?_
    | simp only [q114_8, q114_9, q114_12, q114_15, q114_16, q114_19, q114_21, q114_22, q114_23, q114_24, q114_26, q114_27, q114_50, q114_52, k_14 hS, z_14, r_14_1 hS, k_7 hS, z_7, as_nil, as_i, as_r, Nat.reduceAdd, Nat.reduceLeDiff, z_eq0, z_eq1, z_or, z_em, Classical.not_not, not_false_eq_true, not_true_eq_false, true_and, and_true, false_and, and_false, and_self, true_implies, false_implies, implies_true, Option.toList_some, Option.toList_none, List.cons_append, List.nil_append, Nat.add_eq_zero_iff, a_nl_i, a_nl_r, a_nl_n, true_or, or_true, eq_self, a_isRA_22, a_isRA_24, a_isRA_32, a_isA_20, ok_4, ok_5, ok_6, ok_7, ok_9, ok_20, ok_21, ok_30, ok_50, ok_180, ok_192, ok_200, ha, a0, e2]
  all_goals ((try clear hexit); (try clear hcall); (try clear hS); (try clear hT); (try clear hT0); grind [ui_ap])
theorem ce_watchOf (hT : cT C K L I R) (hc : cpP C K L I R Y) {a : Nat} {i : Int32} (ap : aaP C K I Y i a) {b s : Int32} (hs : 0 ≤ s ∧ s ≤ 199) (hsl : s + Y 10 i.toNatClampNeg ≤ 200) (hP : ∀ w J, dC C K L R I J → (∀ z : Int32, 0 ≤ z → z < Y 10 i.toNatClampNeg → ((w >>> (z &&& 31)) &&& 1 = 0 ↔ ¬ 0 ≤ wtA Y 87 i b (s + z))) → P (some (.int w)) (n, t, K, L, J, R)) : a_does (d + 5) 114 [a_rf (C + 14), a_rf a, .int b, .int s] (n, t, K, L, I, R) P := by
  have hS := hT.s
  have hl := le_watchOf_6 (d := d) (n := n) (t := t) (P := P) hT hc ap (b := b) hs hsl hP 0 (by decide) I 0 (dC_refl hT) (by decide) (hc.2.2.2.2.2.1 i.toNatClampNeg).1 (fun k hk => by
    rw [bq_0, show (0 : Int32).toNatClampNeg = 0 from rfl]
    exact ⟨fun q => absurd q Bool.false_ne_true, fun q => absurd q.1 (Nat.not_lt_zero k)⟩)
  clear hP hc ap
  rw [a_enter1 (M := a_m114) rfl (a_cat_rf (a_cat_rf (a_cat_int (a_cat_int a_cat_nil)))) (show 4 ≤ 6 by decide)]
  show a_at _ (a_xm a_m114) 0 [some (a_rf (C + 14)), some (a_rf a), some (.int b), some (.int s), none, none] [] _ _
  simp only [q114_0, q114_1, q114_3, q114_4, as_nil, as_i, as_r, Nat.reduceAdd, Nat.reduceLeDiff, z_eq0, z_eq1, z_or, z_em, Classical.not_not, not_false_eq_true, not_true_eq_false, true_and, and_true, false_and, and_false, and_self, true_implies, false_implies, implies_true, Option.toList_some, Option.toList_none, List.cons_append, List.nil_append, Nat.add_eq_zero_iff, a_nl_i, a_nl_r, a_nl_n, true_or, or_true, eq_self, a_isRA_22, a_isRA_24, a_isRA_32, a_isA_20, ok_4, ok_5, ok_6, ok_7, ok_9, ok_20, ok_21, ok_30, ok_50, ok_180, ok_192, ok_200]
  exact hl
/-- the heap with x SHIFTS of a place lifted -/
def lfI (I : Nat → Nat → Int32) (B : Nat) (s x : Int32) : Nat → Nat → Int32 := fun y j => if y = B + 1 ∧ s.toNatClampNeg ≤ j ∧ j < s.toNatClampNeg + x.toNatClampNeg then -9 else if y = B + 2 ∧ s.toNatClampNeg ≤ j ∧ j < s.toNatClampNeg + x.toNatClampNeg then 0 else I y j
theorem lf_step {B : Nat} {s x : Int32} (hs : 0 ≤ s ∧ s ≤ 200) (hx : 0 ≤ x ∧ x < 4) (hJ : ∀ y j, J y j = lfI I B s x y j) (y j : Nat) : a_ui (a_ui J (B + 1) (s + x).toNatClampNeg (-9)) (B + 2) (s + x).toNatClampNeg 0 y j = lfI I B s (x + 1) y j := by
  obtain ⟨e1, -, -⟩ := sh_at hs.1 hs.2 ⟨hx.1, Int32.le_of_lt hx.2⟩
  have e2 : (x + 1).toNatClampNeg = x.toNatClampNeg + 1 := (lp_st hx.1 hx.2).2.2.2
  rw [ui_ap, ui_ap, hJ]
  unfold lfI
  rw [e1, e2]
  generalize s.toNatClampNeg = u
  generalize x.toNatClampNeg = w
  clear hJ e1 e2
  have f12 : ¬ B + 1 = B + 2 := by omega
  have f21 : ¬ B + 2 = B + 1 := by omega
  by_cases c1 : y = B + 1
  · subst c1
    simp only [f12, false_and, if_false, true_and]
    grind
  · by_cases c2 : y = B + 2
    · subst c2
      simp only [f21, false_and, if_false, true_and]
      grind
    · simp only [c1, c2, false_and, if_false]
theorem le_lift_14 (hT0 : cT C K L I R) {a B : Nat} (ha : K a = 1) (kb : K B = 3) (eB2 : R B 2 = B + 1) (eB3 : R B 3 = B + 2) {s z : Int32} (hs : 0 ≤ s ∧ s ≤ 200) (hz : 0 ≤ z ∧ z ≤ 4) (hsz : s + z ≤ 200) (e14 : I a 14 = s) (e2 : I a 2 = z) (hP : ∀ J, dL C K L R I J → (∀ y j, J y j = lfI I B s z y j) → P none (n, t, K, L, (a_ui (a_ui J a 13 (-9)) a 14 (-9)), R)) : ∀ x : Int32, x ≤ 4 → ∀ J y, 0 ≤ x → x ≤ z → y = s + x → dL C K L R I J → (∀ y j, J y j = lfI I B s x y j) → a_at (d + 3) (a_xm a_m51) 14 [some (a_rf (C + 14)), some (a_rf a), some (a_rf B), some (.int y)] [] (n, t, K, L, J, R) P := by
  obtain ⟨bB, ⟨w1, w2, w3⟩, ⟨s1, s2, s3⟩, -⟩ := hT0.g_bnc _ kb
  have a1 := (hT0.g_ask a ha).1
  have aB1 : ¬ a = B + 1 := fun e => by rw [eB2, ← e, ha] at w2; cases w2
  have aB2 : ¬ a = B + 2 := fun e => by rw [eB3, ← e, ha] at s2; cases s2
  refine up_ind 4 (fun x x4 ih => ?_)
  intro J y h0 h1 ey hJL hJ
  have hT := hJL.1
  have hS := hT.s
  have f2 : J a 2 = z := by rw [dL_at hJL hT0 ha 2 (by decide) (by decide)]; exact e2
  have f14 : J a 14 = s := by
    rw [hJ]
    unfold lfI
    rw [if_neg (by omega), if_neg (by omega)]
    exact e14
  have a0 : (a = 0) = False := eq_false (by omega)
  have b0 : (B = 0) = False := eq_false (by omega)
  have hexit : ¬ y ≤ s + z - 1 → P none (n, t, K, L, (a_ui (a_ui J a 13 (-9)) a 14 (-9)), R) := fun w => by
    have e : x = z := by clear ih hP hJ; grind
    subst e
    exact hP J hJL hJ
  have hlt : y ≤ s + z - 1 → x < z := fun w => by clear ih hP hJ hexit; grind
  have hy : y ≤ s + z - 1 → 0 ≤ y ∧ y < 200 := fun w => by
    rw [ey]
    exact ((sh_lt hs hz hsz ⟨h0, h1⟩).1 (hlt w)).1
  have hcall : y ≤ s + z - 1 → a_does (d + 3) 52 [a_rf B, .int y, .int (-9), .int 0] (n, t, K, L, J, R) (fun r h' => a_at (d + 3) (a_xm a_m51) 41 [some (a_rf (C + 14)), some (a_rf a), some (a_rf B), some (.int y)] (r.toList ++ []) h' P) := fun w => by
    have c := hlt w
    obtain ⟨t1, t2, t3, t4⟩ := lp_st h0 c
    have hy2 := hy w
    refine cp_settle kb hT hy2 ?_
    rw [eB2, eB3, ey]
    have hg := ih (by clear ih hP hexit hJ; grind) (a_ui (a_ui J (B + 1) (s + x).toNatClampNeg (-9)) (B + 2) (s + x).toNatClampNeg 0) (s + x + 1) t2 t3 (by clear ih hP hexit hJ; grind) (dL_arr (dL_arr hJL (by rw [← eB2]; exact w1) (by rw [← eB2]; exact w2)) (by rw [← eB3]; exact s1) (by rw [← eB3]; exact s2)) (fun y j => lf_step hs ⟨h0, Int32.lt_of_lt_of_le c hz.2⟩ hJ y j)
    clear ih hP hexit hJ
    simp only [q51_41, q51_44, as_nil, as_i, as_r, Nat.reduceAdd, Nat.reduceLeDiff, z_eq0, z_eq1, z_or, z_em, Classical.not_not, not_false_eq_true, not_true_eq_false, true_and, and_true, false_and, and_false, and_self, true_implies, false_implies, implies_true, Option.toList_some, Option.toList_none, List.cons_append, List.nil_append, Nat.add_eq_zero_iff, a_nl_i, a_nl_r, a_nl_n, true_or, or_true, eq_self, a_isRA_22, a_isRA_24, a_isRA_32, a_isA_20, ok_4, ok_5, ok_6, ok_7, ok_9, ok_20, ok_21, ok_30, ok_50, ok_180, ok_192, ok_200]
    exact hg
  clear ih hP hJ hJL
  rw [q51_14]
  repeat' first
    | with_reducible apply And.intro
    | with_reducible assumption
    | with_reducible intro _
    | refine hexit ?_
    | refine hcall ?_
    | simp only [q51_15, q51_18, q51_19, q51_20, q51_23, q51_26, q51_27, q51_30, q51_33, q51_34, q51_35, q51_37, q51_38, q51_47, q51_48, q51_50, q51_53, q51_54, q51_56, q51_59, k_14 hS, z_14, sp_last, sp_isShiftC, as_nil, as_i, as_r, Nat.reduceAdd, Nat.reduceLeDiff, z_eq0, z_eq1, z_or, z_em, Classical.not_not, not_false_eq_true, not_true_eq_false, true_and, and_true, false_and, and_false, and_self, true_implies, false_implies, implies_true, Option.toList_some, Option.toList_none, List.cons_append, List.nil_append, Nat.add_eq_zero_iff, a_nl_i, a_nl_r, a_nl_n, true_or, or_true, eq_self, a_isRA_22, a_isRA_24, a_isRA_32, a_isA_20, ok_4, ok_5, ok_6, ok_7, ok_9, ok_20, ok_21, ok_30, ok_50, ok_180, ok_192, ok_200, ha, a0, b0, f2, f14]
  all_goals ((try clear hexit); (try clear hcall); (try clear hS); (try clear hT); (try clear hT0); grind [ui_ap])
theorem ce_lift (hT : cT C K L I R) (hc : cpP C K L I R Y) (hse : seP C R Y) {a : Nat} {i : Int32} (ap : aaP C K I Y i a) (haa : (R (C + 15) i.toNatClampNeg) = a) (pa : 0 ≤ Y 20 i.toNatClampNeg) (hP : ∀ J, dL C K L R I J → cpP C K L J R (unY Y i) → (∀ x j, K x = 20 → ¬ x = (R (C + 16) (Y 20 i.toNatClampNeg).toNatClampNeg) + 1 → ¬ x = (R (C + 16) (Y 20 i.toNatClampNeg).toNatClampNeg) + 2 → J x j = I x j) → aZ K a I J → P none (n, t, K, L, J, R)) : a_does (d + 4) 51 [a_rf (C + 14), a_rf a] (n, t, K, L, I, R) P := by
  have hS := hT.s
  obtain ⟨ai, ⟨ha, an0, a4n⟩, am, al⟩ := id ap
  obtain ⟨a1, a2, a4, a3⟩ := hT.g_ask a ha
  have a0 : (a = 0) = False := eq_false an0
  have gA := hT.g_asksR
  have gB := hT.g_benchesR
  have gX := hT.g_textsR
  have hy := hc.2.2.2.2
  have y10 := hy.2.1 i.toNatClampNeg
  have e13 : I a 13 = Y 20 i.toNatClampNeg := al.2.2.2.1.1
  have e14 : I a 14 = Y 21 i.toNatClampNeg := al.2.2.2.1.2
  have i30 : i.toNatClampNeg < 30 := a_lt30 ⟨ai.1, Int32.lt_of_lt_of_le ai.2 hy.2.2.2.2.1.2⟩
  obtain ⟨⟨p21, p200, psl⟩, p5⟩ := hy.2.2.2.2.2.2.1 _ i30 pa
  have p6 : Y 20 i.toNatClampNeg < Y 0 6 := (hc.2.1.2.2.2.1 i ai.1 ai.2 pa).1
  have s200 : 0 ≤ Y 21 i.toNatClampNeg ∧ Y 21 i.toNatClampNeg ≤ 200 := ⟨p21, p200⟩
  obtain ⟨kb, kb0, kb5, kb6⟩ := hc.2.1.2.2.1 _ pa p6
  obtain ⟨eB2, eB3, -⟩ := hse.1 _ pa p6
  obtain ⟨bB, ⟨w1, w2, w3⟩, ⟨s1, s2, s3⟩, -⟩ := hT.g_bnc _ kb
  have B1 : K ((R (C + 16) (Y 20 i.toNatClampNeg).toNatClampNeg) + 1) = 20 := by rw [← eB2]; exact w2
  have B2 : K ((R (C + 16) (Y 20 i.toNatClampNeg).toNatClampNeg) + 2) = 20 := by rw [← eB3]; exact s2
  have b6 : Y 20 i.toNatClampNeg < 6 := Int32.lt_of_lt_of_le p6 hy.2.2.2.2.2.1.2
  have hbc : 0 ≤ Y 20 i.toNatClampNeg ∧ Y 20 i.toNatClampNeg < I (C + 14) 5 ∧ Y 20 i.toNatClampNeg < 6 := ⟨pa, by rw [hc.2.1.1]; exact p6, b6⟩
  have rows : ∀ c : Int32, 0 ≤ c → c < Y 0 6 → R (R (C + 16) c.toNatClampNeg) 2 = R (C + 16) c.toNatClampNeg + 1 ∧ R (R (C + 16) c.toNatClampNeg) 3 = R (C + 16) c.toNatClampNeg + 2 ∧ ¬ R (C + 16) c.toNatClampNeg + 1 = a ∧ ¬ R (C + 16) c.toNatClampNeg + 2 = a := fun c c0 c1 => by
    obtain ⟨e1, e2, -⟩ := hse.1 c c0 c1
    have kc := (hc.2.1.2.2.1 c c0 c1).1
    obtain ⟨-, ⟨-, w1, -⟩, ⟨-, w2, -⟩, -⟩ := hT.g_bnc _ kc
    refine ⟨e1, e2, fun e => ?_, fun e => ?_⟩
    · rw [e1, e, ha] at w1
      cases w1
    · rw [e2, e, ha] at w2
      cases w2
  have hl := le_lift_14 (d := d) (n := n) (t := t) (P := P) hT ha kb eB2 eB3 s200 y10 psl e14 al.1.2.2.1 (fun J hJL hJ => by
    have hJa : ∀ x j, ¬ (x = a ∧ (j = 13 ∨ j = 14)) → a_ui (a_ui J a 13 (-9)) a 14 (-9) x j = lfI I (R (C + 16) (Y 20 i.toNatClampNeg).toNatClampNeg) (Y 21 i.toNatClampNeg) (Y 10 i.toNatClampNeg) x j := fun x j q => by
      rw [ui_ap, if_neg (by omega), ui_ap, if_neg (by omega), hJ]
    have f20 : ∀ x j, K x = 20 → ¬ x = (R (C + 16) (Y 20 i.toNatClampNeg).toNatClampNeg) + 1 → ¬ x = (R (C + 16) (Y 20 i.toNatClampNeg).toNatClampNeg) + 2 → a_ui (a_ui J a 13 (-9)) a 14 (-9) x j = I x j := fun x j kx n1 n2 => by
      rw [hJa x j (fun q => by rw [q.1, ha] at kx; cases kx)]
      unfold lfI
      rw [if_neg (fun q => n1 q.1), if_neg (fun q => n2 q.1)]
    have fk : ∀ x j, ¬ K x = 20 → ¬ (x = a ∧ (j = 13 ∨ j = 14)) → a_ui (a_ui J a 13 (-9)) a 14 (-9) x j = I x j := fun x j kx n1 => by
      rw [hJa x j n1]
      unfold lfI
      rw [if_neg (fun q => kx (by rw [q.1]; exact B1)), if_neg (fun q => kx (by rw [q.1]; exact B2))]
    have cin : ∀ k, k ≤ 43 → ∀ j, a_ui (a_ui J a 13 (-9)) a 14 (-9) (C + k) j = I (C + k) j := fun k hk j => by
      rw [hJa _ _ (by omega)]
      unfold lfI
      rw [if_neg (by omega), if_neg (by omega)]
    refine hP _ (dL_place hJL a1 ha (fun q => absurd q (by decide))) (cp_mk hT hc unY_b (inP_un hy.2.2.2.2.2.2.1) (fun _ _ => ⟨rfl, rfl⟩) (fun _ _ _ _ _ _ _ => rfl) (fun k j hk => cin k (by omega) j) (fun x j kx n1 n2 => fk x j (by rw [kx]; decide) (by omega)) (fun x j kx _ => fk x j (by rw [kx]; decide) (fun q => by rw [q.1, ha] at kx; cases kx)) (fun x j kx => fk x j (by rw [kx]; decide) (fun q => by rw [q.1, ha] at kx; cases kx)) (fun k k0 k1 j => ?_) (fun o o0 o1 => ?_) ?_) f20 (fun x j kx hx => fk x j (by rw [kx]; decide) (fun q => hx q.1))
    · have hk := (hc.2.2.2.1.2 k k0 k1).1
      obtain ⟨q, -⟩ := hse.2.2.1 k _ k0 k1 pa p6
      exact f20 _ _ (hT.g_txt _ hk).2.2.1 (by omega) (by omega)
    · have ao := hc.2.2.1.2.1 o o0 o1
      by_cases e : o = i
      · have ea : R (C + 15) o.toNatClampNeg = a := by rw [e]; exact haa
        rw [ea, e, un_a (Or.inl rfl), un_a (Or.inr rfl), ui_ap, ui_ap, if_neg (by omega), if_pos ⟨rfl, rfl⟩, ui_ap, if_pos ⟨rfl, rfl⟩]
        exact ⟨rfl, rfl⟩
      · have ea : ¬ R (C + 15) o.toNatClampNeg = a := fun q => e (by rw [← ao.2.2, q]; exact a4n)
        have hne : ¬ o.toNatClampNeg = i.toNatClampNeg := fun q => e (cl_inj o0 ai.1 q)
        rw [fk _ _ (by rw [ao.1]; decide) (fun q => ea q.1), fk _ _ (by rw [ao.1]; decide) (fun q => ea q.1), un_o (Or.inr hne), un_o (Or.inr hne)]
        exact (hc.2.2.1.2.2.2 o o0 o1).2.2.2.1
    · refine pl_un hc.2.1.2.2.2 hy.2.1 ai pa (fun c c0 c1 j => ?_) (fun c c0 c1 j => ?_)
      · obtain ⟨e1, e2, n1, n2⟩ := rows c c0 c1
        unfold whC
        rw [e1, hJa _ _ (fun q => n1 q.1)]
        unfold lfI
        by_cases e : c = Y 20 i.toNatClampNeg
        · subst e
          by_cases q : (Y 21 i.toNatClampNeg).toNatClampNeg ≤ j ∧ j < (Y 21 i.toNatClampNeg).toNatClampNeg + (Y 10 i.toNatClampNeg).toNatClampNeg
          · rw [if_pos ⟨rfl, q⟩, if_pos ⟨rfl, q⟩]
          · rw [if_neg (fun w => q w.2), if_neg (by omega), if_neg (fun w => q w.2)]
        · have := se_ne hT hc hse ⟨c0, c1⟩ ⟨pa, p6⟩ e
          rw [if_neg (by omega), if_neg (by omega), if_neg (fun w => e w.1)]
      · obtain ⟨e1, e2, n1, n2⟩ := rows c c0 c1
        unfold snC
        rw [e2, hJa _ _ (fun q => n2 q.1)]
        unfold lfI
        by_cases e : c = Y 20 i.toNatClampNeg
        · subst e
          by_cases q : (Y 21 i.toNatClampNeg).toNatClampNeg ≤ j ∧ j < (Y 21 i.toNatClampNeg).toNatClampNeg + (Y 10 i.toNatClampNeg).toNatClampNeg
          · rw [if_neg (by omega), if_pos ⟨rfl, q⟩, if_pos ⟨rfl, q⟩]
          · rw [if_neg (by omega), if_neg (fun w => q w.2), if_neg (fun w => q w.2)]
        · have := se_ne hT hc hse ⟨c0, c1⟩ ⟨pa, p6⟩ e
          rw [if_neg (by omega), if_neg (by omega), if_neg (fun w => e w.1)]) 0 (by decide) I (Y 21 i.toNatClampNeg) (by decide) y10.1 (Int32.add_zero _).symm (dL_refl hT) (fun y j => by
    unfold lfI
    rw [show (0 : Int32).toNatClampNeg = 0 from rfl, if_neg (by omega), if_neg (by omega)])
  clear hP rows
  rw [a_enter1 (M := a_m51) rfl (a_cat_rf (a_cat_rf a_cat_nil)) (show 2 ≤ 4 by decide)]
  show a_at _ (a_xm a_m51) 0 [some (a_rf (C + 14)), some (a_rf a), none, none] [] _ _
  simp only [q51_0, q51_1, q51_2, q51_5, q51_8, q51_9, q51_10, q51_13, k_14 hS, z_14, sp_benchAt hS gB, as_nil, as_i, as_r, Nat.reduceAdd, Nat.reduceLeDiff, z_eq0, z_eq1, z_or, z_em, Classical.not_not, not_false_eq_true, not_true_eq_false, true_and, and_true, false_and, and_false, and_self, true_implies, false_implies, implies_true, Option.toList_some, Option.toList_none, List.cons_append, List.nil_append, Nat.add_eq_zero_iff, a_nl_i, a_nl_r, a_nl_n, true_or, or_true, eq_self, a_isRA_22, a_isRA_24, a_isRA_32, a_isA_20, ok_4, ok_5, ok_6, ok_7, ok_9, ok_20, ok_21, ok_30, ok_50, ok_180, ok_192, ok_200, ha, a0, hbc, kb, kb0, e13, e14]
  try simp only [true_and, and_true, true_implies, false_implies, implies_true, not_true_eq_false, not_false_eq_true]
  exact hl
/-- dates change their own row alone -/
theorem ce_date {b : Nat} (hb : K b = 3) (hT0 : cT C K L I R) {f e w : Int32} (hf : 0 ≤ f ∧ f ≤ 200) (hP : ∀ J, dL C K L R I J → (∀ y j, ¬ y = R b 4 → J y j = I y j) → P none (n, t, K, L, J, R)) : a_does (d + 1) 50 [a_rf b, .int f, .int e, .int w] (n, t, K, L, I, R) P := by
  have key : ∀ s : Int32, s ≤ 200 → ∀ J, 0 ≤ s → dL C K L R I J → (∀ y j, ¬ y = R b 4 → J y j = I y j) → a_at d (a_xm a_m50) 3 [some (a_rf b), some (.int f), some (.int e), some (.int w), some (.int s)] [] (n, t, K, L, J, R) P := by
    refine up_ind 200 (fun s hk ih => ?_)
    intro J q0 hL hJ
    have hT := hL.1
    have hS := hT.s
    obtain ⟨b1, ⟨w1, w2, w3⟩, ⟨s1, s2, s3⟩, ⟨h1, h2, h3⟩, ⟨p1, p2, p3⟩, q1⟩ := hT.g_bnc b hb
    have b0 : (b = 0) = False := eq_false (by omega)
    have w0 : (R b 2 = 0) = False := eq_false (by omega)
    have s0 : (R b 3 = 0) = False := eq_false (by omega)
    have h0 : (R b 4 = 0) = False := eq_false (by omega)
    have p0 : (R b 5 = 0) = False := eq_false (by omega)
    have hw : ∀ k v, dL C K L R I (a_ui J (R b 4) k v) := fun k v => dL_arr hL h1 h2
    have hw2 : ∀ k v, ∀ y j, ¬ y = R b 4 → a_ui J (R b 4) k v y j = I y j := fun k v y j q => by rw [ui_ap, if_neg (fun z => q z.1)]; exact hJ y j q
    rw [q50_3]
    repeat' first
      | with_reducible apply And.intro
      | with_reducible assumption
      | with_reducible intro _
      | with_reducible apply hP
      | with_reducible apply ih
      | with_reducible apply hw
      | with_reducible apply hw2
      | simp only [q50_5, q50_6, q50_9, q50_11, q50_14, q50_17, q50_18, q50_21, q50_23, q50_24, q50_25, q50_28, q50_31, as_nil, as_i, as_r, Nat.reduceAdd, Nat.reduceLeDiff, z_eq0, z_eq1, z_or, z_em, Classical.not_not, not_false_eq_true, not_true_eq_false, true_and, and_true, false_and, and_false, and_self, true_implies, false_implies, implies_true, Option.toList_some, Option.toList_none, List.cons_append, List.nil_append, Nat.add_eq_zero_iff, a_nl_i, a_nl_r, a_nl_n, true_or, or_true, eq_self, a_isRA_22, a_isRA_24, a_isRA_32, a_isA_20, ok_4, ok_5, ok_6, ok_7, ok_9, ok_20, ok_21, ok_30, ok_50, ok_180, ok_192, ok_200, hb, b0, w0, w2, w3, s0, s2, s3, h0, h2, h3, p0, p2]
    all_goals grind [ui_ap]
  have hS := hT0.s
  rw [a_enter1 (M := a_m50) rfl (a_cat_rf (a_cat_int (a_cat_int (a_cat_int a_cat_nil)))) (show 4 ≤ 5 by decide)]
  show a_at _ (a_xm a_m50) 0 [some (a_rf b), some (.int f), some (.int e), some (.int w), none] [] _ _
  simp only [q50_0, q50_1, as_nil, as_i, as_r, Nat.reduceAdd, Nat.reduceLeDiff, z_eq0, z_eq1, z_or, z_em, Classical.not_not, not_false_eq_true, not_true_eq_false, true_and, and_true, false_and, and_false, and_self, true_implies, false_implies, implies_true, Option.toList_some, Option.toList_none, List.cons_append, List.nil_append, Nat.add_eq_zero_iff, a_nl_i, a_nl_r, a_nl_n, true_or, or_true, eq_self, a_isRA_22, a_isRA_24, a_isRA_32, a_isA_20, ok_4, ok_5, ok_6, ok_7, ok_9, ok_20, ok_21, ok_30, ok_50, ok_180, ok_192, ok_200]
  exact key f hf.2 I hf.1 (dL_refl hT0) (fun _ _ _ => rfl)
theorem ce_place (hT : cT C K L I R) (hc : cpP C K L I R Y) (hse : seP C R Y) {a : Nat} {i : Int32} (ap : aaP C K I Y i a) (haa : (R (C + 15) i.toNatClampNeg) = a) {b s : Int32} (hb : 0 ≤ b ∧ b < Y 0 6) (hs : 0 ≤ s ∧ s ≤ 199) (hsl : s + Y 10 i.toNatClampNeg ≤ 200) (un : ¬ 0 ≤ Y 20 i.toNatClampNeg) (fr : ∀ z : Int32, 0 ≤ z → z < Y 10 i.toNatClampNeg → whC C I R b (s + z).toNatClampNeg = -9) (hP : ∀ J, dL C K L R I J → cpP C K L J R (puY Y i b s) → aZ K a I J → P none (n, t, K, L, J, R)) : a_does (d + 6) 113 [a_rf (C + 14), a_rf a, .int b, .int s] (n, t, K, L, I, R) P := by
  have hS := hT.s
  obtain ⟨ai, ⟨ha, an0, a4n⟩, am, al⟩ := id ap
  obtain ⟨a1, a2, a4, a3⟩ := hT.g_ask a ha
  have a0 : (a = 0) = False := eq_false an0
  have gA := hT.g_asksR
  have gB := hT.g_benchesR
  have gX := hT.g_textsR
  have hy := hc.2.2.2.2
  obtain ⟨kb, kb0, kb5, kb6⟩ := hc.2.1.2.2.1 b hb.1 hb.2
  have b6 : b < 6 := Int32.lt_of_lt_of_le hb.2 hy.2.2.2.2.2.1.2
  obtain ⟨eB2, eB3, eB4⟩ := hse.1 b hb.1 hb.2
  rw [a_enter1 (M := a_m113) rfl (a_cat_rf (a_cat_rf (a_cat_int (a_cat_int a_cat_nil)))) (show 4 ≤ 5 by decide)]
  show a_at _ (a_xm a_m113) 0 [some (a_rf (C + 14)), some (a_rf a), some (.int b), some (.int s), none] [] _ _
  simp only [q113_0, q113_1, q113_2, q113_3, q113_4, q113_5, q113_6, q113_7, q113_8, k_14 hS, z_14, as_nil, as_i, as_r, Nat.reduceAdd, Nat.reduceLeDiff, z_eq0, z_eq1, z_or, z_em, Classical.not_not, not_false_eq_true, not_true_eq_false, true_and, and_true, false_and, and_false, and_self, true_implies, false_implies, implies_true, Option.toList_some, Option.toList_none, List.cons_append, List.nil_append, Nat.add_eq_zero_iff, a_nl_i, a_nl_r, a_nl_n, true_or, or_true, eq_self, a_isRA_22, a_isRA_24, a_isRA_32, a_isA_20, ok_4, ok_5, ok_6, ok_7, ok_9, ok_20, ok_21, ok_30, ok_50, ok_180, ok_192, ok_200, ha, a0]
  try simp only [true_and, and_true, true_implies, false_implies, implies_true, not_true_eq_false, not_false_eq_true]
  refine ce_watchOf (d := d) hT hc ap hs hsl (fun w J hJ hw => ?_)
  have hT1 := hJ.1
  have hS1 := hT1.s
  have hc1 := cpP_C hT hc hJ
  have ap1 := aaP_C hT ap hJ
  simp only [q113_11, k_14 hS, z_14, as_nil, as_i, as_r, Nat.reduceAdd, Nat.reduceLeDiff, z_eq0, z_eq1, z_or, z_em, Classical.not_not, not_false_eq_true, not_true_eq_false, true_and, and_true, false_and, and_false, and_self, true_implies, false_implies, implies_true, Option.toList_some, Option.toList_none, List.cons_append, List.nil_append, Nat.add_eq_zero_iff, a_nl_i, a_nl_r, a_nl_n, true_or, or_true, eq_self, a_isRA_22, a_isRA_24, a_isRA_32, a_isA_20, ok_4, ok_5, ok_6, ok_7, ok_9, ok_20, ok_21, ok_30, ok_50, ok_180, ok_192, ok_200, ha, a0]
  try simp only [true_and, and_true, true_implies, false_implies, implies_true, not_true_eq_false, not_false_eq_true]
  have fr1 : ∀ z : Int32, 0 ≤ z → z < Y 10 i.toNatClampNeg → whC C J R b (s + z).toNatClampNeg = -9 := fun z z0 z1 => by
    rw [← fr z z0 z1]
    have g := (hT.g_bnc _ kb).2.1.1
    exact hJ.2 _ _ (by omega) (by omega)
  refine ce_lay (d := d + 1) hT1 hc1 hse ap1 haa hb hs hsl un fr1 hw (fun J2 hJ2 hc2 f20 ha2 => ?_)
  have hT2 := hJ2.1
  have hS2 := hT2.s
  have hL2 := dL_L (dL_C (dL_refl hT) hJ) hJ2
  have e2 : J2 a 2 = I a 2 := dL_at hL2 hT ha 2 (by decide) (by decide)
  have hbc : 0 ≤ b ∧ b < J2 (C + 14) 5 ∧ b < 6 := ⟨hb.1, by rw [hc2.2.1.1, puY_b 0 6 (by unfold sb; omega)]; exact hb.2, b6⟩
  have a0 : (a = 0) = False := eq_false an0
  have hfin : a_does (d + 5) 50 [a_rf (R (C + 16) b.toNatClampNeg), .int s, .int (s + J2 a 2 - 1), .int (J2 (C + 1) 6)] (n, t, K, L, J2, R) (fun r h' => a_at (d + 5) (a_xm a_m113) 47 [some (a_rf (C + 14)), some (a_rf a), some (.int b), some (.int s), some (a_rf (R (C + 16) b.toNatClampNeg))] (r.toList ++ []) h' P) := by
    refine ce_date (d := d + 4) kb hT2 ⟨hs.1, Int32.le_trans hs.2 (by decide)⟩ (fun J3 hJ3 hd => ?_)
    have hp := hP J3 (dL_L hL2 hJ3) (cp_fr hT2 hc2 (fun k j hk => hd _ _ (by rw [eB4]; have := (hT.g_bnc _ kb).1; omega)) (fun x j kx => hd _ _ (fun e => by rw [e, ((hT.g_bnc _ kb).2.2.2.1).2.1] at kx; cases kx)) (fun x j kx _ => hd _ _ (fun e => by rw [e, ((hT.g_bnc _ kb).2.2.2.1).2.1] at kx; cases kx)) (fun x j kx => hd _ _ (fun e => by rw [e, ((hT.g_bnc _ kb).2.2.2.1).2.1] at kx; cases kx)) (fun k k0 k1 j => hd _ _ (by
      rw [puY_b 0 41 (by unfold sb; omega)] at k1
      have q := (hse.2.2.1 k b k0 k1 hb.1 hb.2).1
      rw [eB4]
      omega)) (fun o o0 o1 j => by
      rw [puY_b 0 6 (by unfold sb; omega)] at o1
      obtain ⟨d2, d3, d4⟩ := hse.1 o o0 o1
      rw [d2, d3]
      by_cases e : o = b
      · subst e
        exact ⟨hd _ _ (by rw [eB4]; omega), hd _ _ (by rw [eB4]; omega)⟩
      · have := se_ne hT hc hse ⟨o0, o1⟩ hb e
        exact ⟨hd _ _ (by rw [eB4]; omega), hd _ _ (by rw [eB4]; omega)⟩)) (fun x j kx hx => by
      have g1 := (hT.g_ask x kx).1
      rw [hd x j (fun e => by rw [e, ((hT.g_bnc _ kb).2.2.2.1).2.1] at kx; cases kx), ha2 x j kx hx]
      exact hJ.2 x j (by omega) (by omega))
    clear hP hc hc1 hc2 ap ap1 al am hw fr fr1 hse f20 hd
    simp only [q113_47, as_nil, as_i, as_r, Nat.reduceAdd, Nat.reduceLeDiff, z_eq0, z_eq1, z_or, z_em, Classical.not_not, not_false_eq_true, not_true_eq_false, true_and, and_true, false_and, and_false, and_self, true_implies, false_implies, implies_true, Option.toList_some, Option.toList_none, List.cons_append, List.nil_append, Nat.add_eq_zero_iff, a_nl_i, a_nl_r, a_nl_n, true_or, or_true, eq_self, a_isRA_22, a_isRA_24, a_isRA_32, a_isA_20, ok_4, ok_5, ok_6, ok_7, ok_9, ok_20, ok_21, ok_30, ok_50, ok_180, ok_192, ok_200, ha, a0]
    exact hp
  clear hP hc hc1 ap ap1 al am hw fr fr1 hse f20
  simp only [q113_14, q113_15, q113_16, q113_19, q113_21, q113_23, q113_26, q113_28, q113_29, q113_30, q113_31, q113_34, q113_35, q113_36, q113_37, q113_38, q113_41, q113_44, k_14 hS, z_14, r_14_0 hS, k_1 hS, z_1, sp_benchAt hS gB, as_nil, as_i, as_r, Nat.reduceAdd, Nat.reduceLeDiff, z_eq0, z_eq1, z_or, z_em, Classical.not_not, not_false_eq_true, not_true_eq_false, true_and, and_true, false_and, and_false, and_self, true_implies, false_implies, implies_true, Option.toList_some, Option.toList_none, List.cons_append, List.nil_append, Nat.add_eq_zero_iff, a_nl_i, a_nl_r, a_nl_n, true_or, or_true, eq_self, a_isRA_22, a_isRA_24, a_isRA_32, a_isA_20, ok_4, ok_5, ok_6, ok_7, ok_9, ok_20, ok_21, ok_30, ok_50, ok_180, ok_192, ok_200, ha, a0, hbc, kb, kb0]
  try simp only [true_and, and_true, true_implies, false_implies, implies_true, not_true_eq_false, not_false_eq_true]
  exact hfin
end YA0
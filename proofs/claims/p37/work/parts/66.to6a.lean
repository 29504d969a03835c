section
/-! the class: ORDER, SHARE, the first place -/
section YG0
variable {d n t C : Nat} {K L : Nat → Nat} {I I0 J J0 J1 J2 : Nat → Nat → Int32} {R : Nat → Nat → Nat} {P : Option Value → AH → Prop}
variable {Y Z : Nat → Nat → Int32} {R' R1 : Nat → Nat → Nat}
/-- cells of the class itself that the coupling doesn't look at -/
theorem cp_sc (hT : cT C K L I R) (hc : cpP C K L I R Y) {k j : Nat} {v : Int32} (hk : k ≤ 43) (hn : ¬ k = 1 ∧ ¬ k = 2 ∧ ¬ k = 3 ∧ ¬ k = 7 ∧ ¬ k = 14) : cpP C K L (a_ui I (C + k) j v) R Y := by
  have e : ∀ x i, ¬ x = C + k → a_ui I (C + k) j v x i = I x i := fun x i q => by rw [ui_ap, if_neg (fun z => q z.1)]
  exact cp_fr hT hc (fun k2 j2 h2 => e _ _ (by omega)) (fun x j2 kx => e _ _ (by have := (hT.g_ask x kx).1; omega)) (fun x j2 kx _ => e _ _ (by have := (hT.g_bnc x kx).1; omega)) (fun x j2 kx => e _ _ (by have := (hT.g_txt x kx).1; omega)) (fun k2 k0 k1 j2 => e _ _ (by have := (hT.g_txt _ (hc.2.2.2.1.2 k2 k0 k1).1).2.1; omega)) (fun b b0 b1 j2 => by
    have g := hT.g_bnc _ (hc.2.1.2.2.1 b b0 b1).1
    have g2 := g.2.1.1
    have g3 := g.2.2.1.1
    exact ⟨e _ _ (by omega), e _ _ (by omega)⟩)
/-- nor at these references -/
def rfP (C : Nat) (R R' : Nat → Nat → Nat) : Prop := ∀ x j, ¬ x = C + 23 → ¬ x = C + 28 → ¬ x = C + 38 → R' x j = R x j
theorem cp_rf (hT : cT C K L I R) (hc : cpP C K L I R Y) (hr : rfP C R R') : cpP C K L I R' Y := cp_mk hT hc (fun _ _ _ => rfl) hc.2.2.2.2.2.2.2.2.2.2.1 (fun _ _ => ⟨rfl, rfl⟩) (fun x j _ _ h1 h2 h3 => hr x j h1 h2 h3) (fun _ _ _ => rfl) (fun _ _ _ _ _ => rfl) (fun _ _ _ _ => rfl) (fun _ _ _ => rfl) (fun _ _ _ _ => rfl) (fun o o0 o1 => (hc.2.2.1.2.2.2 o o0 o1).2.2.2.1) hc.2.1.2.2.2
theorem se_rf (hT : cT C K L I R) (hc : cpP C K L I R Y) (hse : seP C R Y) (hr : rfP C R R') : seP C R' Y := by
  have e8 : ∀ j, R' (C + 8) j = R (C + 8) j := fun j => hr _ _ (by omega) (by omega) (by omega)
  have e16 : ∀ j, R' (C + 16) j = R (C + 16) j := fun j => hr _ _ (by omega) (by omega) (by omega)
  have eb : ∀ b : Int32, 0 ≤ b → b < Y 0 6 → ∀ j, R' (R (C + 16) b.toNatClampNeg) j = R (R (C + 16) b.toNatClampNeg) j := fun b b0 b1 j => by
    have := (hT.g_bnc _ (hc.2.1.2.2.1 b b0 b1).1).1
    exact hr _ _ (by omega) (by omega) (by omega)
  have ex : ∀ k : Int32, 0 ≤ k → k < Y 0 41 → ∀ j, R' (R (C + 8) k.toNatClampNeg) j = R (R (C + 8) k.toNatClampNeg) j := fun k k0 k1 j => by
    have := (hT.g_txt _ (hc.2.2.2.1.2 k k0 k1).1).1
    exact hr _ _ (by omega) (by omega) (by omega)
  refine ⟨fun b b0 b1 => ?_, fun b c b0 b1 c0 c1 e => ?_, fun k b k0 k1 b0 b1 => ?_, fun b c b0 b1 c0 c1 => ?_⟩
  · rw [e16, eb b b0 b1, eb b b0 b1, eb b b0 b1]
    exact hse.1 b b0 b1
  · rw [e16, e16] at e
    exact hse.2.1 b c b0 b1 c0 c1 e
  · rw [e8, ex k k0 k1, e16, eb b b0 b1]
    exact hse.2.2.1 k b k0 k1 b0 b1
  · rw [e16, eb b b0 b1, e16]
    exact hse.2.2.2 b c b0 b1 c0 c1
theorem ce_rank {a : Nat} (ha : K a = 1) (an : ¬ a = 0) (hP : P (some (.int (if I a 5 = 5 then 0 else if I a 5 = 3 then 1 else 2))) (n, t, K, L, I, R)) : a_does (d + 1) 122 [a_rf a] (n, t, K, L, I, R) P := by
  have a0 : (a = 0) = False := eq_false an
  rw [a_enter1 (M := a_m122) rfl (a_cat_rf a_cat_nil) (show 1 ≤ 1 by decide)]
  show a_at _ (a_xm a_m122) 0 [some (a_rf a)] [] _ _
  repeat' first
    | with_reducible apply And.intro
    | with_reducible assumption
    | with_reducible intro _
    | with_reducible apply hP
    | simp only [q122_0, q122_1, q122_4, q122_5, q122_8, q122_9, q122_10, q122_11, q122_14, q122_15, q122_18, q122_19, q122_22, q122_23, as_nil, as_i, as_r, Nat.reduceAdd, Nat.reduceLeDiff, z_eq0, z_eq1, z_or, z_em, Classical.not_not, not_false_eq_true, not_true_eq_false, true_and, and_true, false_and, and_false, and_self, true_implies, false_implies, implies_true, Option.toList_some, Option.toList_none, List.cons_append, List.nil_append, Nat.add_eq_zero_iff, a_nl_i, a_nl_r, a_nl_n, true_or, or_true, eq_self, a_isRA_22, a_isRA_24, a_isRA_32, a_isA_20, ok_4, ok_5, ok_6, ok_7, ok_9, ok_20, ok_21, ok_30, ok_50, ok_180, ok_192, ok_200, ha, a0]
  all_goals grind [ui_ap]
theorem ce_isAheadOf (hT : cT C K L I R) {a : Nat} {i : Int32} (ap : aaP C K I Y i a) {b : Nat} {k : Int32} (bp : aaP C K I Y k b) (hP : P (some (.int (if ahB Y i k = true then 1 else 0))) (n, t, K, L, I, R)) : a_does (d + 2) 121 [a_rf a, a_rf b] (n, t, K, L, I, R) P := by
  obtain ⟨-, ⟨ha, an, a4⟩, am, al⟩ := ap
  obtain ⟨-, ⟨hb, bn, b4⟩, bm, bl⟩ := bp
  have a0 : (a = 0) = False := eq_false an
  have b0 : (b = 0) = False := eq_false bn
  have ea : (if I a 5 = 5 then (0 : Int32) else if I a 5 = 3 then 1 else 2) = rkY Y i := by rw [al.1.2.2.2.2]; rfl
  have eb : (if I b 5 = 5 then (0 : Int32) else if I b 5 = 3 then 1 else 2) = rkY Y k := by rw [bl.1.2.2.2.2]; rfl
  have ra := fun (Q : Option Value → AH → Prop) (q : Q (some (.int (rkY Y i))) (n, t, K, L, I, R)) => ce_rank (d := d) (L := L) (R := R) (n := n) (t := t) (P := Q) ha an (by rw [ea]; exact q)
  have rb := fun (Q : Option Value → AH → Prop) (q : Q (some (.int (rkY Y k))) (n, t, K, L, I, R)) => ce_rank (d := d) (L := L) (R := R) (n := n) (t := t) (P := Q) hb bn (by rw [eb]; exact q)
  have am : I a 12 = maY Y i := am
  have bm : I b 12 = maY Y k := bm
  unfold ahB at hP
  clear al bl ea eb hT
  rw [a_enter1 (M := a_m121) rfl (a_cat_rf (a_cat_rf a_cat_nil)) (show 2 ≤ 2 by decide)]
  show a_at _ (a_xm a_m121) 0 [some (a_rf a), some (a_rf b)] [] _ _
  simp only [q121_0, q121_1, as_nil, as_i, as_r, Nat.reduceAdd, Nat.reduceLeDiff, z_eq0, z_eq1, z_or, z_em, Classical.not_not, not_false_eq_true, not_true_eq_false, true_and, and_true, false_and, and_false, and_self, true_implies, false_implies, implies_true, Option.toList_some, Option.toList_none, List.cons_append, List.nil_append, Nat.add_eq_zero_iff, a_nl_i, a_nl_r, a_nl_n, true_or, or_true, eq_self, a_isRA_22, a_isRA_24, a_isRA_32, a_isA_20, ok_4, ok_5, ok_6, ok_7, ok_9, ok_20, ok_21, ok_30, ok_50, ok_180, ok_192, ok_200, ha, a0]
  try simp only [true_and, and_true, true_implies, false_implies, implies_true, not_true_eq_false, not_false_eq_true]
  refine ra _ ?_
  simp only [q121_4, q121_5, as_nil, as_i, as_r, Nat.reduceAdd, Nat.reduceLeDiff, z_eq0, z_eq1, z_or, z_em, Classical.not_not, not_false_eq_true, not_true_eq_false, true_and, and_true, false_and, and_false, and_self, true_implies, false_implies, implies_true, Option.toList_some, Option.toList_none, List.cons_append, List.nil_append, Nat.add_eq_zero_iff, a_nl_i, a_nl_r, a_nl_n, true_or, or_true, eq_self, a_isRA_22, a_isRA_24, a_isRA_32, a_isA_20, ok_4, ok_5, ok_6, ok_7, ok_9, ok_20, ok_21, ok_30, ok_50, ok_180, ok_192, ok_200, hb, b0]
  try simp only [true_and, and_true, true_implies, false_implies, implies_true, not_true_eq_false, not_false_eq_true]
  refine rb _ ?_
  simp only [q121_8, q121_11, q121_12, q121_28, q121_29, q121_32, q121_33, q121_36, q121_39, q121_40, q121_43, q121_44, q121_47, q121_50, q121_51, q121_54, q121_55, q121_56, q121_57, q121_60, q121_61, q121_64, q121_67, q121_68, q121_71, q121_72, as_nil, as_i, as_r, Nat.reduceAdd, Nat.reduceLeDiff, z_eq0, z_eq1, z_or, z_em, Classical.not_not, not_false_eq_true, not_true_eq_false, true_and, and_true, false_and, and_false, and_self, true_implies, false_implies, implies_true, Option.toList_some, Option.toList_none, List.cons_append, List.nil_append, Nat.add_eq_zero_iff, a_nl_i, a_nl_r, a_nl_n, true_or, or_true, eq_self, a_isRA_22, a_isRA_24, a_isRA_32, a_isA_20, ok_4, ok_5, ok_6, ok_7, ok_9, ok_20, ok_21, ok_30, ok_50, ok_180, ok_192, ok_200, ha, a0, hb, b0, am, bm, a4, b4]
  by_cases c : rkY Y i = rkY Y k
  · rw [if_pos c] at hP
    simp only [c]
    try simp only [true_and, and_true, true_implies, false_implies, implies_true, not_true_eq_false, not_false_eq_true]
    clear ra rb am bm
    generalize maY Y i = x at hP ⊢
    generalize maY Y k = y at hP ⊢
    grind
  · rw [if_neg c] at hP
    simp only [c]
    try simp only [true_and, and_true, true_implies, false_implies, implies_true, not_true_eq_false, not_false_eq_true]
    refine ra _ ?_
    simp only [q121_15, q121_16, as_nil, as_i, as_r, Nat.reduceAdd, Nat.reduceLeDiff, z_eq0, z_eq1, z_or, z_em, Classical.not_not, not_false_eq_true, not_true_eq_false, true_and, and_true, false_and, and_false, and_self, true_implies, false_implies, implies_true, Option.toList_some, Option.toList_none, List.cons_append, List.nil_append, Nat.add_eq_zero_iff, a_nl_i, a_nl_r, a_nl_n, true_or, or_true, eq_self, a_isRA_22, a_isRA_24, a_isRA_32, a_isA_20, ok_4, ok_5, ok_6, ok_7, ok_9, ok_20, ok_21, ok_30, ok_50, ok_180, ok_192, ok_200, hb, b0]
    try simp only [true_and, and_true, true_implies, false_implies, implies_true, not_true_eq_false, not_false_eq_true]
    refine rb _ ?_
    simp only [q121_19, q121_22, q121_23, q121_26, q121_27, as_nil, as_i, as_r, Nat.reduceAdd, Nat.reduceLeDiff, z_eq0, z_eq1, z_or, z_em, Classical.not_not, not_false_eq_true, not_true_eq_false, true_and, and_true, false_and, and_false, and_self, true_implies, false_implies, implies_true, Option.toList_some, Option.toList_none, List.cons_append, List.nil_append, Nat.add_eq_zero_iff, a_nl_i, a_nl_r, a_nl_n, true_or, or_true, eq_self, a_isRA_22, a_isRA_24, a_isRA_32, a_isA_20, ok_4, ok_5, ok_6, ok_7, ok_9, ok_20, ok_21, ok_30, ok_50, ok_180, ok_192, ok_200]
    clear ra rb am bm
    grind
/-- the class's row of ORDER -/
def odP (C : Nat) (R : Nat → Nat → Nat) (Y : Nat → Nat → Int32) (o : Nat → Int32) (j : Nat) : Prop := R (C + 23) j = R (C + 15) (o j).toNatClampNeg ∧ 0 ≤ o j ∧ o j < Y 0 17
theorem le_enter_15 (hT0 : cT C K L I R) (hc : cpP C K L I R Y) (hse : seP C R Y) {a : Nat} {i : Int32} (ap : aaP C K I Y i a) (haa : (R (C + 15) i.toNatClampNeg) = a) {m : Nat} (hm30 : m < 30) (h6 : I (C + 22) 6 = Int32.ofNat m) {V : Nat → Int32} (hP : ∀ R2, cT C K L (a_ui I (C + 22) 6 (Int32.ofNat (m + 1))) R2 → rfP C R R2 → (∀ j, j ≤ m → odP C R2 Y V j) → P none (n, t, K, L, a_ui I (C + 22) 6 (Int32.ofNat (m + 1)), R2)) : ∀ (p : Nat) (R1 : Nat → Nat → Nat) (o : Nat → Int32), p ≤ m → cT C K L I R1 → rfP C R R1 → (∀ j, j ≤ m → ¬ j = p → odP C R1 Y o j) → (∀ j, j ≤ m → inS Y i p o j = V j) → a_at (d + 2) (a_xm a_m120) 15 [some (a_rf (C + 22)), some (a_rf a), some (.int (Int32.ofNat p))] [] (n, t, K, L, I, R1) P := by
  obtain ⟨ai, ⟨ha, an0, a4n⟩, -, -⟩ := id ap
  have a0 : (a = 0) = False := eq_false an0
  have r15 : ∀ R1, rfP C R R1 → ∀ j, R1 (C + 15) j = R (C + 15) j := fun R1 h j => h _ _ (by omega) (by omega) (by omega)
  have put : ∀ (p : Nat) (R1 : Nat → Nat → Nat) (o : Nat → Int32), p ≤ m → cT C K L I R1 → rfP C R R1 → (∀ j, j ≤ m → ¬ j = p → odP C R1 Y o j) → (∀ j, j ≤ m → up1 o p i j = V j) → a_at (d + 2) (a_xm a_m120) 54 [some (a_rf (C + 22)), some (a_rf a), some (.int (Int32.ofNat p))] [] (n, t, K, L, I, R1) P := fun p R1 o hp hT1 hr ho hV => by
    have hS := hT1.s
    obtain ⟨-, -, ep, -⟩ := on_p (p := p) (by omega)
    obtain ⟨-, -, -, -, em, -⟩ := on_p (p := m) (by omega)
    have hok : 0 ≤ Int32.ofNat p ∧ Int32.ofNat p < 30 := ⟨Int32.not_lt.mp (fun q => by rw [show (0 : Int32) = Int32.ofNat 0 from rfl, on_lt (by omega) (by omega)] at q; omega), by rw [show (30 : Int32) = Int32.ofNat 30 from rfl, on_lt (by omega) (by omega)]; omega⟩
    have hok2 : 0 ≤ Int32.ofNat (m + 1) ∧ Int32.ofNat (m + 1) ≤ 30 := ⟨Int32.not_lt.mp (fun q => by rw [show (0 : Int32) = Int32.ofNat 0 from rfl, on_lt (by omega) (by omega)] at q; omega), Int32.not_lt.mp (fun q => by rw [show (30 : Int32) = Int32.ofNat 30 from rfl, on_lt (by omega) (by omega)] at q; omega)⟩
    have hT2 : cT C K L I (a_ur R1 (C + 23) p a) := sT_Rorder hT1 (Or.inr ha)
    have hf := hP (a_ur R1 (C + 23) p a) (sT_Planner_orderSize hT2 hok2) (fun x j q1 q2 q3 => by rw [ur_ap, if_neg (fun e => q1 e.1)]; exact hr x j q1 q2 q3) (fun j hj => by
      have hv := hV j hj
      unfold odP
      rw [← hv, ur_ap, ur_ap, if_neg (c := C + 15 = C + 23 ∧ _) (by omega)]
      unfold up1
      by_cases e : j = p
      · rw [if_pos ⟨rfl, e⟩, if_pos e, r15 R1 hr, haa]
        exact ⟨rfl, ai⟩
      · rw [if_neg (fun q => e q.2), if_neg e]
        exact ho j hj e)
    have hS2 := hT2.s
    clear hP hV ho hT1 hT2 hT0 hc hse ap
    simp only [q120_54, q120_55, q120_58, q120_59, q120_60, k_22 hS, z_22, r_22_2 hS, k_23 hS, l_23 hS, z_23, as_nil, as_i, as_r, Nat.reduceAdd, Nat.reduceLeDiff, z_eq0, z_eq1, z_or, z_em, Classical.not_not, not_false_eq_true, not_true_eq_false, true_and, and_true, false_and, and_false, and_self, true_implies, false_implies, implies_true, Option.toList_some, Option.toList_none, List.cons_append, List.nil_append, Nat.add_eq_zero_iff, a_nl_i, a_nl_r, a_nl_n, true_or, or_true, eq_self, a_isRA_22, a_isRA_24, a_isRA_32, a_isA_20, ok_4, ok_5, ok_6, ok_7, ok_9, ok_20, ok_21, ok_30, ok_50, ok_180, ok_192, ok_200, ha, a0, ep, hok]
    simp only [q120_61, q120_62, q120_63, q120_66, q120_67, q120_68, q120_71, k_22 hS2, z_22, as_nil, as_i, as_r, Nat.reduceAdd, Nat.reduceLeDiff, z_eq0, z_eq1, z_or, z_em, Classical.not_not, not_false_eq_true, not_true_eq_false, true_and, and_true, false_and, and_false, and_self, true_implies, false_implies, implies_true, Option.toList_some, Option.toList_none, List.cons_append, List.nil_append, Nat.add_eq_zero_iff, a_nl_i, a_nl_r, a_nl_n, true_or, or_true, eq_self, a_isRA_22, a_isRA_24, a_isRA_32, a_isA_20, ok_4, ok_5, ok_6, ok_7, ok_9, ok_20, ok_21, ok_30, ok_50, ok_180, ok_192, ok_200, ha, a0, ur_ap, cc_ne, Nat.reduceEqDiff, if_false, h6, em]
    try simp only [true_and, and_true, true_implies, false_implies, implies_true, not_true_eq_false, not_false_eq_true]
    first
      | exact hf
      | exact ⟨Or.inr rfl, hf⟩
      | grind
  intro p
  induction p with
  | zero =>
    intro R1 o hp hT1 hr ho hV
    have hS := hT1.s
    have hput := put 0 R1 o hp hT1 hr ho (fun j hj => hV j hj)
    have e0 : Int32.ofNat 0 = 0 := rfl
    rw [e0] at hput ⊢
    clear put hP hV ho hT0 hc hse ap
    rw [q120_15]
    simp only [q120_16, as_nil, as_i, as_r, Nat.reduceAdd, Nat.reduceLeDiff, z_eq0, z_eq1, z_or, z_em, Classical.not_not, not_false_eq_true, not_true_eq_false, true_and, and_true, false_and, and_false, and_self, true_implies, false_implies, implies_true, Option.toList_some, Option.toList_none, List.cons_append, List.nil_append, Nat.add_eq_zero_iff, a_nl_i, a_nl_r, a_nl_n, true_or, or_true, eq_self, a_isRA_22, a_isRA_24, a_isRA_32, a_isA_20, ok_4, ok_5, ok_6, ok_7, ok_9, ok_20, ok_21, ok_30, ok_50, ok_180, ok_192, ok_200]
    first
      | exact hput
      | grind
  | succ p ih =>
    intro R1 o hp hT1 hr ho hV
    have hS := hT1.s
    obtain ⟨e1, e2, e3, e4, -, -⟩ := on_p (p := p) (by omega)
    obtain ⟨-, -, e3', -⟩ := on_p (p := p + 1) (by omega)
    obtain ⟨q0, q1, q2⟩ := ho p (by omega) (by omega)
    have hok : 0 ≤ Int32.ofNat p ∧ Int32.ofNat p < 30 := ⟨Int32.not_lt.mp (fun q => by rw [show (0 : Int32) = Int32.ofNat 0 from rfl, on_lt (by omega) (by omega)] at q; omega), by rw [show (30 : Int32) = Int32.ofNat 30 from rfl, on_lt (by omega) (by omega)]; omega⟩
    have hok1 : 0 ≤ Int32.ofNat (p + 1) ∧ Int32.ofNat (p + 1) < 30 := ⟨Int32.le_of_lt e4, by rw [show (30 : Int32) = Int32.ofNat 30 from rfl, on_lt (by omega) (by omega)]; omega⟩
    have n0 : ¬ Int32.ofNat (p + 1) ≤ 0 := Int32.not_le.mpr e4
    have hc1 := cp_rf hT0 hc hr
    have bp := aa_of hc1 q1 q2
    have ap1 : aaP C K I Y i a := ap
    have hkb := bp.2.1.1
    have hbn := bp.2.1.2.1
    have hput := put (p + 1) R1 o hp hT1 hr ho
    clear put
    rw [q120_15]
    simp only [q120_16, q120_19, q120_20, q120_21, q120_24, q120_25, q120_26, q120_27, q120_28, k_22 hS, z_22, r_22_2 hS, k_23 hS, l_23 hS, z_23, as_nil, as_i, as_r, Nat.reduceAdd, Nat.reduceLeDiff, z_eq0, z_eq1, z_or, z_em, Classical.not_not, not_false_eq_true, not_true_eq_false, true_and, and_true, false_and, and_false, and_self, true_implies, false_implies, implies_true, Option.toList_some, Option.toList_none, List.cons_append, List.nil_append, Nat.add_eq_zero_iff, a_nl_i, a_nl_r, a_nl_n, true_or, or_true, eq_self, a_isRA_22, a_isRA_24, a_isRA_32, a_isA_20, ok_4, ok_5, ok_6, ok_7, ok_9, ok_20, ok_21, ok_30, ok_50, ok_180, ok_192, ok_200, ha, a0, e1, e3, hok, n0, q0]
    try simp only [true_and, and_true, true_implies, false_implies, implies_true, not_true_eq_false, not_false_eq_true]
    refine ce_isAheadOf (d := d) hT1 ap1 bp ?_
    by_cases c : ahB Y i (o p) = true
    · rw [if_pos c]
      have n10 : ¬ (1 : Int32) = 0 := by decide
      have hg2 := ih (a_ur R1 (C + 23) (p + 1) (R1 (C + 15) (o p).toNatClampNeg)) (up1 o (p + 1) (o p)) (by omega) (sT_Rorder hT1 (Or.inr hkb)) (fun x j q1 q2 q3 => by rw [ur_ap, if_neg (fun e => q1 e.1)]; exact hr x j q1 q2 q3) (fun j hj hn => by
        unfold odP
        rw [ur_ap, ur_ap, if_neg (c := C + 15 = C + 23 ∧ _) (by omega)]
        unfold up1
        by_cases e : j = p + 1
        · rw [if_pos ⟨rfl, e⟩, if_pos e]
          exact ⟨rfl, q1, q2⟩
        · rw [if_neg (fun q => e q.2), if_neg e]
          exact ho j hj e) (fun j hj => by
        rw [← hV j hj]
        conv => rhs; unfold inS
        rw [if_pos c])
      clear ih hP hV ho hput hT1 hT0 hc hc1 hse ap ap1 bp
      simp only [q120_31, q120_34, q120_35, q120_38, q120_39, q120_40, q120_43, q120_44, q120_45, q120_46, q120_47, q120_48, q120_51, k_22 hS, z_22, r_22_2 hS, k_23 hS, l_23 hS, z_23, as_nil, as_i, as_r, Nat.reduceAdd, Nat.reduceLeDiff, z_eq0, z_eq1, z_or, z_em, Classical.not_not, not_false_eq_true, not_true_eq_false, true_and, and_true, false_and, and_false, and_self, true_implies, false_implies, implies_true, Option.toList_some, Option.toList_none, List.cons_append, List.nil_append, Nat.add_eq_zero_iff, a_nl_i, a_nl_r, a_nl_n, true_or, or_true, eq_self, a_isRA_22, a_isRA_24, a_isRA_32, a_isA_20, ok_4, ok_5, ok_6, ok_7, ok_9, ok_20, ok_21, ok_30, ok_50, ok_180, ok_192, ok_200, ha, a0, e1, e2, e3, e3', hok, hok1, n10, q0, hkb, hbn]
      try simp only [true_and, and_true, true_implies, false_implies, implies_true, not_true_eq_false, not_false_eq_true]
      first
        | exact hg2
        | exact ⟨Or.inr rfl, hg2⟩
        | grind
    · rw [if_neg c]
      have hput := hput (fun j hj => by
        rw [← hV j hj]
        unfold inS
        rw [if_neg c])
      clear ih hP hV ho hT1 hT0 hc hc1 hse ap ap1 bp
      simp only [q120_31, as_nil, as_i, as_r, Nat.reduceAdd, Nat.reduceLeDiff, z_eq0, z_eq1, z_or, z_em, Classical.not_not, not_false_eq_true, not_true_eq_false, true_and, and_true, false_and, and_false, and_self, true_implies, false_implies, implies_true, Option.toList_some, Option.toList_none, List.cons_append, List.nil_append, Nat.add_eq_zero_iff, a_nl_i, a_nl_r, a_nl_n, true_or, or_true, eq_self, a_isRA_22, a_isRA_24, a_isRA_32, a_isA_20, ok_4, ok_5, ok_6, ok_7, ok_9, ok_20, ok_21, ok_30, ok_50, ok_180, ok_192, ok_200, ha, a0]
      first
        | exact hput
        | grind
theorem ce_enter (hT : cT C K L I R) (hc : cpP C K L I R Y) (hse : seP C R Y) {a : Nat} {i : Int32} (ap : aaP C K I Y i a) (haa : (R (C + 15) i.toNatClampNeg) = a) {m : Nat} {o : Nat → Int32} (hm30 : m < 30) (h6 : I (C + 22) 6 = Int32.ofNat m) (ho : ∀ j, j < m → odP C R Y o j) (hP : ∀ R2, cT C K L (a_ui I (C + 22) 6 (Int32.ofNat (m + 1))) R2 → rfP C R R2 → (∀ j, j ≤ m → odP C R2 Y (inS Y i m o) j) → P none (n, t, K, L, a_ui I (C + 22) 6 (Int32.ofNat (m + 1)), R2)) : a_does (d + 3) 120 [a_rf (C + 22), a_rf a] (n, t, K, L, I, R) P := by
  have hS := hT.s
  have hl := le_enter_15 (d := d) (n := n) (t := t) (P := P) hT hc hse ap haa hm30 h6 hP m R o (Nat.le_refl _) hT (fun _ _ _ _ _ => rfl) (fun j hj hn => ho j (by omega)) (fun j hj => rfl)
  have hm1 : Int32.ofNat m < 30 := by rw [show (30 : Int32) = Int32.ofNat 30 from rfl, on_lt (by omega) (by omega)]; exact hm30
  have hm2 : ¬ 30 ≤ Int32.ofNat m := Int32.not_le.mpr hm1
  clear hP ho hc hse ap
  rw [a_enter1 (M := a_m120) rfl (a_cat_rf (a_cat_rf a_cat_nil)) (show 2 ≤ 3 by decide)]
  show a_at _ (a_xm a_m120) 0 [some (a_rf (C + 22)), some (a_rf a), none] [] _ _
  simp only [q120_0, q120_1, q120_4, q120_6, q120_9, q120_10, q120_11, q120_14, k_22 hS, z_22, as_nil, as_i, as_r, Nat.reduceAdd, Nat.reduceLeDiff, z_eq0, z_eq1, z_or, z_em, Classical.not_not, not_false_eq_true, not_true_eq_false, true_and, and_true, false_and, and_false, and_self, true_implies, false_implies, implies_true, Option.toList_some, Option.toList_none, List.cons_append, List.nil_append, Nat.add_eq_zero_iff, a_nl_i, a_nl_r, a_nl_n, true_or, or_true, eq_self, a_isRA_22, a_isRA_24, a_isRA_32, a_isA_20, ok_4, ok_5, ok_6, ok_7, ok_9, ok_20, ok_21, ok_30, ok_50, ok_180, ok_192, ok_200, h6, hm1, hm2]
  try simp only [true_and, and_true, true_implies, false_implies, implies_true, not_true_eq_false, not_false_eq_true]
  first
    | exact hl
    | grind
theorem le_isInShare_19 (hT : cT C K L I R) (hc : cpP C K L I R Y) {a : Nat} {i : Int32} (ap : aaP C K I Y i a) (haa : (R (C + 15) i.toNatClampNeg) = a) {f e : Int32} {V : Int32} (hN : ∀ o u, a_at (d + 1) (a_xm a_m123) 128 [some (a_rf (C + 22)), some (a_rf a), some (.int f), some (.int e), some (.int V), some (.int o), u] [] (n, t, K, L, I, R) P) : ∀ o : Int32, o ≤ 30 → ∀ q u, 0 ≤ o → o ≤ Y 0 17 → shI Y i f e ((Y 0 17).toNatClampNeg - o.toNatClampNeg) o q = V → a_at (d + 1) (a_xm a_m123) 19 [some (a_rf (C + 22)), some (a_rf a), some (.int f), some (.int e), some (.int q), some (.int o), u] [] (n, t, K, L, I, R) P := by
  have hS := hT.s
  obtain ⟨ai, ⟨ha, an0, a4n⟩, am, al⟩ := id ap
  obtain ⟨a1, a2, a4, a3⟩ := hT.g_ask a ha
  have a0 : (a = 0) = False := eq_false an0
  have gA := hT.g_asksR
  have gB := hT.g_benchesR
  have gX := hT.g_textsR
  have h17 := hc.2.2.2.2.2.2.2.2.1
  have e4 : I (C + 14) 4 = Y 0 17 := hc.2.2.1.1
  have e1 : I a 1 = Y 9 i.toNatClampNeg := al.1.2.1
  refine up_ind 30 (fun o o30 ih => ?_)
  intro q u h0 h1 hV
  have hexit : ¬ o < Y 0 17 → a_at (d + 1) (a_xm a_m123) 128 [some (a_rf (C + 22)), some (a_rf a), some (.int f), some (.int e), some (.int q), some (.int o), u] [] (n, t, K, L, I, R) P := fun w => by
    rw [(lp_end h1 w).1] at hV
    have hn := hN o u
    rw [← hV] at hn
    exact hn
  have hgo : o < Y 0 17 → ∀ q2 u2, q2 = (if ¬ o = i ∧ 0 ≤ Y 20 o.toNatClampNeg ∧ ¬ Y 7 o.toNatClampNeg = 5 ∧ Y 9 o.toNatClampNeg = Y 9 i.toNatClampNeg ∧ (f ≤ Y 21 o.toNatClampNeg ∧ Y 21 o.toNatClampNeg ≤ e) then q + ((if Y 21 o.toNatClampNeg + Y 10 o.toNatClampNeg - 1 < e then Y 21 o.toNatClampNeg + Y 10 o.toNatClampNeg - 1 else e) - Y 21 o.toNatClampNeg + 1) else q) → a_at (d + 1) (a_xm a_m123) 122 [some (a_rf (C + 22)), some (a_rf a), some (.int f), some (.int e), some (.int q2), some (.int o), u2] [] (n, t, K, L, I, R) P := fun w q2 u2 eq => by
    obtain ⟨s1, s2, s3, s4⟩ := lp_st h0 w
    rw [s1] at hV
    unfold shI at hV
    rw [← eq] at hV
    have hi := ih (Int32.lt_of_lt_of_le w h17.2) q2 u2 s2 s3 hV
    clear ih hN hV hexit
    simp only [q123_122, q123_125, as_nil, as_i, as_r, Nat.reduceAdd, Nat.reduceLeDiff, z_eq0, z_eq1, z_or, z_em, Classical.not_not, not_false_eq_true, not_true_eq_false, true_and, and_true, false_and, and_false, and_self, true_implies, false_implies, implies_true, Option.toList_some, Option.toList_none, List.cons_append, List.nil_append, Nat.add_eq_zero_iff, a_nl_i, a_nl_r, a_nl_n, true_or, or_true, eq_self, a_isRA_22, a_isRA_24, a_isRA_32, a_isA_20, ok_4, ok_5, ok_6, ok_7, ok_9, ok_20, ok_21, ok_30, ok_50, ok_180, ok_192, ok_200]
    exact hi
  have hin : o < Y 0 17 → a_at (d + 1) (a_xm a_m123) 31 [some (a_rf (C + 22)), some (a_rf a), some (.int f), some (.int e), some (.int q), some (.int o), u] [] (n, t, K, L, I, R) P := fun w => by
    have hgo := hgo w
    have bp := aa_of hc h0 w
    obtain ⟨-, ⟨kb, bn, b4⟩, bm, bl⟩ := bp
    have b0 : (R (C + 15) o.toNatClampNeg = 0) = False := eq_false bn
    have o30 : o < 30 := Int32.lt_of_lt_of_le w h17.2
    have hoc : 0 ≤ o ∧ o < I (C + 14) 4 ∧ o < 30 := ⟨h0, by rw [e4]; exact w, o30⟩
    have ne : (R (C + 15) o.toNatClampNeg = a) = (o = i) := propext ⟨fun e => by rw [← b4, e]; exact a4n, fun e => by rw [e]; exact haa⟩
    have f5 : I (R (C + 15) o.toNatClampNeg) 5 = Y 7 o.toNatClampNeg := bl.1.2.2.2.2
    have f1 : I (R (C + 15) o.toNatClampNeg) 1 = Y 9 o.toNatClampNeg := bl.1.2.1
    have f2 : I (R (C + 15) o.toNatClampNeg) 2 = Y 10 o.toNatClampNeg := bl.1.2.2.1
    have f13 : I (R (C + 15) o.toNatClampNeg) 13 = Y 20 o.toNatClampNeg := bl.2.2.2.1.1
    have f14 : I (R (C + 15) o.toNatClampNeg) 14 = Y 21 o.toNatClampNeg := bl.2.2.2.1.2
    clear ih hN hV hexit hc ap al am bl bm
    repeat' first
      | with_reducible apply And.intro
      | with_reducible assumption
      | with_reducible intro _
      | refine hgo _ _ ?_
      | simp only [q123_31, q123_32, q123_35, q123_37, q123_40, q123_42, q123_44, q123_47, q123_49, q123_50, q123_53, q123_55, q123_58, q123_59, q123_62, q123_64, q123_67, q123_68, q123_71, q123_74, q123_76, q123_79, q123_82, q123_84, q123_87, q123_88, q123_91, q123_93, q123_96, q123_97, q123_100, q123_102, q123_103, q123_105, q123_108, q123_111, q123_113, q123_116, q123_117, q123_118, q123_119, q123_120, k_22 hS, z_22, r_22_0 hS, k_14 hS, z_14, sp_askAt hS gA, sp_isPlaced, sp_last, sp_min, as_nil, as_i, as_r, Nat.reduceAdd, Nat.reduceLeDiff, z_eq0, z_eq1, z_or, z_em, Classical.not_not, not_false_eq_true, not_true_eq_false, true_and, and_true, false_and, and_false, and_self, true_implies, false_implies, implies_true, Option.toList_some, Option.toList_none, List.cons_append, List.nil_append, Nat.add_eq_zero_iff, a_nl_i, a_nl_r, a_nl_n, true_or, or_true, eq_self, a_isRA_22, a_isRA_24, a_isRA_32, a_isA_20, ok_4, ok_5, ok_6, ok_7, ok_9, ok_20, ok_21, ok_30, ok_50, ok_180, ok_192, ok_200, ha, a0, hoc, kb, b0, bn, ne, f5, f1, f2, f13, f14, e1]
    all_goals ((try clear hgo); (try clear hT); (try clear hS); (try clear gA); (try clear gB); (try clear gX); (try clear f5); (try clear f1); (try clear f2); (try clear f13); (try clear f14); (try clear kb); grind [ui_ap])
  clear ih hN hV hgo hc ap al am
  rw [q123_19]
  repeat' first
    | with_reducible apply And.intro
    | with_reducible assumption
    | with_reducible intro _
    | refine hexit ?_
    | refine hin ?_
    | simp only [q123_21, q123_22, q123_25, q123_28, k_22 hS, z_22, r_22_0 hS, k_14 hS, z_14, as_nil, as_i, as_r, Nat.reduceAdd, Nat.reduceLeDiff, z_eq0, z_eq1, z_or, z_em, Classical.not_not, not_false_eq_true, not_true_eq_false, true_and, and_true, false_and, and_false, and_self, true_implies, false_implies, implies_true, Option.toList_some, Option.toList_none, List.cons_append, List.nil_append, Nat.add_eq_zero_iff, a_nl_i, a_nl_r, a_nl_n, true_or, or_true, eq_self, a_isRA_22, a_isRA_24, a_isRA_32, a_isA_20, ok_4, ok_5, ok_6, ok_7, ok_9, ok_20, ok_21, ok_30, ok_50, ok_180, ok_192, ok_200, e4]
  all_goals ((try clear hexit); (try clear hin); (try clear hT); (try clear hS); (try clear gA); (try clear gB); (try clear gX); grind [ui_ap])
theorem ce_isInShare (hT : cT C K L I R) (hc : cpP C K L I R Y) {a : Nat} {i : Int32} (ap : aaP C K I Y i a) (haa : (R (C + 15) i.toNatClampNeg) = a) (hsh : I (C + 22) 8 = Y 0 10) {f e : Int32} (hP : P (some (.int (if shB Y i f e = true then 1 else 0))) (n, t, K, L, I, R)) : a_does (d + 2) 123 [a_rf (C + 22), a_rf a, .int f, .int e] (n, t, K, L, I, R) P := by
  have hS := hT.s
  obtain ⟨ai, ⟨ha, an0, a4n⟩, am, al⟩ := id ap
  obtain ⟨a1, a2, a4, a3⟩ := hT.g_ask a ha
  have a0 : (a = 0) = False := eq_false an0
  have e5 : I a 5 = Y 7 i.toNatClampNeg := al.1.2.2.2.2
  have e2 : I a 2 = Y 10 i.toNatClampNeg := al.1.2.2.1
  have eb : I (C + 14) 5 = Y 0 6 := hc.2.1.1
  unfold shB at hP
  by_cases c : Y 7 i.toNatClampNeg = 5
  · rw [if_pos c, if_pos rfl] at hP
    clear hc ap al am
    rw [a_enter1 (M := a_m123) rfl (a_cat_rf (a_cat_rf (a_cat_int (a_cat_int a_cat_nil)))) (show 4 ≤ 7 by decide)]
    show a_at _ (a_xm a_m123) 0 [some (a_rf (C + 22)), some (a_rf a), some (.int f), some (.int e), none, none, none] [] _ _
    simp only [q123_0, q123_1, q123_4, q123_5, q123_8, q123_9, k_22 hS, z_22, as_nil, as_i, as_r, Nat.reduceAdd, Nat.reduceLeDiff, z_eq0, z_eq1, z_or, z_em, Classical.not_not, not_false_eq_true, not_true_eq_false, true_and, and_true, false_and, and_false, and_self, true_implies, false_implies, implies_true, Option.toList_some, Option.toList_none, List.cons_append, List.nil_append, Nat.add_eq_zero_iff, a_nl_i, a_nl_r, a_nl_n, true_or, or_true, eq_self, a_isRA_22, a_isRA_24, a_isRA_32, a_isA_20, ok_4, ok_5, ok_6, ok_7, ok_9, ok_20, ok_21, ok_30, ok_50, ok_180, ok_192, ok_200, ha, a0, e5, c]
    try simp only [true_and, and_true, true_implies, false_implies, implies_true, not_true_eq_false, not_false_eq_true]
    first
      | exact hP
      | grind
  · rw [if_neg c] at hP
    have hl := le_isInShare_19 (d := d) (n := n) (t := t) (P := P) (f := f) (e := e) hT hc ap haa (V := shI Y i f e (Y 0 17).toNatClampNeg 0 (Y 10 i.toNatClampNeg)) (fun o u => by
      generalize shI Y i f e (Y 0 17).toNatClampNeg 0 (Y 10 i.toNatClampNeg) = V at hP ⊢
      clear hc ap al am
      simp only [q123_128, q123_130, q123_131, q123_134, q123_135, q123_138, q123_141, q123_142, q123_143, q123_144, q123_145, q123_146, q123_147, q123_148, q123_150, q123_151, q123_154, q123_155, q123_158, q123_159, k_22 hS, z_22, r_22_0 hS, k_14 hS, z_14, as_nil, as_i, as_r, Nat.reduceAdd, Nat.reduceLeDiff, z_eq0, z_eq1, z_or, z_em, Classical.not_not, not_false_eq_true, not_true_eq_false, true_and, and_true, false_and, and_false, and_self, true_implies, false_implies, implies_true, Option.toList_some, Option.toList_none, List.cons_append, List.nil_append, Nat.add_eq_zero_iff, a_nl_i, a_nl_r, a_nl_n, true_or, or_true, eq_self, a_isRA_22, a_isRA_24, a_isRA_32, a_isA_20, ok_4, ok_5, ok_6, ok_7, ok_9, ok_20, ok_21, ok_30, ok_50, ok_180, ok_192, ok_200, hsh, eb]
      generalize Y 0 10 * Y 0 6 * (e - f + 1) / 100 = W at hP ⊢
      clear hsh eb e5 e2 hS hT
      grind) 0 (by decide) (Y 10 i.toNatClampNeg) none (by decide) hc.2.2.2.2.2.2.2.2.1.1 (by rw [lp_0])
    clear hc ap al am hP
    rw [a_enter1 (M := a_m123) rfl (a_cat_rf (a_cat_rf (a_cat_int (a_cat_int a_cat_nil)))) (show 4 ≤ 7 by decide)]
    show a_at _ (a_xm a_m123) 0 [some (a_rf (C + 22)), some (a_rf a), some (.int f), some (.int e), none, none, none] [] _ _
    simp only [q123_0, q123_1, q123_4, q123_5, q123_8, q123_9, q123_10, q123_11, q123_14, q123_16, q123_17, k_22 hS, z_22, as_nil, as_i, as_r, Nat.reduceAdd, Nat.reduceLeDiff, z_eq0, z_eq1, z_or, z_em, Classical.not_not, not_false_eq_true, not_true_eq_false, true_and, and_true, false_and, and_false, and_self, true_implies, false_implies, implies_true, Option.toList_some, Option.toList_none, List.cons_append, List.nil_append, Nat.add_eq_zero_iff, a_nl_i, a_nl_r, a_nl_n, true_or, or_true, eq_self, a_isRA_22, a_isRA_24, a_isRA_32, a_isA_20, ok_4, ok_5, ok_6, ok_7, ok_9, ok_20, ok_21, ok_30, ok_50, ok_180, ok_192, ok_200, ha, a0, e5, e2, c]
    try simp only [true_and, and_true, true_implies, false_implies, implies_true, not_true_eq_false, not_false_eq_true]
    first
      | exact hl
      | grind
/-- SHIFTS of a place at which an ASK without one fits are free -/
theorem ft_free (hT : cT C K L I R) (hc : cpP C K L I R Y) (hse : seP C R Y) {b s : Int32} {i : Int32} (ai : 0 ≤ i ∧ i < Y 0 17) (hb : 0 ≤ b ∧ b < Y 0 6) (hs : 0 ≤ s ∧ s ≤ 199) (hsl : s + Y 10 i.toNatClampNeg ≤ 200) (un : ¬ 0 ≤ Y 20 i.toNatClampNeg) (hf : ftY Y i b s = 0) : ∀ z : Int32, 0 ≤ z → z < Y 10 i.toNatClampNeg → whC C I R b (s + z).toNatClampNeg = -9 := fun z z0 z1 => by
  have hy := hc.2.2.2.2
  have hsz := (sh_lt (i := z) ⟨hs.1, Int32.le_trans hs.2 (by decide)⟩ (hy.2.1 i.toNatClampNeg) hsl ⟨z0, Int32.le_of_lt z1⟩).1 z1
  have hg := (br_fx (ft_br hf z0 z1)).2
  rw [hg_class hc.2.1.2.2.2 hy.2.1 hy.2.2.2.2.1.1 hy.2.2.2.2.2.1.1 hb hsz.1] at hg
  refine Classical.byContradiction (fun q => ?_)
  have hi : ¬ whC C I R b (s + z).toNatClampNeg = i := fun e => by
    have := ((who_is hc.2.1.2.2.2 hb hsz.1 ai).mp e).1
    exact un (by rw [this]; exact hb.1)
  rw [if_pos ⟨q, hi⟩] at hg
  exact absurd hg (by decide)
theorem le_placeFirst_19 (hT0 : cT C K L I R) (hc : cpP C K L I R Y) (hse : seP C R Y) {a : Nat} {i : Int32} (ap : aaP C K I Y i a) (haa : (R (C + 15) i.toNatClampNeg) = a) (un : ¬ 0 ≤ Y 20 i.toNatClampNeg) {f e s : Int32} (hs : 0 ≤ s ∧ s ≤ 199) {V : Int32} (hG : 0 ≤ V → ∀ J, dL C K L R I J → aZ K a I J → cpP C K L J R (puY Y i V s) → P (some (.int 1)) (n, t, K, L, J, R)) (hN : ¬ 0 ≤ V → ∀ J u, dC C K L R I J → a_at (d + 6) (a_xm a_m124) 66 [some (a_rf (C + 22)), some (a_rf a), some (.int f), some (.int e), some (.int s), u] [] (n, t, K, L, J, R) P) : ∀ b : Int32, b ≤ 6 → ∀ J, 0 ≤ b → b ≤ Y 0 6 → dC C K L R I J → gfB Y i s ((Y 0 6).toNatClampNeg - b.toNatClampNeg) b = V → a_at (d + 6) (a_xm a_m124) 19 [some (a_rf (C + 22)), some (a_rf a), some (.int f), some (.int e), some (.int s), some (.int b)] [] (n, t, K, L, J, R) P := by
  have hy := hc.2.2.2.2
  have h6 := hy.2.2.2.2.2.1
  refine up_ind 6 (fun b b6 ih => ?_)
  intro J h0 h1 hJ hV
  have hT := hJ.1
  have hS := hT.s
  have hcJ := cpP_C hT0 hc hJ
  have apJ := aaP_C hT0 ap hJ
  obtain ⟨ai, ⟨ha, an0, a4n⟩, am, al⟩ := id apJ
  have a0 : (a = 0) = False := eq_false an0
  have e5 : J (C + 14) 5 = Y 0 6 := hcJ.2.1.1
  have hexit : ¬ b < Y 0 6 → a_at (d + 6) (a_xm a_m124) 66 [some (a_rf (C + 22)), some (a_rf a), some (.int f), some (.int e), some (.int s), some (.int b)] [] (n, t, K, L, J, R) P := fun w => by
    rw [(lp_end h1 w).1] at hV
    have hV : -1 = V := hV
    exact hN (by rw [← hV]; decide) J (some (.int b)) hJ
  have hcall : b < Y 0 6 → a_does (d + 6) 100 [a_rf (C + 14), a_rf a, .int b, .int s] (n, t, K, L, J, R) (fun r h' => a_at (d + 6) (a_xm a_m124) 43 [some (a_rf (C + 22)), some (a_rf a), some (.int f), some (.int e), some (.int s), some (.int b)] (r.toList ++ []) h' P) := fun w => by
    obtain ⟨s1, s2, s3, s4⟩ := lp_st h0 w
    refine ce_firstBar (d := d + 1) hT hcJ apJ ⟨h0, w⟩ hs (fun J2 c2 => ?_)
    have hT2 := c2.1
    have hS2 := hT2.s
    have hJ2 := dC_C hJ c2
    rw [s1] at hV
    unfold gfB at hV
    by_cases cf : ftY Y i b s = 0
    · rw [if_pos cf] at hV
      have hc2 := cpP_C hT hcJ c2
      have ap2 := aaP_C hT apJ c2
      have hl := hy.2.2.1 i ai.1 ai.2
      have hin := ft_in cf ⟨hl, (hy.2.1 _).2⟩ ⟨hs.1, Int32.le_trans hs.2 (by decide)⟩
      have hG := hG (by rw [← hV]; exact h0)
      rw [← hV] at hG
      have hpl : a_does (d + 6) 113 [a_rf (C + 14), a_rf a, .int b, .int s] (n, t, K, L, J2, R) (fun r h' => a_at (d + 6) (a_xm a_m124) 58 [some (a_rf (C + 22)), some (a_rf a), some (.int f), some (.int e), some (.int s), some (.int b)] (r.toList ++ []) h' P) := by
        refine ce_place (d := d) hT2 hc2 hse ap2 haa ⟨h0, w⟩ hs hin.2 un (ft_free hT2 hc2 hse ai ⟨h0, w⟩ hs hin.2 un cf) (fun J3 d3 c3 z3 => ?_)
        have hp := hG J3 (dL_L (dL_C (dL_refl hT0) hJ2) d3) (fun x j kx hx => (z3 x j kx hx).trans (dC_at hJ2 hT0 kx j)) c3
        have hS3 := d3.1.s
        clear ih hG hN hexit hc hcJ hc2 c3 ap apJ ap2 al am
        simp only [q124_58, q124_59, as_nil, as_i, as_r, Nat.reduceAdd, Nat.reduceLeDiff, z_eq0, z_eq1, z_or, z_em, Classical.not_not, not_false_eq_true, not_true_eq_false, true_and, and_true, false_and, and_false, and_self, true_implies, false_implies, implies_true, Option.toList_some, Option.toList_none, List.cons_append, List.nil_append, Nat.add_eq_zero_iff, a_nl_i, a_nl_r, a_nl_n, true_or, or_true, eq_self, a_isRA_22, a_isRA_24, a_isRA_32, a_isA_20, ok_4, ok_5, ok_6, ok_7, ok_9, ok_20, ok_21, ok_30, ok_50, ok_180, ok_192, ok_200]
        first
          | exact hp
          | exact ⟨by decide, hp⟩
          | grind
      clear ih hG hN hexit hc hcJ hc2 ap apJ ap2 al am
      simp only [q124_43, q124_46, q124_47, q124_50, q124_51, q124_53, q124_55, k_22 hS, z_22, r_22_0 hS, k_14 hS, z_14, as_nil, as_i, as_r, Nat.reduceAdd, Nat.reduceLeDiff, z_eq0, z_eq1, z_or, z_em, Classical.not_not, not_false_eq_true, not_true_eq_false, true_and, and_true, false_and, and_false, and_self, true_implies, false_implies, implies_true, Option.toList_some, Option.toList_none, List.cons_append, List.nil_append, Nat.add_eq_zero_iff, a_nl_i, a_nl_r, a_nl_n, true_or, or_true, eq_self, a_isRA_22, a_isRA_24, a_isRA_32, a_isA_20, ok_4, ok_5, ok_6, ok_7, ok_9, ok_20, ok_21, ok_30, ok_50, ok_180, ok_192, ok_200, ha, a0, cf]
      try simp only [true_and, and_true, true_implies, false_implies, implies_true, not_true_eq_false, not_false_eq_true]
      first
        | exact hpl
        | grind
    · rw [if_neg cf] at hV
      have hn := ih (Int32.lt_of_lt_of_le w h6.2) J2 s2 s3 hJ2 hV
      clear ih hG hN hexit hc hcJ ap apJ al am
      simp only [q124_43, q124_60, q124_63, as_nil, as_i, as_r, Nat.reduceAdd, Nat.reduceLeDiff, z_eq0, z_eq1, z_or, z_em, Classical.not_not, not_false_eq_true, not_true_eq_false, true_and, and_true, false_and, and_false, and_self, true_implies, false_implies, implies_true, Option.toList_some, Option.toList_none, List.cons_append, List.nil_append, Nat.add_eq_zero_iff, a_nl_i, a_nl_r, a_nl_n, true_or, or_true, eq_self, a_isRA_22, a_isRA_24, a_isRA_32, a_isA_20, ok_4, ok_5, ok_6, ok_7, ok_9, ok_20, ok_21, ok_30, ok_50, ok_180, ok_192, ok_200, ha, a0, cf]
      try simp only [true_and, and_true, true_implies, false_implies, implies_true, not_true_eq_false, not_false_eq_true]
      first
        | exact hn
        | grind
  clear ih hV hG hN hc hcJ ap apJ al am
  rw [q124_19]
  repeat' first
    | with_reducible apply And.intro
    | with_reducible assumption
    | with_reducible intro _
    | refine hexit ?_
    | refine hcall ?_
    | simp only [q124_21, q124_22, q124_25, q124_28, q124_31, q124_32, q124_35, q124_36, q124_38, q124_40, k_22 hS, z_22, r_22_0 hS, k_14 hS, z_14, as_nil, as_i, as_r, Nat.reduceAdd, Nat.reduceLeDiff, z_eq0, z_eq1, z_or, z_em, Classical.not_not, not_false_eq_true, not_true_eq_false, true_and, and_true, false_and, and_false, and_self, true_implies, false_implies, implies_true, Option.toList_some, Option.toList_none, List.cons_append, List.nil_append, Nat.add_eq_zero_iff, a_nl_i, a_nl_r, a_nl_n, true_or, or_true, eq_self, a_isRA_22, a_isRA_24, a_isRA_32, a_isA_20, ok_4, ok_5, ok_6, ok_7, ok_9, ok_20, ok_21, ok_30, ok_50, ok_180, ok_192, ok_200, ha, a0, e5]
  all_goals ((try clear hexit); (try clear hcall); (try clear hT); (try clear hS); (try clear hT0); grind [ui_ap])
theorem le_placeFirst_3 (hT0 : cT C K L I R) (hc : cpP C K L I R Y) (hse : seP C R Y) {a : Nat} {i : Int32} (ap : aaP C K I Y i a) (haa : (R (C + 15) i.toNatClampNeg) = a) (un : ¬ 0 ≤ Y 20 i.toNatClampNeg) {f e : Int32} (he9 : e ≤ 199) {V : Int32 × Int32} (hP1 : 0 ≤ V.2 → ∀ J, dL C K L R I J → aZ K a I J → cpP C K L J R (puY Y i V.2 V.1) → P (some (.int 1)) (n, t, K, L, J, R)) (hP0 : ¬ 0 ≤ V.2 → ∀ J, dC C K L R I J → P (some (.int 0)) (n, t, K, L, J, R)) : ∀ s : Int32, s ≤ 203 → ∀ J b (k : Nat), 0 ≤ s → (203 : Int32).toNatClampNeg < s.toNatClampNeg + k → dC C K L R I J → gfS Y i e k s = V → a_at (d + 6) (a_xm a_m124) 3 [some (a_rf (C + 22)), some (a_rf a), some (.int f), some (.int e), some (.int s), b] [] (n, t, K, L, J, R) P := by
  have hy := hc.2.2.2.2
  have h6 := hy.2.2.2.2.2.1
  have hl4 := (hy.2.1 i.toNatClampNeg).2
  refine up_ind 203 (fun s s203 ih => ?_)
  intro J b k h0 hk hJ hV
  have hT := hJ.1
  have hS := hT.s
  have apJ := aaP_C hT0 ap hJ
  obtain ⟨ai, ⟨ha, an0, a4n⟩, am, al⟩ := id apJ
  have a0 : (a = 0) = False := eq_false an0
  have e2 : J a 2 = Y 10 i.toNatClampNeg := al.1.2.2.1
  have hl := hy.2.2.1 i ai.1 ai.2
  have c203 : s.toNatClampNeg ≤ (203 : Int32).toNatClampNeg := cl_le0 h0 s203
  obtain ⟨k, rfl⟩ : ∃ q, k = q + 1 := ⟨k - 1, by omega⟩
  unfold gfS at hV
  have hexit : e < s + Y 10 i.toNatClampNeg - 1 → P (some (.int 0)) (n, t, K, L, J, R) := fun c => hP0 (fun q => by
    rw [if_pos c] at hV
    rw [← hV] at q
    exact absurd (show (0 : Int32) ≤ -1 from q) (by decide)) J hJ
  have hin : ¬ e < s + Y 10 i.toNatClampNeg - 1 → a_at (d + 6) (a_xm a_m124) 19 [some (a_rf (C + 22)), some (a_rf a), some (.int f), some (.int e), some (.int s), some (.int 0)] [] (n, t, K, L, J, R) P := fun c => by
    rw [if_neg c] at hV
    have s199 : 0 ≤ s ∧ s ≤ 199 := ⟨h0, (gs_nx ⟨hl, hl4⟩ he9 ⟨h0, Int32.le_trans s203 (by decide)⟩ c).2⟩
    have hs1 : s < 203 := Int32.lt_of_le_of_lt s199.2 (by decide)
    obtain ⟨-, t2, -, t4⟩ := lp_st h0 hs1
    refine le_placeFirst_19 (d := d) hT0 hc hse ap haa un s199 (V := gfB Y i s (Y 0 6).toNatClampNeg 0) (fun q2 J2 d2 z2 c2 => ?_) (fun q J2 u2 c2 => ?_) 0 (by decide) J (by decide) h6.1 hJ (by rw [lp_0])
    · rw [if_pos q2] at hV
      refine hP1 (by rw [← hV]; exact q2) J2 d2 z2 ?_
      rw [← hV]
      exact c2
    · rw [if_neg q] at hV
      have hn := ih hs1 J2 u2 k t2 (by omega) c2 hV
      have hS2 := c2.1.s
      clear ih hexit hP1 hP0 hc ap apJ al am
      simp only [q124_66, q124_69, as_nil, as_i, as_r, Nat.reduceAdd, Nat.reduceLeDiff, z_eq0, z_eq1, z_or, z_em, Classical.not_not, not_false_eq_true, not_true_eq_false, true_and, and_true, false_and, and_false, and_self, true_implies, false_implies, implies_true, Option.toList_some, Option.toList_none, List.cons_append, List.nil_append, Nat.add_eq_zero_iff, a_nl_i, a_nl_r, a_nl_n, true_or, or_true, eq_self, a_isRA_22, a_isRA_24, a_isRA_32, a_isA_20, ok_4, ok_5, ok_6, ok_7, ok_9, ok_20, ok_21, ok_30, ok_50, ok_180, ok_192, ok_200]
      first
        | exact hn
        | grind
  clear ih hV hP1 hP0 hc ap apJ al am
  rw [q124_3]
  repeat' first
    | with_reducible apply And.intro
    | with_reducible assumption
    | with_reducible intro _
    | refine hexit ?_
    | refine hin ?_
    | simp only [q124_5, q124_6, q124_9, q124_10, q124_11, q124_12, q124_13, q124_16, q124_17, q124_72, q124_73, k_22 hS, z_22, as_nil, as_i, as_r, Nat.reduceAdd, Nat.reduceLeDiff, z_eq0, z_eq1, z_or, z_em, Classical.not_not, not_false_eq_true, not_true_eq_false, true_and, and_true, false_and, and_false, and_self, true_implies, false_implies, implies_true, Option.toList_some, Option.toList_none, List.cons_append, List.nil_append, Nat.add_eq_zero_iff, a_nl_i, a_nl_r, a_nl_n, true_or, or_true, eq_self, a_isRA_22, a_isRA_24, a_isRA_32, a_isA_20, ok_4, ok_5, ok_6, ok_7, ok_9, ok_20, ok_21, ok_30, ok_50, ok_180, ok_192, ok_200, ha, a0, e2]
  all_goals ((try clear hexit); (try clear hin); (try clear hT); (try clear hS); (try clear hT0); grind [ui_ap])
theorem ce_placeFirst (hT : cT C K L I R) (hc : cpP C K L I R Y) (hse : seP C R Y) {a : Nat} {i : Int32} (ap : aaP C K I Y i a) (haa : (R (C + 15) i.toNatClampNeg) = a) (un : ¬ 0 ≤ Y 20 i.toNatClampNeg) {f e : Int32} (hf : 0 ≤ f ∧ f ≤ 202) (he9 : e ≤ 199) (hP1 : 0 ≤ (gnY Y i f e).2 → ∀ J, dL C K L R I J → aZ K a I J → cpP C K L J R (puY Y i (gnY Y i f e).2 (gnY Y i f e).1) → P (some (.int 1)) (n, t, K, L, J, R)) (hP0 : ¬ 0 ≤ (gnY Y i f e).2 → ∀ J, dC C K L R I J → P (some (.int 0)) (n, t, K, L, J, R)) : a_does (d + 7) 124 [a_rf (C + 22), a_rf a, .int f, .int e] (n, t, K, L, I, R) P := by
  have hS := hT.s
  have c203 : (203 : Int32).toNatClampNeg = 203 := rfl
  have hl := le_placeFirst_3 (d := d) (n := n) (t := t) (P := P) (f := f) hT hc hse ap haa un he9 hP1 hP0 f (Int32.le_trans hf.2 (by decide)) I none 240 hf.1 (by rw [c203]; omega) (dC_refl hT) rfl
  clear hP1 hP0 hc hse ap
  rw [a_enter1 (M := a_m124) rfl (a_cat_rf (a_cat_rf (a_cat_int (a_cat_int a_cat_nil)))) (show 4 ≤ 6 by decide)]
  show a_at _ (a_xm a_m124) 0 [some (a_rf (C + 22)), some (a_rf a), some (.int f), some (.int e), none, none] [] _ _
  simp only [q124_0, q124_1, as_nil, as_i, as_r, Nat.reduceAdd, Nat.reduceLeDiff, z_eq0, z_eq1, z_or, z_em, Classical.not_not, not_false_eq_true, not_true_eq_false, true_and, and_true, false_and, and_false, and_self, true_implies, false_implies, implies_true, Option.toList_some, Option.toList_none, List.cons_append, List.nil_append, Nat.add_eq_zero_iff, a_nl_i, a_nl_r, a_nl_n, true_or, or_true, eq_self, a_isRA_22, a_isRA_24, a_isRA_32, a_isA_20, ok_4, ok_5, ok_6, ok_7, ok_9, ok_20, ok_21, ok_30, ok_50, ok_180, ok_192, ok_200]
  exact hl
end YG0
end
section
/-! the class: PLAN -/
section YH0
variable {d n t C : Nat} {K L : Nat → Nat} {I I0 J J0 J1 J2 : Nat → Nat → Int32} {R : Nat → Nat → Nat} {P : Option Value → AH → Prop}
variable {Y Z W : Nat → Nat → Int32} {R' R1 : Nat → Nat → Nat} {Q : Nat → Prop}
/-- an entry put into the row keeps the row without doubles -/
theorem inS_inj {a : Int32} {m : Nat} : ∀ (p : Nat) (o : Nat → Int32), p ≤ m → (∀ j, j ≤ m → ¬ j = p → ¬ o j = a) → (∀ i j, i ≤ m → j ≤ m → ¬ i = p → ¬ j = p → o i = o j → i = j) → ∀ i j, i ≤ m → j ≤ m → inS Y a p o i = inS Y a p o j → i = j := by
  have key : ∀ (p : Nat) (o : Nat → Int32), (∀ j, j ≤ m → ¬ j = p → ¬ o j = a) → (∀ i j, i ≤ m → j ≤ m → ¬ i = p → ¬ j = p → o i = o j → i = j) → ∀ i j, i ≤ m → j ≤ m → up1 o p a i = up1 o p a j → i = j := by
    intro p o h1 h2 i j hi hj e
    unfold up1 at e
    by_cases c1 : i = p
    · by_cases c2 : j = p
      · omega
      · rw [if_pos c1, if_neg c2] at e
        exact absurd e.symm (h1 j hj c2)
    · by_cases c2 : j = p
      · rw [if_neg c1, if_pos c2] at e
        exact absurd e (h1 i hi c1)
      · rw [if_neg c1, if_neg c2] at e
        exact h2 i j hi hj c1 c2 e
  intro p
  induction p with
  | zero =>
    intro o _ h1 h2 i j hi hj e
    exact key 0 o h1 h2 i j hi hj e
  | succ p ih =>
    intro o hp h1 h2 i j hi hj e
    unfold inS at e
    by_cases c : ahB Y a (o p) = true
    · rw [if_pos c] at e
      refine ih _ (by omega) (fun x hx hn => ?_) (fun x y hx hy nx ny e2 => ?_) i j hi hj e
      · unfold up1
        by_cases q : x = p + 1
        · rw [if_pos q]
          exact h1 p (by omega) (by omega)
        · rw [if_neg q]
          exact h1 x hx q
      · unfold up1 at e2
        by_cases q1 : x = p + 1
        · by_cases q2 : y = p + 1
          · omega
          · rw [if_pos q1, if_neg q2] at e2
            have := h2 p y (by omega) hy (by omega) q2 e2
            omega
        · by_cases q2 : y = p + 1
          · rw [if_neg q1, if_pos q2] at e2
            have := h2 x p hx (by omega) q1 (by omega) e2
            omega
          · rw [if_neg q1, if_neg q2] at e2
            exact h2 x y hx hy q1 q2 e2
    · rw [if_neg c] at e
      exact key (p + 1) o h1 h2 i j hi hj e
/-- a row: marked ASKS below a number, none twice -/
def rwP (q : Int32 → Bool) (z : Int32) (p : (Nat → Int32) × Nat) : Prop := (∀ j, j < p.2 → (0 ≤ p.1 j ∧ p.1 j < z) ∧ q (p.1 j) = true) ∧ ∀ i j, i < p.2 → j < p.2 → p.1 i = p.1 j → i = j
theorem rw_in {q : Int32 → Bool} {a z : Int32} {o : Nat → Int32} {m : Nat} (h0 : 0 ≤ a) (w : a < z) (hq : q a = true) (h : rwP q a (o, m)) : rwP q (a + 1) (inS Y a m o, m + 1) := by
  have lt1 : a < a + 1 := (lp_st h0 w).2.2.2 |> fun e => cl_lt2 h0 (lp_st h0 w).2.1 (by omega)
  refine ⟨fun j hj => ?_, fun i j hi hj e => ?_⟩
  · have := inS_all (Y := Y) (Q := fun v => (0 ≤ v ∧ v < a + 1) ∧ q v = true) (a := a) ⟨⟨h0, lt1⟩, hq⟩ m o (Nat.le_refl _) (fun i hi hn => by
      obtain ⟨⟨u1, u2⟩, u3⟩ := h.1 i (by show i < m; omega)
      exact ⟨⟨u1, Int32.lt_trans u2 lt1⟩, u3⟩) j (by have : j < m + 1 := hj; omega)
    exact this
  · refine inS_inj (Y := Y) (a := a) (m := m) m o (Nat.le_refl _) (fun x hx hn e2 => ?_) (fun x y hx hy nx ny e2 => h.2 x y (by show x < m; omega) (by show y < m; omega) e2) i j (by have : i < m + 1 := hi; omega) (by have : j < m + 1 := hj; omega) e
    have this : o x < a := (h.1 x (by show x < m; omega)).1.2
    have e3 : o x = a := e2
    rw [e3] at this
    exact absurd this Int32.lt_irrefl
theorem rw_or {q : Int32 → Bool} {n : Int32} : ∀ (k : Nat) (a : Int32) (p : (Nat → Int32) × Nat), 0 ≤ a → a ≤ n → n.toNatClampNeg = a.toNatClampNeg + k → rwP q a p → rwP q n (orF Y q k a p) := by
  intro k
  induction k with
  | zero =>
    intro a p h0 h1 h2 h
    have e : a = n := cl_inj h0 (Int32.le_trans h0 h1) (by omega)
    rw [← e]
    exact h
  | succ k ih =>
    intro a p h0 h1 h2 h
    have w9 : a < n := cl_lt2 h0 (Int32.le_trans h0 h1) (by omega)
    obtain ⟨s1, s2, s3, s4⟩ := lp_st h0 w9
    have lt1 : a < a + 1 := cl_lt2 h0 s2 (by omega)
    unfold orF
    refine ih (a + 1) _ s2 s3 (by omega) ?_
    by_cases c : q a = true
    · rw [if_pos c]
      exact rw_in h0 w9 c h
    · rw [if_neg c]
      exact ⟨fun j hj => ⟨⟨(h.1 j hj).1.1, Int32.lt_trans (h.1 j hj).1.2 lt1⟩, (h.1 j hj).2⟩, h.2⟩
theorem rw_0 {q : Int32 → Bool} {f : Nat → Int32} : rwP q 0 (f, 0) := ⟨fun j hj => absurd hj (Nat.not_lt_zero j), fun i j hi _ _ => absurd hi (Nat.not_lt_zero i)⟩
theorem rw_orP (h17 : 0 ≤ Y 0 17) : rwP (seB Y) (Y 0 17) (orP Y) := rw_or _ 0 _ (by decide) h17 (by rw [show (0 : Int32).toNatClampNeg = 0 from rfl, Nat.zero_add]) rw_0
theorem or_le {q : Int32 → Bool} {z : Nat} : ∀ (k : Nat) (a : Int32) (p : (Nat → Int32) × Nat), p.2 + k ≤ z → (orF Y q k a p).2 ≤ z := by
  intro k
  induction k with
  | zero => intro a p h; exact h
  | succ k ih =>
    intro a p h
    unfold orF
    refine ih _ _ ?_
    by_cases c : q a = true
    · rw [if_pos c]
      show p.2 + 1 + k ≤ z
      omega
    · rw [if_neg c]
      omega
theorem on_sb {m p : Nat} (h : p ≤ m) : Int32.ofNat m - Int32.ofNat p = Int32.ofNat (m - p) := by
  have e : Int32.ofNat m = Int32.ofNat (m - p) + Int32.ofNat p := by rw [← Int32.ofNat_add]; congr 1; omega
  rw [e, Int32.add_sub_cancel]
theorem on_ok {p : Nat} (h : p < 30) : 0 ≤ Int32.ofNat p ∧ Int32.ofNat p < 30 := ⟨Int32.not_lt.mp (fun q => by rw [show (0 : Int32) = Int32.ofNat 0 from rfl, on_lt (by omega) (by omega)] at q; omega), by rw [show (30 : Int32) = Int32.ofNat 30 from rfl, on_lt (by omega) (by omega)]; omega⟩
theorem on_ok2 {p : Nat} (h : p ≤ 30) : 0 ≤ Int32.ofNat p ∧ Int32.ofNat p ≤ 30 := ⟨Int32.not_lt.mp (fun q => by rw [show (0 : Int32) = Int32.ofNat 0 from rfl, on_lt (by omega) (by omega)] at q; omega), Int32.not_lt.mp (fun q => by rw [show (30 : Int32) = Int32.ofNat 30 from rfl, on_lt (by omega) (by omega)] at q; omega)⟩
/-- the planner's own cells -/
def pnP (C : Nat) (m pc : Nat) (ps : Nat → Int32) (z : Int32) (J : Nat → Nat → Int32) : Prop := J (C + 22) 6 = Int32.ofNat m ∧ J (C + 22) 7 = Int32.ofNat pc ∧ J (C + 22) 8 = z ∧ ∀ j, j < pc → J (C + 24) j = ps j
theorem pn_L {m pc : Nat} {ps : Nat → Int32} {z : Int32} (h : pnP C m pc ps z J) (h2 : dL C K L R J J2) : pnP C m pc ps z J2 := by
  have e : ∀ k j, k = 22 ∨ k = 24 → J2 (C + k) j = J (C + k) j := fun k j hk => h2.2 _ _ (by omega) (by omega) (by omega)
  exact ⟨by rw [e _ _ (Or.inl rfl)]; exact h.1, by rw [e _ _ (Or.inl rfl)]; exact h.2.1, by rw [e _ _ (Or.inl rfl)]; exact h.2.2.1, fun j hj => by rw [e _ _ (Or.inr rfl)]; exact h.2.2.2 j hj⟩
/-- cells that no place hangs in -/
def siX (C : Nat) (K : Nat → Nat) (Q : Nat → Prop) (x j : Nat) : Prop := (x ≤ C + 43 ∧ ¬ x = C + 9 ∧ ¬ x = C + 10 ∧ ¬ x = C + 42 ∧ ¬ (x = C + 22 ∧ ¬ j = 8) ∧ ¬ (C + 23 ≤ x ∧ x ≤ C + 35) ∧ ¬ (C + 37 ≤ x ∧ x ≤ C + 41)) ∨ (C + 44 ≤ x ∧ x ≤ C + 96) ∨ K x = 11 ∨ (K x = 1 ∧ ((¬ j = 13 ∧ ¬ j = 14) ∨ Q x))
def sZ (C : Nat) (K : Nat → Nat) (Q : Nat → Prop) (I J : Nat → Nat → Int32) : Prop := ∀ x j, siX C K Q x j → J x j = I x j
theorem sz_refl : sZ C K Q I I := fun _ _ _ => rfl
theorem sz_K (hT : cT C K L I R) {x : Nat} (h : K x = 1 ∨ K x = 11) : C + 96 < x := by
  rcases h with h | h
  · exact (hT.g_ask x h).1
  · exact (hT.g_txt x h).1
theorem sz_C (h : sZ C K Q I0 J) (hT : cT C K L J R) (h2 : dC C K L R J J2) : sZ C K Q I0 J2 := fun x j p => by
  have q : (K x = 1 ∨ K x = 11) → C + 96 < x := sz_K hT
  rw [h2.2 x j (by unfold siX at p; omega) (by unfold siX at p; omega)]
  exact h x j p
theorem sz_L (h : sZ C K Q I0 J) (hT : cT C K L J R) (h2 : dL C K L R J J2) {a : Nat} (ha : ¬ Q a) (hz : aZ K a J J2) : sZ C K Q I0 J2 := fun x j p => by
  have q : (K x = 1 ∨ K x = 11) → C + 96 < x := sz_K hT
  by_cases c : K x = 1 ∧ Q x
  · rw [hz x j c.1 (fun e => ha (by rw [← e]; exact c.2))]
    exact h x j p
  · rw [h2.2 x j (by unfold siX at p; omega) (by unfold siX at p; omega) (by
      have c2 : K x = 1 → ¬ Q x := fun e q => c ⟨e, q⟩
      unfold siX at p
      rcases p with p | p | p | p
      · omega
      · omega
      · omega
      · have := c2 p.1
        rcases p.2 with p2 | p2
        · omega
        · exact absurd p2 this)]
    exact h x j p
theorem sz_ui (h : sZ C K Q I0 J) (hT : cT C K L J R) {k j : Nat} {v : Int32} (hk : (k = 22 ∧ ¬ j = 8) ∨ (23 ≤ k ∧ k ≤ 35) ∨ (37 ≤ k ∧ k ≤ 42) ∨ k = 9 ∨ k = 10) : sZ C K Q I0 (a_ui J (C + k) j v) := fun x i p => by
  have q : (K x = 1 ∨ K x = 11) → C + 96 < x := sz_K hT
  rw [ui_ap, if_neg (by unfold siX at p; omega)]
  exact h x i p
theorem le_planAll_68 (hse : seP C R Y) (hQ : ∀ i : Int32, 0 ≤ i → i < Y 0 17 → ¬ Q (R (C + 15) i.toNatClampNeg)) {f e : Int32} (hf : 0 ≤ f ∧ f ≤ 202) (he9 : e ≤ 199) {o : Nat → Int32} {m : Nat} (hm30 : m ≤ 30) (ho : ∀ j, j < m → odP C R Y o j) (hoi : ∀ i j, i < m → j < m → o i = o j → i = j) {V : (Nat → Nat → Int32) × Nat × (Nat → Int32)} (hP : ∀ J, cT C K L J R → cpP C K L J R V.1 → sbE Y V.1 → V.2.1 ≤ m → pnP C m V.2.1 V.2.2 (Y 0 10) J → sZ C K Q I0 J → P (some (.int (Int32.ofNat (m - V.2.1)))) (n, t, K, L, J, R)) : ∀ (k i : Nat) (J W : Nat → Nat → Int32) (pc : Nat) (ps : Nat → Int32) (u : Option Value), i + k = m → cT C K L J R → cpP C K L J R W → sbE Y W → W 0 10 = Y 0 10 → pc ≤ i → pnP C m pc ps (Y 0 10) J → sZ C K Q I0 J → (∀ j, i ≤ j → j < m → ¬ 0 ≤ W 20 (o j).toNatClampNeg) → plS o f e k i (W, pc, ps) = V → a_at (d + 7) (a_xm a_m119) 68 [some (a_rf (C + 22)), some (.int f), some (.int e), some (.int (Int32.ofNat i)), u] [] (n, t, K, L, J, R) P := by
  intro k
  induction k with
  | zero =>
    intro i J W pc ps u hk hT hc hb w10 hpc hpn hz hun hV
    have e : (W, pc, ps) = V := hV
    subst e
    have ei : i = m := by omega
    have hp := hP J hT hc hb (by show pc ≤ m; omega) hpn hz
    have h6 := hpn.1
    have h7 := hpn.2.1
    have hS := hT.s
    have es : Int32.ofNat m - Int32.ofNat pc = Int32.ofNat (m - pc) := on_sb (by omega)
    rw [ei]
    clear hP hc hb hun hpn ho hse
    rw [q119_68]
    simp only [q119_69, q119_70, q119_73, q119_140, q119_141, q119_144, q119_145, q119_148, q119_149, k_22 hS, z_22, as_nil, as_i, as_r, Nat.reduceAdd, Nat.reduceLeDiff, z_eq0, z_eq1, z_or, z_em, Classical.not_not, not_false_eq_true, not_true_eq_false, true_and, and_true, false_and, and_false, and_self, true_implies, false_implies, implies_true, Option.toList_some, Option.toList_none, List.cons_append, List.nil_append, Nat.add_eq_zero_iff, a_nl_i, a_nl_r, a_nl_n, true_or, or_true, eq_self, a_isRA_22, a_isRA_24, a_isRA_32, a_isA_20, ok_4, ok_5, ok_6, ok_7, ok_9, ok_20, ok_21, ok_30, ok_50, ok_180, ok_192, ok_200, h6, h7, es]
    first
      | exact hp
      | exact ⟨fun _ => hp, fun q => absurd (Int32.le_refl _) q⟩
      | grind
  | succ k ih =>
    intro i J W pc ps u hk hT hc hb w10 hpc hpn hz hun hV
    have hS := hT.s
    have w17 : W 0 17 = Y 0 17 := hb 0 17 (by unfold sb; omega)
    have hse2 := se_b hse hb
    have him : i < m := by omega
    obtain ⟨q0, q1, q2⟩ := ho i him
    rw [← w17] at q2
    have ap := aa_of hc q1 q2
    have hsh : J (C + 22) 8 = W 0 10 := by rw [w10]; exact hpn.2.2.1
    have un : ¬ 0 ≤ W 20 (o i).toNatClampNeg := hun i (Nat.le_refl _) him
    have hok := on_ok (p := i) (by omega)
    have hokp := on_ok (p := pc) (by omega)
    have ei := (on_p (p := i) (by omega)).2.2.1
    have ei1 := (on_p (p := i) (by omega)).2.2.2.2.1
    have epc := (on_p (p := pc) (by omega)).2.2.1
    have epc1 := (on_p (p := pc) (by omega)).2.2.2.2.1
    have nle : ¬ Int32.ofNat m ≤ Int32.ofNat i := Int32.not_le.mpr (by rw [on_lt (by omega) (by omega)]; omega)
    have ka := ap.2.1.1
    have kn := ap.2.1.2.1
    have k0 : (R (C + 15) (o i).toNatClampNeg = 0) = False := eq_false kn
    have h6 := hpn.1
    have hfail : ¬ (shB W (o i) f e = true ∧ 0 ≤ (gnY W (o i) f e).2) → ∀ J2, dC C K L R J J2 → a_at (d + 7) (a_xm a_m119) 106 [some (a_rf (C + 22)), some (.int f), some (.int e), some (.int (Int32.ofNat i)), u] [] (n, t, K, L, J2, R) P := fun c J2 d2 => by
      have hT2 := d2.1
      have hS2 := hT2.s
      have hc2 := cpP_C hT hc d2
      have n2 := pn_L hpn (dL_C (dL_refl hT) d2)
      have ap2 := aaP_C hT ap d2
      have e4 : J2 (R (C + 15) (o i).toNatClampNeg) 4 = o i := ap2.2.1.2.2
      have e7 := n2.2.1
      have hT3 := sT_Planner_passed hT2 (k := pc) (v := o i)
      have hc3 := cp_sc hT2 hc2 (k := 24) (j := pc) (v := o i) (by omega) (by omega)
      have hT4 := sT_Planner_passedCount hT3 (v := Int32.ofNat (pc + 1)) (on_ok2 (by omega))
      have hc4 := cp_sc hT3 hc3 (k := 22) (j := 7) (v := Int32.ofNat (pc + 1)) (by omega) (by omega)
      unfold plS at hV
      rw [if_neg c] at hV
      have hn := ih (i + 1) (a_ui (a_ui J2 (C + 24) pc (o i)) (C + 22) 7 (Int32.ofNat (pc + 1))) W (pc + 1) (up1 ps pc (o i)) u (by omega) hT4 hc4 hb w10 (by omega) ⟨by rw [ui_ap, if_neg (by omega), ui_ap, if_neg (by omega)]; exact n2.1, by rw [ui_ap, if_pos ⟨rfl, rfl⟩], by rw [ui_ap, if_neg (by omega), ui_ap, if_neg (by omega)]; exact n2.2.2.1, fun j hj => by
        rw [ui_ap, if_neg (by omega), ui_ap]
        unfold up1
        by_cases q : j = pc
        · rw [if_pos ⟨rfl, q⟩, if_pos q]
        · rw [if_neg (fun z => q z.2), if_neg q]
          exact n2.2.2.2 j (by omega)⟩ (sz_ui (sz_ui (sz_C hz hT d2) hT2 (by omega)) hT3 (by omega)) (fun j hj hj2 => hun j (by omega) hj2) hV
      clear ih hP hc hb hun hpn ho hse hse2 hc2 hc3 hc4 hT3 hT4 ap ap2 n2
      simp only [q119_106, q119_107, q119_110, q119_111, q119_114, q119_115, q119_118, q119_119, q119_120, q119_123, q119_124, q119_125, q119_126, q119_129, q119_130, q119_131, q119_134, q119_137, k_22 hS2, z_22, r_22_3 hS2, k_24 hS2, l_24 hS2, z_24, r_22_2 hS2, k_23 hS2, l_23 hS2, z_23, as_nil, as_i, as_r, Nat.reduceAdd, Nat.reduceLeDiff, z_eq0, z_eq1, z_or, z_em, Classical.not_not, not_false_eq_true, not_true_eq_false, true_and, and_true, false_and, and_false, and_self, true_implies, false_implies, implies_true, Option.toList_some, Option.toList_none, List.cons_append, List.nil_append, Nat.add_eq_zero_iff, a_nl_i, a_nl_r, a_nl_n, true_or, or_true, eq_self, a_isRA_22, a_isRA_24, a_isRA_32, a_isA_20, ok_4, ok_5, ok_6, ok_7, ok_9, ok_20, ok_21, ok_30, ok_50, ok_180, ok_192, ok_200, ui_ap, cc_ne, cc_n0, cc_0n, Nat.reduceEqDiff, reduceIte, if_true, if_false, q0, ei, ei1, epc, epc1, e7, e4, hok, hokp, ka, k0]
      try simp only [true_and, and_true, true_implies, false_implies, implies_true, not_true_eq_false, not_false_eq_true]
      first
        | exact hn
        | grind
    have hok2 : shB W (o i) f e = true → 0 ≤ (gnY W (o i) f e).2 → ∀ J2, dL C K L R J J2 → aZ K (R (C + 15) (o i).toNatClampNeg) J J2 → cpP C K L J2 R (puY W (o i) (gnY W (o i) f e).2 (gnY W (o i) f e).1) → a_at (d + 7) (a_xm a_m119) 134 [some (a_rf (C + 22)), some (.int f), some (.int e), some (.int (Int32.ofNat i)), u] [] (n, t, K, L, J2, R) P := fun c1 c2 J2 d2 z2 hc2 => by
      unfold plS at hV
      rw [if_pos ⟨c1, c2⟩] at hV
      have hn := ih (i + 1) J2 _ pc ps u (by omega) d2.1 hc2 (sb_tr hb puY_b) (by unfold puY; rw [if_neg (by omega), if_neg (by omega), if_neg (by omega)]; exact w10) (by omega) (pn_L hpn d2) (sz_L hz hT d2 (hQ _ q1 (by rw [← hb 0 17 (by unfold sb; omega)]; exact q2)) z2) (fun j hj hj2 => by
        have hne : ¬ (o j).toNatClampNeg = (o i).toNatClampNeg := fun q => by
          have := hoi j i hj2 him (cl_inj (ho j hj2).2.1 q1 q)
          omega
        unfold puY
        rw [if_neg (fun q => hne q.2), if_neg (by omega), if_neg (by omega)]
        exact hun j (by omega) hj2) hV
      clear ih hP hc hb hun hpn ho hse hse2 hc2 ap
      simp only [q119_134, q119_137, as_nil, as_i, as_r, Nat.reduceAdd, Nat.reduceLeDiff, z_eq0, z_eq1, z_or, z_em, Classical.not_not, not_false_eq_true, not_true_eq_false, true_and, and_true, false_and, and_false, and_self, true_implies, false_implies, implies_true, Option.toList_some, Option.toList_none, List.cons_append, List.nil_append, Nat.add_eq_zero_iff, a_nl_i, a_nl_r, a_nl_n, true_or, or_true, eq_self, a_isRA_22, a_isRA_24, a_isRA_32, a_isA_20, ok_4, ok_5, ok_6, ok_7, ok_9, ok_20, ok_21, ok_30, ok_50, ok_180, ok_192, ok_200, ei1]
      exact hn
    have hfirst : shB W (o i) f e = true → a_does (d + 7) 124 [a_rf (C + 22), a_rf (R (C + 15) (o i).toNatClampNeg), .int f, .int e] (n, t, K, L, J, R) (fun r h' => a_at (d + 7) (a_xm a_m119) 103 [some (a_rf (C + 22)), some (.int f), some (.int e), some (.int (Int32.ofNat i)), u] (r.toList ++ []) h' P) := fun c1 => by
      refine ce_placeFirst (d := d) hT hc hse2 ap rfl un hf he9 (fun c2 J2 d2 z2 hc2 => ?_) (fun c2 J2 d2 => ?_)
      · have hn := hok2 c1 c2 J2 d2 z2 hc2
        have n10 : ¬ (1 : Int32) = 0 := by decide
        clear ih hP hc hb hun hpn ho hse hse2 hc2 ap hok2 hfail
        simp only [q119_103, as_nil, as_i, as_r, Nat.reduceAdd, Nat.reduceLeDiff, z_eq0, z_eq1, z_or, z_em, Classical.not_not, not_false_eq_true, not_true_eq_false, true_and, and_true, false_and, and_false, and_self, true_implies, false_implies, implies_true, Option.toList_some, Option.toList_none, List.cons_append, List.nil_append, Nat.add_eq_zero_iff, a_nl_i, a_nl_r, a_nl_n, true_or, or_true, eq_self, a_isRA_22, a_isRA_24, a_isRA_32, a_isA_20, ok_4, ok_5, ok_6, ok_7, ok_9, ok_20, ok_21, ok_30, ok_50, ok_180, ok_192, ok_200, n10]
        try simp only [true_and, and_true, true_implies, false_implies, implies_true, not_true_eq_false, not_false_eq_true]
        first
          | exact hn
          | grind
      · have hn := hfail (fun q => c2 q.2) J2 d2
        clear ih hP hc hb hun hpn ho hse hse2 ap hok2 hfail
        simp only [q119_103, as_nil, as_i, as_r, Nat.reduceAdd, Nat.reduceLeDiff, z_eq0, z_eq1, z_or, z_em, Classical.not_not, not_false_eq_true, not_true_eq_false, true_and, and_true, false_and, and_false, and_self, true_implies, false_implies, implies_true, Option.toList_some, Option.toList_none, List.cons_append, List.nil_append, Nat.add_eq_zero_iff, a_nl_i, a_nl_r, a_nl_n, true_or, or_true, eq_self, a_isRA_22, a_isRA_24, a_isRA_32, a_isA_20, ok_4, ok_5, ok_6, ok_7, ok_9, ok_20, ok_21, ok_30, ok_50, ok_180, ok_192, ok_200]
        try simp only [true_and, and_true, true_implies, false_implies, implies_true, not_true_eq_false, not_false_eq_true]
        first
          | exact hn
          | grind
    have hcall : a_does (d + 7) 123 [a_rf (C + 22), a_rf (R (C + 15) (o i).toNatClampNeg), .int f, .int e] (n, t, K, L, J, R) (fun r h' => a_at (d + 7) (a_xm a_m119) 88 [some (a_rf (C + 22)), some (.int f), some (.int e), some (.int (Int32.ofNat i)), u] (r.toList ++ []) h' P) := by
      refine ce_isInShare (d := d + 5) hT hc ap rfl hsh ?_
      by_cases c1 : shB W (o i) f e = true
      · rw [if_pos c1]
        have hn := hfirst c1
        have n10 : ¬ (1 : Int32) = 0 := by decide
        clear ih hP hc hb hun hpn ho hse hse2 ap hok2 hfail hfirst
        simp only [q119_88, q119_91, q119_92, q119_93, q119_96, q119_97, q119_98, q119_99, q119_100, k_22 hS, z_22, r_22_2 hS, k_23 hS, l_23 hS, z_23, as_nil, as_i, as_r, Nat.reduceAdd, Nat.reduceLeDiff, z_eq0, z_eq1, z_or, z_em, Classical.not_not, not_false_eq_true, not_true_eq_false, true_and, and_true, false_and, and_false, and_self, true_implies, false_implies, implies_true, Option.toList_some, Option.toList_none, List.cons_append, List.nil_append, Nat.add_eq_zero_iff, a_nl_i, a_nl_r, a_nl_n, true_or, or_true, eq_self, a_isRA_22, a_isRA_24, a_isRA_32, a_isA_20, ok_4, ok_5, ok_6, ok_7, ok_9, ok_20, ok_21, ok_30, ok_50, ok_180, ok_192, ok_200, n10, q0, ei, hok]
        try simp only [true_and, and_true, true_implies, false_implies, implies_true, not_true_eq_false, not_false_eq_true]
        first
          | exact hn
          | grind
      · rw [if_neg c1]
        have hn := hfail (fun q => c1 q.1) J (dC_refl hT)
        clear ih hP hc hb hun hpn ho hse hse2 ap hok2 hfail hfirst
        simp only [q119_88, q119_91, q119_92, q119_93, q119_96, q119_97, q119_98, q119_99, q119_100, k_22 hS, z_22, r_22_2 hS, k_23 hS, l_23 hS, z_23, as_nil, as_i, as_r, Nat.reduceAdd, Nat.reduceLeDiff, z_eq0, z_eq1, z_or, z_em, Classical.not_not, not_false_eq_true, not_true_eq_false, true_and, and_true, false_and, and_false, and_self, true_implies, false_implies, implies_true, Option.toList_some, Option.toList_none, List.cons_append, List.nil_append, Nat.add_eq_zero_iff, a_nl_i, a_nl_r, a_nl_n, true_or, or_true, eq_self, a_isRA_22, a_isRA_24, a_isRA_32, a_isA_20, ok_4, ok_5, ok_6, ok_7, ok_9, ok_20, ok_21, ok_30, ok_50, ok_180, ok_192, ok_200]
        try simp only [true_and, and_true, true_implies, false_implies, implies_true, not_true_eq_false, not_false_eq_true]
        first
          | exact hn
          | grind
    clear ih hP hc hb hun hpn ho hse hse2 ap hok2 hfail hfirst
    rw [q119_68]
    simp only [q119_69, q119_70, q119_73, q119_76, q119_77, q119_78, q119_81, q119_82, q119_83, q119_84, q119_85, k_22 hS, z_22, r_22_2 hS, k_23 hS, l_23 hS, z_23, as_nil, as_i, as_r, Nat.reduceAdd, Nat.reduceLeDiff, z_eq0, z_eq1, z_or, z_em, Classical.not_not, not_false_eq_true, not_true_eq_false, true_and, and_true, false_and, and_false, and_self, true_implies, false_implies, implies_true, Option.toList_some, Option.toList_none, List.cons_append, List.nil_append, Nat.add_eq_zero_iff, a_nl_i, a_nl_r, a_nl_n, true_or, or_true, eq_self, a_isRA_22, a_isRA_24, a_isRA_32, a_isA_20, ok_4, ok_5, ok_6, ok_7, ok_9, ok_20, ok_21, ok_30, ok_50, ok_180, ok_192, ok_200, h6, q0, ei, hok, nle]
    try simp only [true_and, and_true, true_implies, false_implies, implies_true, not_true_eq_false, not_false_eq_true]
    first
      | exact hcall
      | grind
theorem le_planAll_12 (hT0 : cT C K L I R) (hc : cpP C K L I R Y) (hse : seP C R Y) {f e : Int32} (hN : ∀ J R1 u, cT C K L J R1 → cpP C K L J R1 Y → rfP C R R1 → pnP C (orP Y).2 0 (fun _ => 0) (Y 0 10) J → (∀ j, j < (orP Y).2 → odP C R1 Y (orP Y).1 j) → sZ C K Q I0 J → a_at (d + 7) (a_xm a_m119) 68 [some (a_rf (C + 22)), some (.int f), some (.int e), some (.int 0), u] [] (n, t, K, L, J, R1) P) : ∀ i : Int32, i ≤ 30 → ∀ J R1 u m o, 0 ≤ i → i ≤ Y 0 17 → cT C K L J R1 → cpP C K L J R1 Y → rfP C R R1 → pnP C m 0 (fun _ => 0) (Y 0 10) J → m ≤ i.toNatClampNeg → (∀ j, j < m → odP C R1 Y o j) → sZ C K Q I0 J → orF Y (seB Y) ((Y 0 17).toNatClampNeg - i.toNatClampNeg) i (o, m) = orP Y → a_at (d + 7) (a_xm a_m119) 12 [some (a_rf (C + 22)), some (.int f), some (.int e), some (.int i), u] [] (n, t, K, L, J, R1) P := by
  have h17 := hc.2.2.2.2.2.2.2.2.1
  have l30 := cl_le0 h17.1 h17.2
  rw [show (30 : Int32).toNatClampNeg = 30 from rfl] at l30
  refine up_ind 30 (fun i i30 ih => ?_)
  intro J R1 u m o h0 h1 hT hc1 hr hpn hmi ho hz hV
  have hS := hT.s
  have gA := hT.g_asksR
  have gB := hT.g_benchesR
  have gX := hT.g_textsR
  have e4 : J (C + 14) 4 = Y 0 17 := hc1.2.2.1.1
  have hexit : ¬ i < Y 0 17 → a_at (d + 7) (a_xm a_m119) 66 [some (a_rf (C + 22)), some (.int f), some (.int e), some (.int i), u] [] (n, t, K, L, J, R1) P := fun w => by
    rw [(lp_end h1 w).1] at hV
    have e9 : (o, m) = orP Y := hV
    rw [← e9] at hN
    have hn := hN J R1 u hT hc1 hr hpn ho hz
    clear ih hN hV hc hc1 hr hse hpn ho
    simp only [q119_66, q119_67, as_nil, as_i, as_r, Nat.reduceAdd, Nat.reduceLeDiff, z_eq0, z_eq1, z_or, z_em, Classical.not_not, not_false_eq_true, not_true_eq_false, true_and, and_true, false_and, and_false, and_self, true_implies, false_implies, implies_true, Option.toList_some, Option.toList_none, List.cons_append, List.nil_append, Nat.add_eq_zero_iff, a_nl_i, a_nl_r, a_nl_n, true_or, or_true, eq_self, a_isRA_22, a_isRA_24, a_isRA_32, a_isA_20, ok_4, ok_5, ok_6, ok_7, ok_9, ok_20, ok_21, ok_30, ok_50, ok_180, ok_192, ok_200]
    exact hn
  have hV2 : i < Y 0 17 → orF Y (seB Y) ((Y 0 17).toNatClampNeg - (i + 1).toNatClampNeg) (i + 1) (if seB Y i = true then (inS Y i m o, m + 1) else (o, m)) = orP Y := fun w => by
    rw [(lp_st h0 w).1] at hV
    exact hV
  have hno : i < Y 0 17 → ¬ seB Y i = true → ∀ u, a_at (d + 7) (a_xm a_m119) 60 [some (a_rf (C + 22)), some (.int f), some (.int e), some (.int i), u] [] (n, t, K, L, J, R1) P := fun w c u => by
    obtain ⟨s1, s2, s3, s4⟩ := lp_st h0 w
    have hV := hV2 w
    rw [if_neg c] at hV
    have hn := ih (Int32.lt_of_lt_of_le w h17.2) J R1 u m o s2 s3 hT hc1 hr hpn (by omega) ho hz hV
    clear ih hN hV hV2 hc hc1 hr hse hpn ho
    simp only [q119_60, q119_63, as_nil, as_i, as_r, Nat.reduceAdd, Nat.reduceLeDiff, z_eq0, z_eq1, z_or, z_em, Classical.not_not, not_false_eq_true, not_true_eq_false, true_and, and_true, false_and, and_false, and_self, true_implies, false_implies, implies_true, Option.toList_some, Option.toList_none, List.cons_append, List.nil_append, Nat.add_eq_zero_iff, a_nl_i, a_nl_r, a_nl_n, true_or, or_true, eq_self, a_isRA_22, a_isRA_24, a_isRA_32, a_isA_20, ok_4, ok_5, ok_6, ok_7, ok_9, ok_20, ok_21, ok_30, ok_50, ok_180, ok_192, ok_200]
    exact hn
  have hyes : i < Y 0 17 → seB Y i = true → ∀ u, a_does (d + 7) 120 [a_rf (C + 22), a_rf (R1 (C + 15) i.toNatClampNeg)] (n, t, K, L, J, R1) (fun r h' => a_at (d + 7) (a_xm a_m119) 60 [some (a_rf (C + 22)), some (.int f), some (.int e), some (.int i), u] (r.toList ++ []) h' P) := fun w c u => by
    obtain ⟨s1, s2, s3, s4⟩ := lp_st h0 w
    have hV := hV2 w
    rw [if_pos c] at hV
    have iT := cl_lt h0 w
    refine ce_enter (d := d + 4) hT hc1 (se_rf hT0 hc hse hr) (aa_of hc1 h0 w) rfl (m := m) (by omega) hpn.1 ho (fun R2 hT2 hr2 ho2 => ?_)
    have hT1' := sT_Planner_orderSize hT (v := Int32.ofNat (m + 1)) (on_ok2 (by omega))
    have hc2 := cp_rf hT1' (cp_sc hT hc1 (k := 22) (j := 6) (v := Int32.ofNat (m + 1)) (by omega) (by omega)) hr2
    have hn := ih (Int32.lt_of_lt_of_le w h17.2) (a_ui J (C + 22) 6 (Int32.ofNat (m + 1))) R2 u (m + 1) (inS Y i m o) s2 s3 hT2 hc2 (fun x j a1 a2 a3 => (hr2 x j a1 a2 a3).trans (hr x j a1 a2 a3)) ⟨by rw [ui_ap, if_pos ⟨rfl, rfl⟩], by rw [ui_ap, if_neg (by omega)]; exact hpn.2.1, by rw [ui_ap, if_neg (by omega)]; exact hpn.2.2.1, fun j hj => absurd hj (Nat.not_lt_zero j)⟩ (by omega) (fun j hj => ho2 j (by omega)) (sz_ui hz hT (by omega)) hV
    clear ih hN hV hV2 hc hc1 hr hse hpn ho hc2 hr2 ho2 hno
    simp only [q119_60, q119_63, as_nil, as_i, as_r, Nat.reduceAdd, Nat.reduceLeDiff, z_eq0, z_eq1, z_or, z_em, Classical.not_not, not_false_eq_true, not_true_eq_false, true_and, and_true, false_and, and_false, and_self, true_implies, false_implies, implies_true, Option.toList_some, Option.toList_none, List.cons_append, List.nil_append, Nat.add_eq_zero_iff, a_nl_i, a_nl_r, a_nl_n, true_or, or_true, eq_self, a_isRA_22, a_isRA_24, a_isRA_32, a_isA_20, ok_4, ok_5, ok_6, ok_7, ok_9, ok_20, ok_21, ok_30, ok_50, ok_180, ok_192, ok_200]
    exact hn
  have hin : i < Y 0 17 → a_at (d + 7) (a_xm a_m119) 31 [some (a_rf (C + 22)), some (.int f), some (.int e), some (.int i), u] [a_rf (R1 (C + 15) i.toNatClampNeg)] (n, t, K, L, J, R1) P := fun w => by
    have hno := hno w
    have hyes := hyes w
    obtain ⟨-, ⟨kb, bn, b4⟩, bm, bl⟩ := aa_of hc1 h0 w
    have b0 : (R1 (C + 15) i.toNatClampNeg = 0) = False := eq_false bn
    have f13 : J (R1 (C + 15) i.toNatClampNeg) 13 = Y 20 i.toNatClampNeg := bl.2.2.2.1.1
    have f15 : (J (R1 (C + 15) i.toNatClampNeg) 15 = 0) = (Y 18 i.toNatClampNeg = 0) := propext bl.2.2.2.2.1
    have es : (seB Y i = true) = (¬ 0 ≤ Y 20 i.toNatClampNeg ∧ Y 18 i.toNatClampNeg = 0) := propext ⟨fun q => of_decide_eq_true q, fun q => decide_eq_true q⟩
    rw [es] at hno hyes
    clear ih hN hV hV2 hc hc1 hr hse hpn ho hexit bl bm
    by_cases c1 : 0 ≤ Y 20 i.toNatClampNeg
    · have hno := hno (fun q => q.1 c1)
      clear hyes
      simp only [q119_31, q119_33, q119_35, q119_38, q119_40, q119_43, q119_46, q119_48, q119_51, q119_54, q119_55, q119_57, k_22 hS, z_22, sp_isPlaced, as_nil, as_i, as_r, Nat.reduceAdd, Nat.reduceLeDiff, z_eq0, z_eq1, z_or, z_em, Classical.not_not, not_false_eq_true, not_true_eq_false, true_and, and_true, false_and, and_false, and_self, true_implies, false_implies, implies_true, Option.toList_some, Option.toList_none, List.cons_append, List.nil_append, Nat.add_eq_zero_iff, a_nl_i, a_nl_r, a_nl_n, true_or, or_true, eq_self, a_isRA_22, a_isRA_24, a_isRA_32, a_isA_20, ok_4, ok_5, ok_6, ok_7, ok_9, ok_20, ok_21, ok_30, ok_50, ok_180, ok_192, ok_200, kb, b0, f13, c1]
      try simp only [true_and, and_true, true_implies, false_implies, implies_true, not_true_eq_false, not_false_eq_true]
      first
        | exact hno _
        | grind
    · by_cases c2 : Y 18 i.toNatClampNeg = 0
      · have hyes := hyes ⟨c1, c2⟩
        clear hno
        simp only [q119_31, q119_33, q119_35, q119_38, q119_40, q119_43, q119_46, q119_48, q119_51, q119_54, q119_55, q119_57, k_22 hS, z_22, sp_isPlaced, as_nil, as_i, as_r, Nat.reduceAdd, Nat.reduceLeDiff, z_eq0, z_eq1, z_or, z_em, Classical.not_not, not_false_eq_true, not_true_eq_false, true_and, and_true, false_and, and_false, and_self, true_implies, false_implies, implies_true, Option.toList_some, Option.toList_none, List.cons_append, List.nil_append, Nat.add_eq_zero_iff, a_nl_i, a_nl_r, a_nl_n, true_or, or_true, eq_self, a_isRA_22, a_isRA_24, a_isRA_32, a_isA_20, ok_4, ok_5, ok_6, ok_7, ok_9, ok_20, ok_21, ok_30, ok_50, ok_180, ok_192, ok_200, kb, b0, f13, f15, c1, c2]
        try simp only [true_and, and_true, true_implies, false_implies, implies_true, not_true_eq_false, not_false_eq_true]
        first
          | exact hyes _
          | grind
      · have hno := hno (fun q => c2 q.2)
        clear hyes
        simp only [q119_31, q119_33, q119_35, q119_38, q119_40, q119_43, q119_46, q119_48, q119_51, q119_54, q119_55, q119_57, k_22 hS, z_22, sp_isPlaced, as_nil, as_i, as_r, Nat.reduceAdd, Nat.reduceLeDiff, z_eq0, z_eq1, z_or, z_em, Classical.not_not, not_false_eq_true, not_true_eq_false, true_and, and_true, false_and, and_false, and_self, true_implies, false_implies, implies_true, Option.toList_some, Option.toList_none, List.cons_append, List.nil_append, Nat.add_eq_zero_iff, a_nl_i, a_nl_r, a_nl_n, true_or, or_true, eq_self, a_isRA_22, a_isRA_24, a_isRA_32, a_isA_20, ok_4, ok_5, ok_6, ok_7, ok_9, ok_20, ok_21, ok_30, ok_50, ok_180, ok_192, ok_200, kb, b0, f13, f15, c1, c2]
        try simp only [true_and, and_true, true_implies, false_implies, implies_true, not_true_eq_false, not_false_eq_true]
        first
          | exact hno _
          | grind
  clear ih hN hV hV2 hc hc1 hr hse hpn ho hno hyes
  rw [q119_12]
  repeat' first
    | with_reducible apply And.intro
    | with_reducible assumption
    | with_reducible intro _
    | refine hexit ?_
    | refine hin ?_
    | simp only [q119_13, q119_14, q119_17, q119_20, q119_23, q119_24, q119_27, q119_28, k_22 hS, z_22, r_22_0 hS, k_14 hS, z_14, sp_askAt hS gA, as_nil, as_i, as_r, Nat.reduceAdd, Nat.reduceLeDiff, z_eq0, z_eq1, z_or, z_em, Classical.not_not, not_false_eq_true, not_true_eq_false, true_and, and_true, false_and, and_false, and_self, true_implies, false_implies, implies_true, Option.toList_some, Option.toList_none, List.cons_append, List.nil_append, Nat.add_eq_zero_iff, a_nl_i, a_nl_r, a_nl_n, true_or, or_true, eq_self, a_isRA_22, a_isRA_24, a_isRA_32, a_isA_20, ok_4, ok_5, ok_6, ok_7, ok_9, ok_20, ok_21, ok_30, ok_50, ok_180, ok_192, ok_200, e4]
  all_goals ((try clear hexit); (try clear hin); (try clear hT); (try clear hS); (try clear gA); (try clear gB); (try clear gX); grind [ui_ap])
/-- PLAN, whole -/
theorem ce_planAll (hT : cT C K L I R) (hc : cpP C K L I R Y) (hse : seP C R Y) (hsh : I (C + 22) 8 = Y 0 10) (hQ : ∀ i : Int32, 0 ≤ i → i < Y 0 17 → ¬ Q (R (C + 15) i.toNatClampNeg)) {f e : Int32} (hf : 0 ≤ f ∧ f ≤ 202) (he9 : e ≤ 199) (hP : ∀ J R2, cT C K L J R2 → cpP C K L J R2 (plY Y f e).1 → sbE Y (plY Y f e).1 → rfP C R R2 → (plY Y f e).2.1 ≤ (orP Y).2 → pnP C (orP Y).2 (plY Y f e).2.1 (plY Y f e).2.2 (Y 0 10) J → sZ C K Q I J → P (some (.int (Int32.ofNat ((orP Y).2 - (plY Y f e).2.1)))) (n, t, K, L, J, R2)) : a_does (d + 8) 119 [a_rf (C + 22), .int f, .int e] (n, t, K, L, I, R) P := by
  have hS := hT.s
  have h17 := hc.2.2.2.2.2.2.2.2.1
  have l30 := cl_le0 h17.1 h17.2
  rw [show (30 : Int32).toNatClampNeg = 30 from rfl] at l30
  have hrw := rw_orP (Y := Y) h17.1
  have hor : (orP Y).2 ≤ 30 := or_le (z := 30) _ _ _ (by show 0 + _ ≤ 30; omega)
  have hT1 := sT_Planner_orderSize hT (v := 0) (by decide)
  have hc1 := cp_sc hT hc (k := 22) (j := 6) (v := 0) (by omega) (by omega)
  have hT2 := sT_Planner_passedCount hT1 (v := 0) (by decide)
  have hc2 := cp_sc hT1 hc1 (k := 22) (j := 7) (v := 0) (by omega) (by omega)
  have hl := fun u => le_planAll_12 (d := d) (Q := Q) (n := n) (t := t) (P := P) (f := f) (e := e) (I0 := I) hT2 hc2 hse (fun J R1 u hT3 hc3 hr3 hpn3 ho3 hz3 => by
    have e0 : (0 : Int32) = Int32.ofNat 0 := rfl
    rw [e0]
    exact le_planAll_68 (d := d) (Q := Q) (se_rf hT2 hc2 hse hr3) (fun i i0 i1 => by rw [hr3 _ _ (by omega) (by omega) (by omega)]; exact hQ i i0 i1) hf he9 (o := (orP Y).1) hor ho3 hrw.2 (I0 := I) (fun J2 a1 a2 a3 a4 a5 a6 => hP J2 R1 a1 a2 a3 hr3 a4 a5 a6) (orP Y).2 0 J Y 0 (fun _ => 0) u (by omega) hT3 hc3 (fun _ _ _ => rfl) rfl (Nat.le_refl _) hpn3 hz3 (fun j _ hj => (of_decide_eq_true (hrw.1 j hj).2).1) rfl) 0 (by decide) _ R u 0 (fun _ => 0) (by decide) h17.1 hT2 hc2 (fun _ _ _ _ _ => rfl) ⟨by rw [ui_ap, if_neg (by omega), ui_ap, if_pos ⟨rfl, rfl⟩]; rfl, by rw [ui_ap, if_pos ⟨rfl, rfl⟩]; rfl, by rw [ui_ap, if_neg (by omega), ui_ap, if_neg (by omega)]; exact hsh, fun j hj => absurd hj (Nat.not_lt_zero j)⟩ (Nat.zero_le _) (fun j hj => absurd hj (Nat.not_lt_zero j)) (sz_ui (sz_ui sz_refl hT (by omega)) hT1 (by omega)) (by rw [lp_0]; rfl)
  clear hP hc hc1 hc2 hse hrw
  rw [a_enter1 (M := a_m119) rfl (a_cat_rf (a_cat_int (a_cat_int a_cat_nil))) (show 3 ≤ 5 by decide)]
  show a_at _ (a_xm a_m119) 0 [some (a_rf (C + 22)), some (.int f), some (.int e), none, none] [] _ _
  simp only [q119_0, q119_1, q119_2, q119_5, q119_6, q119_7, q119_10, q119_11, k_22 hS, z_22, as_nil, as_i, as_r, Nat.reduceAdd, Nat.reduceLeDiff, z_eq0, z_eq1, z_or, z_em, Classical.not_not, not_false_eq_true, not_true_eq_false, true_and, and_true, false_and, and_false, and_self, true_implies, false_implies, implies_true, Option.toList_some, Option.toList_none, List.cons_append, List.nil_append, Nat.add_eq_zero_iff, a_nl_i, a_nl_r, a_nl_n, true_or, or_true, eq_self, a_isRA_22, a_isRA_24, a_isRA_32, a_isA_20, ok_4, ok_5, ok_6, ok_7, ok_9, ok_20, ok_21, ok_30, ok_50, ok_180, ok_192, ok_200]
  exact hl _
end YH0
end
section
/-! AGAIN: the words, the class -/
section YI0
variable {d n t C c : Nat} {K L : Nat → Nat} {I I0 J J0 J1 J2 : Nat → Nat → Int32} {R : Nat → Nat → Nat} {P : Option Value → AH → Prop}
variable {Y Z W : Nat → Nat → Int32} {R' R1 : Nat → Nat → Nat} {Q : Nat → Prop}
/-- an ASK with a place not begun fits there no more -/
def agB (Y : Nat → Nat → Int32) (a : Int32) : Bool := decide ((0 ≤ Y 20 a.toNatClampNeg ∧ ¬ Y 21 a.toNatClampNeg * 8 < Y 0 0) ∧ ¬ ftY Y a (Y 20 a.toNatClampNeg) (Y 21 a.toNatClampNeg) = 0)
/-- those lose their places, and make up the row of ORDER -/
def agS : Nat → Int32 → (Nat → Nat → Int32) × (Nat → Int32) × Nat → (Nat → Nat → Int32) × (Nat → Int32) × Nat
  | 0, _, p => p
  | k + 1, a, p => agS k (a + 1) (if agB p.1 a = true then (unY p.1 a, inS p.1 a p.2.2 p.2.1, p.2.2 + 1) else p)
def agP (Y : Nat → Nat → Int32) : (Nat → Nat → Int32) × (Nat → Int32) × Nat := agS (Y 0 17).toNatClampNeg 0 (Y, fun _ => 0, 0)
/-- one by one places are given; how many moved -/
def agM (o : Nat → Int32) (f e : Int32) (Y : Nat → Nat → Int32) : Nat → Nat → (Nat → Nat → Int32) × Nat → (Nat → Nat → Int32) × Nat
  | 0, _, p => p
  | k + 1, i, p => agM o f e Y k (i + 1) (giY p.1 (o i) f e true, if giY p.1 (o i) f e true 20 (o i).toNatClampNeg = Y 20 (o i).toNatClampNeg ∧ giY p.1 (o i) f e true 21 (o i).toNatClampNeg = Y 21 (o i).toNatClampNeg then p.2 else p.2 + 1)
def agY (Y : Nat → Nat → Int32) : (Nat → Nat → Int32) × Nat := agM (agP Y).2.1 (Y 0 0 / 8 + 1) 199 Y (agP Y).2.2 0 ((agP Y).1, 0)
theorem rw_mono {q r : Int32 → Bool} {z : Int32} {p : (Nat → Int32) × Nat} (h : rwP q z p) (hq : ∀ x, 0 ≤ x → x < z → q x = true → r x = true) : rwP r z p := ⟨fun j hj => ⟨(h.1 j hj).1, hq _ (h.1 j hj).1.1 (h.1 j hj).1.2 (h.1 j hj).2⟩, h.2⟩
theorem rw_up {q : Int32 → Bool} {a z : Int32} {p : (Nat → Int32) × Nat} (h0 : 0 ≤ a) (w : a < z) (h : rwP q a p) : rwP q (a + 1) p := by
  have lt1 : a < a + 1 := cl_lt2 h0 (lp_st h0 w).2.1 (by have := (lp_st h0 w).2.2.2; omega)
  exact ⟨fun j hj => ⟨⟨(h.1 j hj).1.1, Int32.lt_trans (h.1 j hj).1.2 lt1⟩, (h.1 j hj).2⟩, h.2⟩
/-- without a place -/
def unB (W : Nat → Nat → Int32) (x : Int32) : Bool := decide (¬ 0 ≤ W 20 x.toNatClampNeg)
theorem un_ag {a : Int32} (h0 : 0 ≤ a) {x : Int32} (hx : 0 ≤ x) (h : unB W x = true) : unB (unY W a) x = true := by
  have h := of_decide_eq_true h
  refine decide_eq_true ?_
  by_cases e : x.toNatClampNeg = a.toNatClampNeg
  · rw [e, un_a (Or.inl rfl)]
    decide
  · rw [un_o (Or.inr e)]
    exact h
theorem cH_rf {m : Nat} (h : cH C c m t K L I R) {J : Nat → Nat → Int32} (hr : rfP C R R') (hT : cT C K L J R') : cH C c m t K L J R' := by
  have e16 : ∀ j, R' (C + 16) j = R (C + 16) j := fun j => hr _ _ (by omega) (by omega) (by omega)
  have e5 : ∀ j, R' (R (C + 16) j) 5 = R (R (C + 16) j) 5 := fun j => by
    have hS := h.1.s
    rcases h.1.g_benchesR j with q | q
    · rw [q]
      exact hr _ _ (by omega) (by omega) (by omega)
    · have := (h.1.g_bnc _ q).1
      exact hr _ _ (by omega) (by omega) (by omega)
  refine ⟨hT, h.2.1, h.2.2.1, ⟨by rw [hr _ _ (by omega) (by omega) (by omega)]; exact h.2.2.2.1.1, h.2.2.2.1.2⟩, ?_⟩
  have ev : cV C L R' = cV C L R := by
    unfold cV
    rw [e16, e16, e16, e16, e16, e16, e5, e5, e5, e5, e5, e5]
  rw [ev]
  exact h.2.2.2.2
/-- what calls that change places alone leave as it was -/
def fZ (C n : Nat) (K : Nat → Nat) (Q : Nat → Prop) (I : Nat → Nat → Int32) (R : Nat → Nat → Nat) (n' : Nat) (K' : Nat → Nat) (J : Nat → Nat → Int32) (R' : Nat → Nat → Nat) : Prop := (C + 96 < n ∧ n ≤ n') ∧ (∀ x, n ≤ x → K x = 0) ∧ (∀ x, x < n → K' x = K x) ∧ sZ C K Q I J ∧ ∀ x j, x < n → ¬ K x = 3 → ¬ x = C + 23 → ¬ x = C + 28 → ¬ x = C + 38 → R' x j = R x j
theorem fz_lt {n0 : Nat} {K0 : Nat → Nat} {R0 : Nat → Nat → Nat} (h : fZ C n0 K0 Q I0 R0 n K J R) {x j : Nat} (p : siX C K0 Q x j) : x < n0 := by
  have := h.1.1
  by_cases e : n0 ≤ x
  · have := h.2.1 x e
    unfold siX at p
    omega
  · omega
theorem fz_refl {m : Nat} (h : cH C c m t K L I R) : fZ C m K Q I R m K I R := ⟨⟨h.2.2.1, Nat.le_refl _⟩, h.2.1, fun _ _ => rfl, sz_refl, fun _ _ _ _ _ _ _ => rfl⟩
theorem fz_Q0 {n0 n' : Nat} {K0 K' L' : Nat → Nat} {R0 : Nat → Nat → Nat} (h : fZ C n0 K0 Q I0 R0 n K J R) (hT : cT C K L J R) (h2 : dQ C n K L J R n' K' L' J2 R') (hz : ∀ x j, K x = 1 → Q x → J2 x j = J x j) : fZ C n0 K0 Q I0 R0 n' K' J2 R' := by
  have hlt := fun {x j : Nat} (p : siX C K0 Q x j) => fz_lt h p
  obtain ⟨⟨p1, p2⟩, p3, p4, p5, p6⟩ := h
  obtain ⟨q1, q2, q3, q4, q5⟩ := h2
  refine ⟨⟨p1, by omega⟩, p3, fun x hx => (q2 x (by omega)).trans (p4 x hx), fun x j p => ?_, fun x j hx k3 a1 a2 a3 => ?_⟩
  · have hx := hlt p
    have ek := p4 x hx
    have g1 : (K x = 1 ∨ K x = 11) → C + 96 < x := sz_K hT
    by_cases c : K x = 1 ∧ Q x
    · rw [hz x j c.1 c.2]
      exact p5 x j p
    · have c2 : K x = 1 → ¬ Q x := fun e q => c ⟨e, q⟩
      have p' := p
      unfold siX at p'
      rw [q5 x j (by omega) (by omega) (by omega) (by
        rcases p' with p' | p' | p' | p'
        · omega
        · omega
        · omega
        · have := c2 (by rw [ek]; exact p'.1)
          rcases p'.2 with p2 | p2
          · omega
          · exact absurd p2 this)]
      exact p5 x j p
  · rw [q4 x j (by omega) (by rw [p4 x hx]; exact k3)]
    exact p6 x j hx k3 a1 a2 a3
theorem fz_Q {n0 n' : Nat} {K0 K' L' : Nat → Nat} {R0 : Nat → Nat → Nat} (h : fZ C n0 K0 Q I0 R0 n K J R) (hT : cT C K L J R) (h2 : dQ C n K L J R n' K' L' J2 R') {a : Nat} (ha : ¬ Q a) (hz : aZ K a J J2) : fZ C n0 K0 Q I0 R0 n' K' J2 R' := fz_Q0 h hT h2 (fun x j k1 hq => hz x j k1 (fun e => ha (by rw [← e]; exact hq)))
theorem fz_L {n0 : Nat} {K0 : Nat → Nat} {R0 : Nat → Nat → Nat} (h : fZ C n0 K0 Q I0 R0 n K J R) (hT : cT C K L J R) (h2 : dL C K L R J J2) {a : Nat} (ha : ¬ Q a) (hz : aZ K a J J2) : fZ C n0 K0 Q I0 R0 n K J2 R := fz_Q h hT (dQ_L h2) ha hz
theorem fz_C {n0 : Nat} {K0 : Nat → Nat} {R0 : Nat → Nat → Nat} (h : fZ C n0 K0 Q I0 R0 n K J R) (hT : cT C K L J R) (h2 : dC C K L R J J2) : fZ C n0 K0 Q I0 R0 n K J2 R := fz_Q0 h hT (dQ_C h2) (fun x j k1 _ => dC_at h2 hT k1 j)
theorem fz_rf {n0 : Nat} {K0 : Nat → Nat} {R0 : Nat → Nat → Nat} (h : fZ C n0 K0 Q I0 R0 n K J R) (hr : rfP C R R') : fZ C n0 K0 Q I0 R0 n K J R' := ⟨h.1, h.2.1, h.2.2.1, h.2.2.2.1, fun x j hx k3 a1 a2 a3 => (hr x j a1 a2 a3).trans (h.2.2.2.2 x j hx k3 a1 a2 a3)⟩
theorem fz_ui {n0 : Nat} {K0 : Nat → Nat} {R0 : Nat → Nat → Nat} (h : fZ C n0 K0 Q I0 R0 n K J R) (hT : cT C K L J R) {k j : Nat} {v : Int32} (hk : (k = 22 ∧ ¬ j = 8) ∨ (23 ≤ k ∧ k ≤ 35) ∨ (37 ≤ k ∧ k ≤ 42) ∨ k = 9 ∨ k = 10) : fZ C n0 K0 Q I0 R0 n K (a_ui J (C + k) j v) R := ⟨h.1, h.2.1, h.2.2.1, fun x i p => by
  have ek := h.2.2.1 x (fz_lt h p)
  have q : (K x = 1 ∨ K x = 11) → C + 96 < x := sz_K hT
  rw [ui_ap, if_neg (by unfold siX at p; omega)]
  exact h.2.2.2.1 x i p, h.2.2.2.2⟩
theorem ce_clearUnfit (hH : cH C c (n + 1) t K L I R) (hc : cpP C K L I R Y) (hse : seP C R Y) {a : Nat} {i : Int32} (ap : aaP C K I Y i a) (haa : (R (C + 15) i.toNatClampNeg) = a) (hP1 : agB Y i = true → ∀ n' t' K' L' J R', cH C c (n' + 1) t' K' L' J R' → dQ C (n + 1) K L I R (n' + 1) K' L' J R' → cpP C K' L' J R' (unY Y i) → seP C R' Y → (∀ j, R' (C + 15) j = R (C + 15) j) → aZ K a I J → P (some (.int 1)) (n' + 1, t', K', L', J, R')) (hP0 : ¬ agB Y i = true → ∀ J, dC C K L R I J → P (some (.int 0)) (n + 1, t, K, L, J, R)) : a_does (d + 6) 145 [a_rf (C + 14), a_rf a] (n + 1, t, K, L, I, R) P := by
  have hT := hH.1
  have hS := hT.s
  obtain ⟨ai, ⟨ha, an0, a4n⟩, am, al⟩ := id ap
  obtain ⟨a1, a2, a4, a3⟩ := hT.g_ask a ha
  have a0 : (a = 0) = False := eq_false an0
  have gA := hT.g_asksR
  have gB := hT.g_benchesR
  have gX := hT.g_textsR
  have hy := hc.2.2.2.2
  have e13 : I a 13 = Y 20 i.toNatClampNeg := al.2.2.2.1.1
  have e14 : I a 14 = Y 21 i.toNatClampNeg := al.2.2.2.1.2
  have en : I (C + 1) 6 = Y 0 0 := hc.1.1
  have es : (agB Y i = true) = ((0 ≤ Y 20 i.toNatClampNeg ∧ ¬ Y 21 i.toNatClampNeg * 8 < Y 0 0) ∧ ¬ ftY Y i (Y 20 i.toNatClampNeg) (Y 21 i.toNatClampNeg) = 0) := propext ⟨fun q => of_decide_eq_true q, fun q => decide_eq_true q⟩
  rw [es] at hP1 hP0
  by_cases c1 : 0 ≤ Y 20 i.toNatClampNeg ∧ ¬ Y 21 i.toNatClampNeg * 8 < Y 0 0
  · have pa := c1.1
    have i30 : i.toNatClampNeg < 30 := a_lt30 ⟨ai.1, Int32.lt_of_lt_of_le ai.2 hy.2.2.2.2.1.2⟩
    obtain ⟨⟨p21, p200, psl⟩, p5⟩ := hy.2.2.2.2.2.2.1 _ i30 pa
    have p6 : Y 20 i.toNatClampNeg < Y 0 6 := (hc.2.1.2.2.2.1 i ai.1 ai.2 pa).1
    have ps : 0 ≤ Y 21 i.toNatClampNeg ∧ Y 21 i.toNatClampNeg ≤ 199 := by
      have := hy.2.2.1 i ai.1 ai.2
      clear hP1 hP0 hse gA gB gX es
      grind
    have hcall : a_does (d + 5) 100 [a_rf (C + 14), a_rf a, .int (Y 20 i.toNatClampNeg), .int (Y 21 i.toNatClampNeg)] (n + 1, t, K, L, I, R) (fun r h' => a_at (d + 5) (a_xm a_m145) 21 [some (a_rf (C + 14)), some (a_rf a)] (r.toList ++ []) h' P) := by
      refine ce_firstBar (d := d) hT hc ap ⟨pa, p6⟩ ps (fun J hJ => ?_)
      have hT2 := hJ.1
      have hS2 := hT2.s
      by_cases cf : ftY Y i (Y 20 i.toNatClampNeg) (Y 21 i.toNatClampNeg) = 0
      · have hn := hP0 (fun q => q.2 cf) J hJ
        clear hP1 hP0 hc ap al am hse es
        simp only [q145_21, q145_24, q145_25, as_nil, as_i, as_r, Nat.reduceAdd, Nat.reduceLeDiff, z_eq0, z_eq1, z_or, z_em, Classical.not_not, not_false_eq_true, not_true_eq_false, true_and, and_true, false_and, and_false, and_self, true_implies, false_implies, implies_true, Option.toList_some, Option.toList_none, List.cons_append, List.nil_append, Nat.add_eq_zero_iff, a_nl_i, a_nl_r, a_nl_n, true_or, or_true, eq_self, a_isRA_22, a_isRA_24, a_isRA_32, a_isA_20, ok_4, ok_5, ok_6, ok_7, ok_9, ok_20, ok_21, ok_30, ok_50, ok_180, ok_192, ok_200, cf]
        try simp only [true_and, and_true, true_implies, false_implies, implies_true, not_true_eq_false, not_false_eq_true]
        first
          | exact hn
          | exact ⟨by decide, hn⟩
          | grind
      · have hcl : a_does (d + 5) 45 [a_rf (C + 14), a_rf a] (n + 1, t, K, L, J, R) (fun r h' => a_at (d + 5) (a_xm a_m145) 31 [some (a_rf (C + 14)), some (a_rf a)] (r.toList ++ []) h' P) := by
          refine ce_clear (d := d) (cH_J hH hT2) (cpP_C hT hc hJ) hse (aaP_C hT ap hJ) haa (fun n' t' K' L' J2 R' hH' hQ hc' hse' h15 hz' => ?_) pa
          have hn := hP1 ⟨c1, cf⟩ n' t' K' L' J2 R' hH' (dQ_Q (dQ_C hJ) hQ) hc' hse' h15 (fun x j kx hx => (hz' x j kx hx).trans (dC_at hJ hT kx j))
          have hS3 := hH'.1.s
          clear hP1 hP0 hc ap al am hse es hc' hse'
          simp only [q145_31, q145_32, as_nil, as_i, as_r, Nat.reduceAdd, Nat.reduceLeDiff, z_eq0, z_eq1, z_or, z_em, Classical.not_not, not_false_eq_true, not_true_eq_false, true_and, and_true, false_and, and_false, and_self, true_implies, false_implies, implies_true, Option.toList_some, Option.toList_none, List.cons_append, List.nil_append, Nat.add_eq_zero_iff, a_nl_i, a_nl_r, a_nl_n, true_or, or_true, eq_self, a_isRA_22, a_isRA_24, a_isRA_32, a_isA_20, ok_4, ok_5, ok_6, ok_7, ok_9, ok_20, ok_21, ok_30, ok_50, ok_180, ok_192, ok_200]
          first
            | exact hn
            | exact ⟨by decide, hn⟩
            | grind
        clear hP1 hP0 hc ap al am hse es
        simp only [q145_21, q145_24, q145_25, q145_26, q145_27, q145_28, k_14 hS, z_14, as_nil, as_i, as_r, Nat.reduceAdd, Nat.reduceLeDiff, z_eq0, z_eq1, z_or, z_em, Classical.not_not, not_false_eq_true, not_true_eq_false, true_and, and_true, false_and, and_false, and_self, true_implies, false_implies, implies_true, Option.toList_some, Option.toList_none, List.cons_append, List.nil_append, Nat.add_eq_zero_iff, a_nl_i, a_nl_r, a_nl_n, true_or, or_true, eq_self, a_isRA_22, a_isRA_24, a_isRA_32, a_isA_20, ok_4, ok_5, ok_6, ok_7, ok_9, ok_20, ok_21, ok_30, ok_50, ok_180, ok_192, ok_200, cf]
        try simp only [true_and, and_true, true_implies, false_implies, implies_true, not_true_eq_false, not_false_eq_true]
        first
          | exact hcl
          | grind
    clear hP1 hP0 hc ap al am hse es
    rw [a_enter1 (M := a_m145) rfl (a_cat_rf (a_cat_rf a_cat_nil)) (show 2 ≤ 2 by decide)]
    show a_at _ (a_xm a_m145) 0 [some (a_rf (C + 14)), some (a_rf a)] [] _ _
    simp only [q145_0, q145_1, q145_2, q145_5, q145_8, q145_9, q145_10, q145_11, q145_14, q145_15, q145_18, k_14 hS, z_14, sp_mayMove hS, as_nil, as_i, as_r, Nat.reduceAdd, Nat.reduceLeDiff, z_eq0, z_eq1, z_or, z_em, Classical.not_not, not_false_eq_true, not_true_eq_false, true_and, and_true, false_and, and_false, and_self, true_implies, false_implies, implies_true, Option.toList_some, Option.toList_none, List.cons_append, List.nil_append, Nat.add_eq_zero_iff, a_nl_i, a_nl_r, a_nl_n, true_or, or_true, eq_self, a_isRA_22, a_isRA_24, a_isRA_32, a_isA_20, ok_4, ok_5, ok_6, ok_7, ok_9, ok_20, ok_21, ok_30, ok_50, ok_180, ok_192, ok_200, ha, a0, e13, e14, en, c1, pa]
    try simp only [true_and, and_true, true_implies, false_implies, implies_true, not_true_eq_false, not_false_eq_true]
    first
      | exact hcall
      | grind
  · have hn := hP0 (fun q => c1 q.1) I (dC_refl hT)
    clear hP1 hP0 hc ap al am hse es
    rw [a_enter1 (M := a_m145) rfl (a_cat_rf (a_cat_rf a_cat_nil)) (show 2 ≤ 2 by decide)]
    show a_at _ (a_xm a_m145) 0 [some (a_rf (C + 14)), some (a_rf a)] [] _ _
    simp only [q145_0, q145_1, q145_2, q145_5, q145_24, q145_25, k_14 hS, z_14, sp_mayMove hS, as_nil, as_i, as_r, Nat.reduceAdd, Nat.reduceLeDiff, z_eq0, z_eq1, z_or, z_em, Classical.not_not, not_false_eq_true, not_true_eq_false, true_and, and_true, false_and, and_false, and_self, true_implies, false_implies, implies_true, Option.toList_some, Option.toList_none, List.cons_append, List.nil_append, Nat.add_eq_zero_iff, a_nl_i, a_nl_r, a_nl_n, true_or, or_true, eq_self, a_isRA_22, a_isRA_24, a_isRA_32, a_isA_20, ok_4, ok_5, ok_6, ok_7, ok_9, ok_20, ok_21, ok_30, ok_50, ok_180, ok_192, ok_200, ha, a0, e13, e14, en, c1]
    try simp only [true_and, and_true, true_implies, false_implies, implies_true, not_true_eq_false, not_false_eq_true]
    first
      | exact hn
      | exact ⟨by decide, hn⟩
      | grind
theorem od_b (hb : sbE Y W) {o : Nat → Int32} {j : Nat} (h : odP C R Y o j) : odP C R W o j := ⟨h.1, h.2.1, by rw [hb 0 17 (by unfold sb; omega)]; exact h.2.2⟩
theorem le_planAgain_77 (hH : cH C c (n + 1) t K L I R) {n0 : Nat} {K0 : Nat → Nat} {R0 : Nat → Nat → Nat} (hse : seP C R Y) (hQ : ∀ i : Int32, 0 ≤ i → i < Y 0 17 → ¬ Q (R (C + 15) i.toNatClampNeg)) {f : Int32} (hf : 0 ≤ f ∧ f ≤ 202) (ef : Y 0 0 / 8 + 1 = f) {o : Nat → Int32} {m : Nat} (hm30 : m ≤ 30) (ho : ∀ j, j < m → odP C R Y o j) (hoi : ∀ i j, i < m → j < m → o i = o j → i = j) {V : (Nat → Nat → Int32) × Nat} (hP : ∀ J, cT C K L J R → cpP C K L J R V.1 → sbE Y V.1 → fZ C n0 K0 Q I0 R0 (n + 1) K J R → P (some (.int (Int32.ofNat V.2))) (n + 1, t, K, L, J, R)) : ∀ (k i : Nat) (J W : Nat → Nat → Int32) (mv : Nat) (u : Option Value), i + k = m → cT C K L J R → cpP C K L J R W → sbE Y W → mv ≤ i → J (C + 22) 6 = Int32.ofNat m → fZ C n0 K0 Q I0 R0 (n + 1) K J R → (∀ j, j < m → J (C + 25) (o j).toNatClampNeg = Y 20 (o j).toNatClampNeg ∧ J (C + 26) (o j).toNatClampNeg = Y 21 (o j).toNatClampNeg) → (∀ j, i ≤ j → j < m → ¬ 0 ≤ W 20 (o j).toNatClampNeg) → agM o f 199 Y k i (W, mv) = V → a_at (d + 7) (a_xm a_m144) 77 [some (a_rf (C + 22)), some (.int (Int32.ofNat mv)), some (.int (Int32.ofNat i)), u] [] (n + 1, t, K, L, J, R) P := by
  intro k
  induction k with
  | zero =>
    intro i J W mv u hk hT hc hb hmv h6 hz hol hun hV
    have e : (W, mv) = V := hV
    subst e
    have ei : i = m := by omega
    have hp := hP J hT hc hb hz
    have hS := hT.s
    rw [ei]
    clear hP hc hb hun ho hse hol hH hz
    rw [q144_77]
    simp only [q144_78, q144_79, q144_82, q144_154, q144_155, k_22 hS, z_22, as_nil, as_i, as_r, Nat.reduceAdd, Nat.reduceLeDiff, z_eq0, z_eq1, z_or, z_em, Classical.not_not, not_false_eq_true, not_true_eq_false, true_and, and_true, false_and, and_false, and_self, true_implies, false_implies, implies_true, Option.toList_some, Option.toList_none, List.cons_append, List.nil_append, Nat.add_eq_zero_iff, a_nl_i, a_nl_r, a_nl_n, true_or, or_true, eq_self, a_isRA_22, a_isRA_24, a_isRA_32, a_isA_20, ok_4, ok_5, ok_6, ok_7, ok_9, ok_20, ok_21, ok_30, ok_50, ok_180, ok_192, ok_200, h6]
    first
      | exact hp
      | exact ⟨fun _ => hp, fun q => absurd (Int32.le_refl _) q⟩
      | grind
  | succ k ih =>
    intro i J W mv u hk hT hc hb hmv h6 hz hol hun hV
    have hS := hT.s
    have w17 : W 0 17 = Y 0 17 := hb 0 17 (by unfold sb; omega)
    have w00 : W 0 0 = Y 0 0 := hb 0 0 (by unfold sb; omega)
    have hse2 := se_b hse hb
    have him : i < m := by omega
    obtain ⟨q0, q1, q2⟩ := ho i him
    rw [← w17] at q2
    have ap := aa_of hc q1 q2
    have h17 := hc.2.2.2.2.2.2.2.2.1
    have o30 : 0 ≤ o i ∧ o i < 30 := ⟨q1, Int32.lt_of_lt_of_le q2 h17.2⟩
    have un : ¬ 0 ≤ W 20 (o i).toNatClampNeg := hun i (Nat.le_refl _) him
    have hok := on_ok (p := i) (by omega)
    have ei := (on_p (p := i) (by omega)).2.2.1
    have ei1 := (on_p (p := i) (by omega)).2.2.2.2.1
    have ev1 := (on_p (p := mv) (by omega)).2.2.2.2.1
    have nle : ¬ Int32.ofNat m ≤ Int32.ofNat i := Int32.not_le.mpr (by rw [on_lt (by omega) (by omega)]; omega)
    have ka := ap.2.1.1
    have kn := ap.2.1.2.1
    have k0 : (R (C + 15) (o i).toNatClampNeg = 0) = False := eq_false kn
    have n8 : ¬ (8 : Int32) = 0 := by decide
    have enow : J (C + 1) 6 = Y 0 0 := by rw [hc.1.1]; exact w00
    have hold := hol i him
    have hafter : ∀ (v : Int32) (Z : Nat → Nat → Int32), giY W (o i) f 199 true = Z → sbE Y Z → (∀ j, i < j → j < m → ¬ 0 ≤ Z 20 (o j).toNatClampNeg) → ∀ J2, dL C K L R J J2 → aZ K (R (C + 15) (o i).toNatClampNeg) J J2 → cpP C K L J2 R Z → a_at (d + 7) (a_xm a_m144) 112 [some (a_rf (C + 22)), some (.int (Int32.ofNat mv)), some (.int (Int32.ofNat i)), some (a_rf (R (C + 15) (o i).toNatClampNeg))] [.int v] (n + 1, t, K, L, J2, R) P := fun v Z eZ hbZ hunZ J2 d2 z2 hc2 => by
      have hT2 := d2.1
      have hS2 := hT2.s
      have e : ∀ k j, k = 22 ∨ k = 25 ∨ k = 26 → J2 (C + k) j = J (C + k) j := fun k j hk => d2.2 _ _ (by omega) (by omega) (by omega)
      have g25 : J2 (C + 25) (o i).toNatClampNeg = Y 20 (o i).toNatClampNeg := by rw [e _ _ (Or.inr (Or.inl rfl))]; exact hold.1
      have g26 : J2 (C + 26) (o i).toNatClampNeg = Y 21 (o i).toNatClampNeg := by rw [e _ _ (Or.inr (Or.inr rfl))]; exact hold.2
      obtain ⟨-, ⟨-, -, a4⟩, -, al⟩ := aa_of hc2 q1 (by rw [hbZ 0 17 (by unfold sb; omega), ← w17]; exact q2)
      have a13 : J2 (R (C + 15) (o i).toNatClampNeg) 13 = Z 20 (o i).toNatClampNeg := al.2.2.2.1.1
      have a14 : J2 (R (C + 15) (o i).toNatClampNeg) 14 = Z 21 (o i).toNatClampNeg := al.2.2.2.1.2
      unfold agM at hV
      have e1 : ∀ (x : Nat → Nat → Int32) (y : Nat), (x, y).1 = x ∧ (x, y).2 = y := fun _ _ => ⟨rfl, rfl⟩
      rw [(e1 _ _).1, (e1 _ _).2, eZ] at hV
      have hn := fun mv2 hmv2 (hv2 : agM o f 199 Y k (i + 1) (Z, mv2) = V) => ih (i + 1) J2 Z mv2 (some (a_rf (R (C + 15) (o i).toNatClampNeg))) (by omega) hT2 hc2 hbZ hmv2 (by rw [e _ _ (Or.inl rfl)]; exact h6) (fz_L hz hT d2 (hQ _ q1 (by rw [← w17]; exact q2)) z2) (fun j hj => by rw [e _ _ (Or.inr (Or.inl rfl)), e _ _ (Or.inr (Or.inr rfl))]; exact hol j hj) (fun j hj hj2 => hunZ j (by omega) hj2) hv2
      by_cases cs : Z 20 (o i).toNatClampNeg = Y 20 (o i).toNatClampNeg ∧ Z 21 (o i).toNatClampNeg = Y 21 (o i).toNatClampNeg
      · rw [if_pos cs] at hV
        have hn := hn mv (by omega) hV
        obtain ⟨c1, c2⟩ := cs
        clear ih hP hc hb hun ho hse hol hH hV hc2 al hbZ hunZ
        simp only [q144_112, q144_113, q144_114, q144_117, q144_118, q144_121, q144_122, q144_125, q144_126, q144_129, q144_130, q144_133, q144_134, q144_137, q144_138, q144_141, q144_142, q144_145, q144_148, q144_151, k_22 hS2, z_22, r_22_4 hS2, k_25 hS2, l_25 hS2, z_25, r_22_5 hS2, k_26 hS2, l_26 hS2, z_26, as_nil, as_i, as_r, Nat.reduceAdd, Nat.reduceLeDiff, z_eq0, z_eq1, z_or, z_em, Classical.not_not, not_false_eq_true, not_true_eq_false, true_and, and_true, false_and, and_false, and_self, true_implies, false_implies, implies_true, Option.toList_some, Option.toList_none, List.cons_append, List.nil_append, Nat.add_eq_zero_iff, a_nl_i, a_nl_r, a_nl_n, true_or, or_true, eq_self, a_isRA_22, a_isRA_24, a_isRA_32, a_isA_20, ok_4, ok_5, ok_6, ok_7, ok_9, ok_20, ok_21, ok_30, ok_50, ok_180, ok_192, ok_200, ka, k0, a4, a13, a14, g25, g26, o30, c1, c2, ei1]
        try simp only [true_and, and_true, true_implies, false_implies, implies_true, not_true_eq_false, not_false_eq_true]
        first
          | exact hn
          | grind
      · rw [if_neg cs] at hV
        have hn := hn (mv + 1) (by omega) hV
        clear ih hP hc hb hun ho hse hol hH hV hc2 al hbZ hunZ
        by_cases c1 : Z 20 (o i).toNatClampNeg = Y 20 (o i).toNatClampNeg
        · have c2 : ¬ Z 21 (o i).toNatClampNeg = Y 21 (o i).toNatClampNeg := fun q => cs ⟨c1, q⟩
          simp only [q144_112, q144_113, q144_114, q144_117, q144_118, q144_121, q144_122, q144_125, q144_126, q144_129, q144_130, q144_133, q144_134, q144_137, q144_138, q144_141, q144_142, q144_145, q144_148, q144_151, k_22 hS2, z_22, r_22_4 hS2, k_25 hS2, l_25 hS2, z_25, r_22_5 hS2, k_26 hS2, l_26 hS2, z_26, as_nil, as_i, as_r, Nat.reduceAdd, Nat.reduceLeDiff, z_eq0, z_eq1, z_or, z_em, Classical.not_not, not_false_eq_true, not_true_eq_false, true_and, and_true, false_and, and_false, and_self, true_implies, false_implies, implies_true, Option.toList_some, Option.toList_none, List.cons_append, List.nil_append, Nat.add_eq_zero_iff, a_nl_i, a_nl_r, a_nl_n, true_or, or_true, eq_self, a_isRA_22, a_isRA_24, a_isRA_32, a_isA_20, ok_4, ok_5, ok_6, ok_7, ok_9, ok_20, ok_21, ok_30, ok_50, ok_180, ok_192, ok_200, ka, k0, a4, a13, a14, g25, g26, o30, c1, c2, ei1, ev1]
          try simp only [true_and, and_true, true_implies, false_implies, implies_true, not_true_eq_false, not_false_eq_true]
          first
            | exact hn
            | grind
        · simp only [q144_112, q144_113, q144_114, q144_117, q144_118, q144_121, q144_122, q144_125, q144_126, q144_129, q144_130, q144_133, q144_134, q144_137, q144_138, q144_141, q144_142, q144_145, q144_148, q144_151, k_22 hS2, z_22, r_22_4 hS2, k_25 hS2, l_25 hS2, z_25, r_22_5 hS2, k_26 hS2, l_26 hS2, z_26, as_nil, as_i, as_r, Nat.reduceAdd, Nat.reduceLeDiff, z_eq0, z_eq1, z_or, z_em, Classical.not_not, not_false_eq_true, not_true_eq_false, true_and, and_true, false_and, and_false, and_self, true_implies, false_implies, implies_true, Option.toList_some, Option.toList_none, List.cons_append, List.nil_append, Nat.add_eq_zero_iff, a_nl_i, a_nl_r, a_nl_n, true_or, or_true, eq_self, a_isRA_22, a_isRA_24, a_isRA_32, a_isA_20, ok_4, ok_5, ok_6, ok_7, ok_9, ok_20, ok_21, ok_30, ok_50, ok_180, ok_192, ok_200, ka, k0, a4, a13, a14, g25, g26, o30, c1, ei1, ev1]
          try simp only [true_and, and_true, true_implies, false_implies, implies_true, not_true_eq_false, not_false_eq_true]
          first
            | exact hn
            | grind
    have hcall : a_does (d + 7) 124 [a_rf (C + 22), a_rf (R (C + 15) (o i).toNatClampNeg), .int f, .int 199] (n + 1, t, K, L, J, R) (fun r h' => a_at (d + 7) (a_xm a_m144) 112 [some (a_rf (C + 22)), some (.int (Int32.ofNat mv)), some (.int (Int32.ofNat i)), some (a_rf (R (C + 15) (o i).toNatClampNeg))] (r.toList ++ []) h' P) := by
      refine ce_placeFirst (d := d) hT hc hse2 ap rfl un hf (by decide) (fun c2 J2 d2 z2 hc2 => ?_) (fun c2 J2 d2 => ?_)
      · refine hafter 1 (puY W (o i) (gnY W (o i) f 199).2 (gnY W (o i) f 199).1) (by unfold giY; rw [if_pos ⟨rfl, c2⟩]) (sb_tr hb puY_b) (fun j hj hj2 => ?_) J2 d2 z2 hc2
        have hne : ¬ (o j).toNatClampNeg = (o i).toNatClampNeg := fun q => by
          have := hoi j i hj2 him (cl_inj (ho j hj2).2.1 q1 q)
          omega
        unfold puY
        rw [if_neg (fun q => hne q.2), if_neg (by omega), if_neg (by omega)]
        exact hun j (by omega) hj2
      · exact hafter 0 W (by unfold giY; rw [if_neg (fun q => c2 q.2)]) hb (fun j hj hj2 => hun j (by omega) hj2) J2 (dL_C (dL_refl hT) d2) (fun x j kx _ => dC_at d2 hT kx j) (cpP_C hT hc d2)
    clear ih hP hc hb hun ho hse hse2 ap hol hH hV hafter
    rw [q144_77]
    simp only [q144_78, q144_79, q144_82, q144_85, q144_86, q144_89, q144_90, q144_91, q144_92, q144_93, q144_94, q144_95, q144_98, q144_101, q144_103, q144_104, q144_105, q144_106, q144_109, k_22 hS, z_22, r_22_2 hS, k_23 hS, l_23 hS, z_23, r_22_1 hS, k_1 hS, z_1, as_nil, as_i, as_r, Nat.reduceAdd, Nat.reduceLeDiff, z_eq0, z_eq1, z_or, z_em, Classical.not_not, not_false_eq_true, not_true_eq_false, true_and, and_true, false_and, and_false, and_self, true_implies, false_implies, implies_true, Option.toList_some, Option.toList_none, List.cons_append, List.nil_append, Nat.add_eq_zero_iff, a_nl_i, a_nl_r, a_nl_n, true_or, or_true, eq_self, a_isRA_22, a_isRA_24, a_isRA_32, a_isA_20, ok_4, ok_5, ok_6, ok_7, ok_9, ok_20, ok_21, ok_30, ok_50, ok_180, ok_192, ok_200, h6, q0, ei, hok, nle, n8, enow, ef]
    try simp only [true_and, and_true, true_implies, false_implies, implies_true, not_true_eq_false, not_false_eq_true]
    first
      | exact hcall
      | grind
theorem le_planAgain_7 {n0 : Nat} {K0 : Nat → Nat} {R0 : Nat → Nat → Nat} (hN : ∀ n t K L J R1 (u : Int32) v w, cH C c (n + 1) t K L J R1 → cpP C K L J R1 (agP Y).1 → sbE Y (agP Y).1 → seP C R1 Y → J (C + 22) 6 = Int32.ofNat (agP Y).2.2 → (agP Y).2.2 ≤ 30 → (∀ j, j < (agP Y).2.2 → odP C R1 Y (agP Y).2.1 j) → rwP (unB (agP Y).1) (Y 0 17) (agP Y).2 → (∀ x : Int32, 0 ≤ x → x < Y 0 17 → J (C + 25) x.toNatClampNeg = Y 20 x.toNatClampNeg ∧ J (C + 26) x.toNatClampNeg = Y 21 x.toNatClampNeg) → fZ C n0 K0 Q I0 R0 (n + 1) K J R1 → (∀ i : Int32, 0 ≤ i → i < Y 0 17 → ¬ Q (R1 (C + 15) i.toNatClampNeg)) → a_at (d + 7) (a_xm a_m144) 73 [some (a_rf (C + 22)), some (.int u), v, w] [] (n + 1, t, K, L, J, R1) P) : ∀ i : Int32, i ≤ 30 → ∀ n t K L J R1 W u w m o, 0 ≤ i → i ≤ Y 0 17 → cH C c (n + 1) t K L J R1 → cpP C K L J R1 W → sbE Y W → seP C R1 Y → J (C + 22) 6 = Int32.ofNat m → m ≤ i.toNatClampNeg → (∀ j, j < m → odP C R1 Y o j) → rwP (unB W) i (o, m) → (∀ x : Int32, 0 ≤ x → x < i → J (C + 25) x.toNatClampNeg = Y 20 x.toNatClampNeg ∧ J (C + 26) x.toNatClampNeg = Y 21 x.toNatClampNeg) → (∀ x : Int32, i ≤ x → x < Y 0 17 → W 20 x.toNatClampNeg = Y 20 x.toNatClampNeg ∧ W 21 x.toNatClampNeg = Y 21 x.toNatClampNeg) → fZ C n0 K0 Q I0 R0 (n + 1) K J R1 → (∀ i : Int32, 0 ≤ i → i < Y 0 17 → ¬ Q (R1 (C + 15) i.toNatClampNeg)) → agS ((Y 0 17).toNatClampNeg - i.toNatClampNeg) i (W, o, m) = agP Y → a_at (d + 7) (a_xm a_m144) 7 [some (a_rf (C + 22)), some (.int i), u, w] [] (n + 1, t, K, L, J, R1) P := by
  refine up_ind 30 (fun i i30 ih => ?_)
  intro n t K L J R1 W u w m o h0 h1 hH hc hb hse h6 hmi ho hrw hol hW hz hQ hV
  have hT := hH.1
  have hS := hT.s
  have gA := hT.g_asksR
  have gB := hT.g_benchesR
  have gX := hT.g_textsR
  have w17 : W 0 17 = Y 0 17 := hb 0 17 (by unfold sb; omega)
  have h17 := hc.2.2.2.2.2.2.2.2.1
  rw [w17] at h17
  have l30 := cl_le0 h0 (Int32.le_trans h1 h17.2)
  rw [show (30 : Int32).toNatClampNeg = 30 from rfl] at l30
  have e4 : J (C + 14) 4 = Y 0 17 := hc.2.2.1.1.trans w17
  have hexit : ¬ i < Y 0 17 → ∀ v w, a_at (d + 7) (a_xm a_m144) 73 [some (a_rf (C + 22)), some (.int i), v, w] [] (n + 1, t, K, L, J, R1) P := fun c v w => by
    obtain ⟨e1, e2⟩ := lp_end h1 c
    rw [e1] at hV
    have e9 : (W, o, m) = agP Y := hV
    rw [← e9] at hN
    exact hN n t K L J R1 _ v w hH hc hb hse h6 (by show m ≤ 30; omega) ho (by rw [← e2]; exact hrw) (by rw [← e2]; exact hol) hz hQ
  have hin : i < Y 0 17 → ∀ v w, a_at (d + 7) (a_xm a_m144) 26 [some (a_rf (C + 22)), some (.int i), v, w] [a_rf (R1 (C + 15) i.toNatClampNeg)] (n + 1, t, K, L, J, R1) P := fun w uv wv => by
    obtain ⟨s1, s2, s3, s4⟩ := lp_st h0 w
    have hi30 : 0 ≤ i ∧ i < 30 := ⟨h0, Int32.lt_of_lt_of_le w h17.2⟩
    have iT := cl_lt h0 w
    have iT3 := cl_lt h0 hi30.2
    rw [show (30 : Int32).toNatClampNeg = 30 from rfl] at iT3
    have ap := aa_of hc h0 (by rw [w17]; exact w)
    obtain ⟨-, ⟨kb, bn, b4⟩, bm, bl⟩ := id ap
    have b0 : (R1 (C + 15) i.toNatClampNeg = 0) = False := eq_false bn
    have f13 : J (R1 (C + 15) i.toNatClampNeg) 13 = Y 20 i.toNatClampNeg := bl.2.2.2.1.1.trans (hW i (Int32.le_refl _) w).1
    have f14 : J (R1 (C + 15) i.toNatClampNeg) 14 = Y 21 i.toNatClampNeg := bl.2.2.2.1.2.trans (hW i (Int32.le_refl _) w).2
    have na : ¬ R1 (C + 15) i.toNatClampNeg = C + 25 := fun e => by have := (hT.g_ask _ kb).1; omega
    have nb : ¬ R1 (C + 15) i.toNatClampNeg = C + 26 := fun e => by have := (hT.g_ask _ kb).1; omega
    rw [s1] at hV
    unfold agS at hV
    have e1 : ∀ (x : Nat → Nat → Int32) (y : (Nat → Int32) × Nat), (x, y).1 = x ∧ (x, y).2 = y := fun _ _ => ⟨rfl, rfl⟩
    have e2 : ∀ (x : Nat → Int32) (y : Nat), (x, y).1 = x ∧ (x, y).2 = y := fun _ _ => ⟨rfl, rfl⟩
    rw [(e1 _ _).1, (e1 _ _).2, (e2 _ _).1, (e2 _ _).2] at hV
    -- the heap with what was had
    have hT1 := sT_Planner_oldBench hT (k := i.toNatClampNeg) (v := Y 20 i.toNatClampNeg)
    have hc1 := cp_sc hT hc (k := 25) (j := i.toNatClampNeg) (v := Y 20 i.toNatClampNeg) (by omega) (by omega)
    have hT2 := sT_Planner_oldShift hT1 (k := i.toNatClampNeg) (v := Y 21 i.toNatClampNeg)
    have hc2 := cp_sc hT1 hc1 (k := 26) (j := i.toNatClampNeg) (v := Y 21 i.toNatClampNeg) (by omega) (by omega)
    generalize eJ : a_ui (a_ui J (C + 25) i.toNatClampNeg (Y 20 i.toNatClampNeg)) (C + 26) i.toNatClampNeg (Y 21 i.toNatClampNeg) = J1 at hT2 hc2
    have hH1 := cH_J hH hT2
    have hz1 : fZ C n0 K0 Q I0 R0 (n + 1) K J1 R1 := by
      rw [← eJ]
      exact fz_ui (fz_ui hz hT (by omega)) hT1 (by omega)
    have h61 : J1 (C + 22) 6 = Int32.ofNat m := by rw [← eJ, ui_ap, if_neg (by omega), ui_ap, if_neg (by omega)]; exact h6
    have hol1 : ∀ x : Int32, 0 ≤ x → x < i + 1 → J1 (C + 25) x.toNatClampNeg = Y 20 x.toNatClampNeg ∧ J1 (C + 26) x.toNatClampNeg = Y 21 x.toNatClampNeg := fun x x0 x1 => by
      rw [← eJ]
      by_cases e : x.toNatClampNeg = i.toNatClampNeg
      · rw [ui_ap, if_neg (by omega), ui_ap, if_pos ⟨rfl, e⟩, ui_ap, if_pos ⟨rfl, e⟩, e]
        exact ⟨rfl, rfl⟩
      · rw [ui_ap, if_neg (by omega), ui_ap, if_neg (fun q => e q.2), ui_ap, if_neg (fun q => e q.2), ui_ap, if_neg (by omega)]
        have := cl_lt x0 x1
        exact hol x x0 (cl_lt2 x0 h0 (by omega))
    have ap2 := aa_of hc2 h0 (by rw [w17]; exact w)
    have hW1 : ∀ x : Int32, i + 1 ≤ x → x < Y 0 17 → W 20 x.toNatClampNeg = Y 20 x.toNatClampNeg ∧ W 21 x.toNatClampNeg = Y 21 x.toNatClampNeg := fun x x0 x1 => hW x (Int32.le_trans (Int32.le_of_lt (cl_lt2 h0 s2 (by omega))) x0) x1
    have hcall : a_does (d + 7) 145 [a_rf (C + 14), a_rf (R1 (C + 15) i.toNatClampNeg)] (n + 1, t, K, L, J1, R1) (fun r h' => a_at (d + 7) (a_xm a_m144) 59 [some (a_rf (C + 22)), some (.int i), some (a_rf (R1 (C + 15) i.toNatClampNeg)), wv] (r.toList ++ []) h' P) := by
      refine ce_clearUnfit (d := d + 1) hH1 hc2 (se_b hse hb) ap2 rfl (fun ag n' t' K' L' J' R' hH' hdQ hc' hse' h15 haz => ?_) (fun ag J2 d2 => ?_)
      · rw [if_pos ag] at hV
        have hS2 := hH'.1.s
        have hC := hH1.2.2.1
        have k23 : K (C + 23) = 22 := k_23 hS
        have al := kn_lt hH1.2.1 kb (by decide)
        have kb' : K' (R1 (C + 15) i.toNatClampNeg) = 1 := by rw [hdQ.2.1 _ al]; exact kb
        have e6 : ∀ k j, k = 22 ∨ k = 25 ∨ k = 26 → J' (C + k) j = J1 (C + k) j := fun k j hk => hdQ.2.2.2.2 _ _ (by omega) (by omega) (by omega) (by omega)
        have r23 : ∀ j, R' (C + 23) j = R1 (C + 23) j := fun j => hdQ.2.2.2.1 _ _ (by omega) (by rw [k23]; decide)
        have hb' : sbE Y (unY W i) := sb_tr hb unY_b
        have h6' : J' (C + 22) 6 = Int32.ofNat m := (e6 _ _ (Or.inl rfl)).trans h61
        have ho' : ∀ j, j < m → odP C R' (unY W i) o j := fun j hj => od_b hb' (by
          obtain ⟨p1, p2, p3⟩ := ho j hj
          exact ⟨by rw [r23, h15]; exact p1, p2, p3⟩)
        have apE := aa_of hc' h0 (by rw [hb' 0 17 (by unfold sb; omega)]; exact w)
        rw [h15] at apE
        have henter : a_does (d + 7) 120 [a_rf (C + 22), a_rf (R1 (C + 15) i.toNatClampNeg)] (n' + 1, t', K', L', J', R') (fun r h' => a_at (d + 7) (a_xm a_m144) 67 [some (a_rf (C + 22)), some (.int i), some (a_rf (R1 (C + 15) i.toNatClampNeg)), wv] (r.toList ++ []) h' P) := by
          refine ce_enter (d := d + 4) hH'.1 hc' (se_b hse' unY_b) apE (h15 _) (m := m) (by omega) h6' ho' (fun R2 hT3 hr2 ho2 => ?_)
          have hT3' := sT_Planner_orderSize hH'.1 (v := Int32.ofNat (m + 1)) (on_ok2 (by omega))
          have hc3 := cp_rf hT3' (cp_sc hH'.1 hc' (k := 22) (j := 6) (v := Int32.ofNat (m + 1)) (by omega) (by omega)) hr2
          have hse3 : seP C R2 Y := se_b (se_rf hH'.1 hc' (se_b hse' unY_b) hr2) (fun k j p => (hb' k j p).symm)
          have hn := ih hi30.2 n' t' K' L' (a_ui J' (C + 22) 6 (Int32.ofNat (m + 1))) R2 (unY W i) (some (a_rf (R1 (C + 15) i.toNatClampNeg))) wv (m + 1) (inS W i m o) s2 s3 (cH_rf hH' hr2 hT3) hc3 hb' hse3 (by rw [ui_ap, if_pos ⟨rfl, rfl⟩]) (by omega) (fun j hj => by
            obtain ⟨p1, p2, p3⟩ := ho2 j (by omega)
            rw [inS_b unY_b] at p1 p2 p3
            exact ⟨p1, p2, by rw [← hb' 0 17 (by unfold sb; omega)]; exact p3⟩) (rw_in h0 w (decide_eq_true (by rw [un_a (Or.inl rfl)]; decide)) (rw_mono hrw (fun x x0 x1 hq => un_ag h0 x0 hq))) (fun x x0 x1 => by
            rw [ui_ap, if_neg (by omega), ui_ap, if_neg (by omega), e6 _ _ (Or.inr (Or.inl rfl)), e6 _ _ (Or.inr (Or.inr rfl))]
            exact hol1 x x0 x1) (fun x x0 x1 => by
            have hne : ¬ x.toNatClampNeg = i.toNatClampNeg := fun q => by
              have := cl_le0 s2 x0
              omega
            rw [un_o (Or.inr hne), un_o (Or.inr hne)]
            exact hW1 x x0 x1) (fz_rf (fz_ui (fz_Q hz1 hT2 hdQ (hQ i h0 w) haz) hH'.1 (by omega)) hr2) (fun x x0 x1 => by rw [hr2 _ _ (by omega) (by omega) (by omega), h15]; exact hQ x x0 x1) hV
          clear ih hN hV hexit hc hc1 hc2 hc' hc3 ap ap2 apE hrw ho ho' ho2 hol hol1 hW hW1 hse hse' hse3
          simp only [q144_67, q144_70, as_nil, as_i, as_r, Nat.reduceAdd, Nat.reduceLeDiff, z_eq0, z_eq1, z_or, z_em, Classical.not_not, not_false_eq_true, not_true_eq_false, true_and, and_true, false_and, and_false, and_self, true_implies, false_implies, implies_true, Option.toList_some, Option.toList_none, List.cons_append, List.nil_append, Nat.add_eq_zero_iff, a_nl_i, a_nl_r, a_nl_n, true_or, or_true, eq_self, a_isRA_22, a_isRA_24, a_isRA_32, a_isA_20, ok_4, ok_5, ok_6, ok_7, ok_9, ok_20, ok_21, ok_30, ok_50, ok_180, ok_192, ok_200]
          exact hn
        clear ih hN hV hexit hc hc1 hc2 hc' ap ap2 apE hrw ho ho' hol hol1 hW hW1 hse hse'
        simp only [q144_59, q144_62, q144_63, q144_64, k_22 hS2, z_22, as_nil, as_i, as_r, Nat.reduceAdd, Nat.reduceLeDiff, z_eq0, z_eq1, z_or, z_em, Classical.not_not, not_false_eq_true, not_true_eq_false, true_and, and_true, false_and, and_false, and_self, true_implies, false_implies, implies_true, Option.toList_some, Option.toList_none, List.cons_append, List.nil_append, Nat.add_eq_zero_iff, a_nl_i, a_nl_r, a_nl_n, true_or, or_true, eq_self, a_isRA_22, a_isRA_24, a_isRA_32, a_isA_20, ok_4, ok_5, ok_6, ok_7, ok_9, ok_20, ok_21, ok_30, ok_50, ok_180, ok_192, ok_200, kb', b0]
        try simp only [true_and, and_true, true_implies, false_implies, implies_true, not_true_eq_false, not_false_eq_true]
        first
          | exact henter
          | grind
      · rw [if_neg ag] at hV
        have hS2 := d2.1.s
        have e6 : ∀ k j, k = 22 ∨ k = 25 ∨ k = 26 → J2 (C + k) j = J1 (C + k) j := fun k j hk => d2.2 _ _ (by omega) (by omega)
        have hn := ih hi30.2 n t K L J2 R1 W (some (a_rf (R1 (C + 15) i.toNatClampNeg))) wv m o s2 s3 (cH_J hH1 d2.1) (cpP_C hT2 hc2 d2) hb hse ((e6 _ _ (Or.inl rfl)).trans h61) (by omega) ho (rw_up h0 w hrw) (fun x x0 x1 => by
          rw [e6 _ _ (Or.inr (Or.inl rfl)), e6 _ _ (Or.inr (Or.inr rfl))]
          exact hol1 x x0 x1) hW1 (fz_C hz1 hT2 d2) hQ hV
        clear ih hN hV hexit hc hc1 hc2 ap ap2 hrw ho hol hol1 hW hW1 hse
        simp only [q144_59, q144_67, q144_70, as_nil, as_i, as_r, Nat.reduceAdd, Nat.reduceLeDiff, z_eq0, z_eq1, z_or, z_em, Classical.not_not, not_false_eq_true, not_true_eq_false, true_and, and_true, false_and, and_false, and_self, true_implies, false_implies, implies_true, Option.toList_some, Option.toList_none, List.cons_append, List.nil_append, Nat.add_eq_zero_iff, a_nl_i, a_nl_r, a_nl_n, true_or, or_true, eq_self, a_isRA_22, a_isRA_24, a_isRA_32, a_isA_20, ok_4, ok_5, ok_6, ok_7, ok_9, ok_20, ok_21, ok_30, ok_50, ok_180, ok_192, ok_200]
        try simp only [true_and, and_true, true_implies, false_implies, implies_true, not_true_eq_false, not_false_eq_true]
        first
          | exact hn
          | grind
    clear ih hN hV hexit hc hc1 hc2 ap ap2 hrw ho hol hol1 hW hW1 hse bl bm
    simp only [q144_26, q144_27, q144_28, q144_31, q144_32, q144_35, q144_36, q144_37, q144_40, q144_41, q144_42, q144_45, q144_46, q144_47, q144_50, q144_51, q144_52, q144_55, q144_56, k_22 hS, z_22, r_22_4 hS, k_25 hS, l_25 hS, z_25, r_22_5 hS, k_26 hS, l_26 hS, z_26, r_22_0 hS, k_14 hS, z_14, as_nil, as_i, as_r, Nat.reduceAdd, Nat.reduceLeDiff, z_eq0, z_eq1, z_or, z_em, Classical.not_not, not_false_eq_true, not_true_eq_false, true_and, and_true, false_and, and_false, and_self, true_implies, false_implies, implies_true, Option.toList_some, Option.toList_none, List.cons_append, List.nil_append, Nat.add_eq_zero_iff, a_nl_i, a_nl_r, a_nl_n, true_or, or_true, eq_self, a_isRA_22, a_isRA_24, a_isRA_32, a_isA_20, ok_4, ok_5, ok_6, ok_7, ok_9, ok_20, ok_21, ok_30, ok_50, ok_180, ok_192, ok_200, ui_ap, cc_ne, cc_n0, cc_0n, Nat.reduceEqDiff, reduceIte, if_true, if_false, kb, b0, na, nb, hi30, f13, f14, eJ]
    try simp only [true_and, and_true, true_implies, false_implies, implies_true, not_true_eq_false, not_false_eq_true]
    first
      | exact hcall
      | grind
  clear ih hN hV hc hrw ho hol hW hse
  rw [q144_7]
  repeat' first
    | with_reducible apply And.intro
    | with_reducible assumption
    | with_reducible intro _
    | refine hexit ?_ _ _
    | refine hin ?_ _ _
    | simp only [q144_8, q144_9, q144_12, q144_15, q144_18, q144_19, q144_22, q144_23, k_22 hS, z_22, r_22_0 hS, k_14 hS, z_14, sp_askAt hS gA, as_nil, as_i, as_r, Nat.reduceAdd, Nat.reduceLeDiff, z_eq0, z_eq1, z_or, z_em, Classical.not_not, not_false_eq_true, not_true_eq_false, true_and, and_true, false_and, and_false, and_self, true_implies, false_implies, implies_true, Option.toList_some, Option.toList_none, List.cons_append, List.nil_append, Nat.add_eq_zero_iff, a_nl_i, a_nl_r, a_nl_n, true_or, or_true, eq_self, a_isRA_22, a_isRA_24, a_isRA_32, a_isA_20, ok_4, ok_5, ok_6, ok_7, ok_9, ok_20, ok_21, ok_30, ok_50, ok_180, ok_192, ok_200, e4]
  all_goals ((try clear hexit); (try clear hin); (try clear hT); (try clear hS); (try clear gA); (try clear gB); (try clear gX); grind [ui_ap])
theorem now8s {v : Int32} (h : 0 ≤ v ∧ v ≤ 1600) : 0 ≤ v / 8 + 1 ∧ v / 8 + 1 ≤ 202 := by
  have c0 : (0 : Int32).toInt = 0 := rfl
  have c1 : (1 : Int32).toInt = 1 := rfl
  have c8 : (8 : Int32).toInt = 8 := rfl
  have c2 : (1600 : Int32).toInt = 1600 := rfl
  have c3 : (202 : Int32).toInt = 202 := rfl
  have e0 := Int32.le_iff_toInt_le.mp h.1
  have e1 := Int32.le_iff_toInt_le.mp h.2
  have e := ti_div h.1 (show (0 : Int32) < 8 by decide)
  rw [c8] at e
  have e2 : (v / 8 + 1).toInt = (v / 8).toInt + 1 := by rw [ti_add (by omega)]; omega
  exact ⟨by rw [Int32.le_iff_toInt_le]; omega, by rw [Int32.le_iff_toInt_le]; omega⟩
/-- AGAIN, whole -/
theorem ce_planAgain (hH : cH C c (n + 1) t K L I R) (hc : cpP C K L I R Y) (hse : seP C R Y) (hQ : ∀ i : Int32, 0 ≤ i → i < Y 0 17 → ¬ Q (R (C + 15) i.toNatClampNeg)) (hP : ∀ n' t' K' L' J R', cH C c (n' + 1) t' K' L' J R' → cpP C K' L' J R' (agY Y).1 → sbE Y (agY Y).1 → seP C R' Y → fZ C (n + 1) K Q I R (n' + 1) K' J R' → P (some (.int (Int32.ofNat (agY Y).2))) (n' + 1, t', K', L', J, R')) : a_does (d + 8) 144 [a_rf (C + 22)] (n + 1, t, K, L, I, R) P := by
  have hT := hH.1
  have hS := hT.s
  have h17 := hc.2.2.2.2.2.2.2.2.1
  have hnow : 0 ≤ Y 0 0 ∧ Y 0 0 ≤ 1600 := by rw [← hc.1.1]; exact hT.g_now
  have hf := now8s hnow
  have hT1 := sT_Planner_orderSize hT (v := 0) (by decide)
  have hc1 := cp_sc hT hc (k := 22) (j := 6) (v := 0) (by omega) (by omega)
  have hl := fun u w => le_planAgain_7 (d := d) (c := c) (P := P) (Y := Y) (Q := Q) (I0 := I) (n0 := n + 1) (K0 := K) (R0 := R) (fun n' t' K' L' J' R1 u v w hH' hc' hb' hse' h6' hm' ho' hrw' hol' hz' hQ' => by
    have hS' := hH'.1.s
    have hg := le_planAgain_77 (d := d) (n := n') (t := t') (P := P) (Q := Q) (I0 := I) (n0 := n + 1) (K0 := K) (R0 := R) hH' hse' hQ' hf rfl (o := (agP Y).2.1) hm' ho' hrw'.2 (V := agY Y) (fun J2 hT2 hc2 hb2 hz2 => hP n' t' K' L' J2 R1 (cH_J hH' hT2) hc2 hb2 hse' hz2) (agP Y).2.2 0 J' (agP Y).1 0 w (by omega) hH'.1 hc' hb' (Nat.le_refl _) h6' hz' (fun j hj => hol' _ (ho' j hj).2.1 (ho' j hj).2.2) (fun j _ hj => of_decide_eq_true (hrw'.1 j hj).2) rfl
    have e0 : Int32.ofNat 0 = 0 := rfl
    rw [e0] at hg
    clear hP hc hc' hc1 hse hse' ho' hrw' hol'
    simp only [q144_73, q144_74, q144_75, q144_76, as_nil, as_i, as_r, Nat.reduceAdd, Nat.reduceLeDiff, z_eq0, z_eq1, z_or, z_em, Classical.not_not, not_false_eq_true, not_true_eq_false, true_and, and_true, false_and, and_false, and_self, true_implies, false_implies, implies_true, Option.toList_some, Option.toList_none, List.cons_append, List.nil_append, Nat.add_eq_zero_iff, a_nl_i, a_nl_r, a_nl_n, true_or, or_true, eq_self, a_isRA_22, a_isRA_24, a_isRA_32, a_isA_20, ok_4, ok_5, ok_6, ok_7, ok_9, ok_20, ok_21, ok_30, ok_50, ok_180, ok_192, ok_200]
    exact hg) 0 (by decide) n t K L (a_ui I (C + 22) 6 0) R Y u w 0 (fun _ => 0) (by decide) h17.1 (cH_J hH hT1) hc1 (fun _ _ _ => rfl) hse (by rw [ui_ap, if_pos ⟨rfl, rfl⟩]; rfl) (Nat.zero_le _) (fun j hj => absurd hj (Nat.not_lt_zero j)) rw_0 (fun x x0 x1 => absurd (Int32.lt_of_le_of_lt x0 x1) (by decide)) (fun x _ _ => ⟨rfl, rfl⟩) (fz_ui (fz_refl hH) hT (by omega)) hQ (by rw [lp_0]; rfl)
  clear hP hc hc1 hse
  rw [a_enter1 (M := a_m144) rfl (a_cat_rf a_cat_nil) (show 1 ≤ 4 by decide)]
  show a_at _ (a_xm a_m144) 0 [some (a_rf (C + 22)), none, none, none] [] _ _
  simp only [q144_0, q144_1, q144_2, q144_5, q144_6, k_22 hS, z_22, as_nil, as_i, as_r, Nat.reduceAdd, Nat.reduceLeDiff, z_eq0, z_eq1, z_or, z_em, Classical.not_not, not_false_eq_true, not_true_eq_false, true_and, and_true, false_and, and_false, and_self, true_implies, false_implies, implies_true, Option.toList_some, Option.toList_none, List.cons_append, List.nil_append, Nat.add_eq_zero_iff, a_nl_i, a_nl_r, a_nl_n, true_or, or_true, eq_self, a_isRA_22, a_isRA_24, a_isRA_32, a_isA_20, ok_4, ok_5, ok_6, ok_7, ok_9, ok_20, ok_21, ok_30, ok_50, ok_180, ok_192, ok_200]
  exact hl _ _
end YI0
end
section
/-! AGAIN: the reference -/
section YJ0
variable {d n t M : Nat} {K L : Nat → Nat} {I I0 J J0 J1 J2 : Nat → Nat → Int32} {R : Nat → Nat → Nat} {P : Option Value → AH → Prop} {f : Nat → Int32} {e : Int32}
variable {Y Z W : Nat → Nat → Int32}
/-- who had a place and has none -/
def lqB (Y Z : Nat → Nat → Int32) (x : Int32) : Bool := decide (0 ≤ Y 20 x.toNatClampNeg ∧ ¬ 0 ≤ Z 20 x.toNatClampNeg)
theorem agS_20 {x n : Nat} : ∀ (k : Nat) (a : Int32) (p : (Nat → Nat → Int32) × (Nat → Int32) × Nat), 0 ≤ a → a.toNatClampNeg + k = n → n ≤ 30 → x < a.toNatClampNeg → (agS k a p).1 20 x = p.1 20 x := by
  intro k
  induction k with
  | zero => intro a p _ _ _ _; rfl
  | succ k ih =>
    intro a p h0 h1 h2 hx
    have w : a < 30 := cl_lt2 h0 (by decide) (by rw [show (30 : Int32).toNatClampNeg = 30 from rfl]; omega)
    obtain ⟨-, s2, -, s4⟩ := lp_st h0 w
    unfold agS
    rw [ih (a + 1) _ s2 (by omega) h2 (by omega)]
    by_cases c : agB p.1 a = true
    · rw [if_pos c]
      exact un_o (Or.inr (by omega))
    · rw [if_neg c]
/-- the row is that of who lost a place -/
theorem agS_or {n : Nat} (h2 : n ≤ 30) : ∀ (k : Nat) (a : Int32) (W : Nat → Nat → Int32) (o : Nat → Int32) (m : Nat), 0 ≤ a → a.toNatClampNeg + k = n → sbE Y W → (∀ j, a.toNatClampNeg ≤ j → W 20 j = Y 20 j) → (agS k a (W, o, m)).2 = orF Y (lqB Y (agS k a (W, o, m)).1) k a (o, m) := by
  intro k
  induction k with
  | zero => intro a W o m _ _ _ _; rfl
  | succ k ih =>
    intro a W o m h0 h1 hb hW
    have w : a < 30 := cl_lt2 h0 (by decide) (by rw [show (30 : Int32).toNatClampNeg = 30 from rfl]; omega)
    obtain ⟨-, s2, -, s4⟩ := lp_st h0 w
    have e20 : ∀ p, (agS k (a + 1) p).1 20 a.toNatClampNeg = p.1 20 a.toNatClampNeg := fun p => agS_20 (n := n) k (a + 1) p s2 (by omega) h2 (by omega)
    unfold agS orF
    by_cases c : agB W a = true
    · have hq : lqB Y (agS k (a + 1) (unY W a, inS W a m o, m + 1)).1 a = true := decide_eq_true ⟨by rw [← hW _ (Nat.le_refl _)]; exact (of_decide_eq_true c).1.1, by rw [e20]; show ¬ 0 ≤ unY W a 20 a.toNatClampNeg; rw [un_a (Or.inl rfl)]; decide⟩
      have hi := ih (a + 1) (unY W a) (inS W a m o) (m + 1) s2 (by omega) (sb_tr hb unY_b) (fun j hj => by rw [un_o (Or.inr (by omega))]; exact hW j (by omega))
      rw [if_pos c, if_pos hq, hi, inS_b hb]
    · have hq : ¬ lqB Y (agS k (a + 1) (W, o, m)).1 a = true := fun q => by
        have := of_decide_eq_true q
        rw [e20] at this
        exact this.2 (by show 0 ≤ W 20 a.toNatClampNeg; rw [hW _ (Nat.le_refl _)]; exact this.1)
      have hi := ih (a + 1) W o m s2 (by omega) hb (fun j hj => hW j (by omega))
      rw [if_neg c, if_neg hq, hi]
theorem orF_b (hb : sbE Y W) {q : Int32 → Bool} : ∀ (k : Nat) (a : Int32) (p : (Nat → Int32) × Nat), orF W q k a p = orF Y q k a p := by
  intro k
  induction k with
  | zero => intro a p; rfl
  | succ k ih =>
    intro a p
    unfold orF
    rw [ih, inS_b hb]
theorem agP_or (h17 : 0 ≤ Y 0 17 ∧ Y 0 17 ≤ 30) : (agP Y).2 = orF Y (lqB Y (agP Y).1) (Y 0 17).toNatClampNeg 0 (fun _ => 0, 0) := by
  have l30 := cl_le0 h17.1 h17.2
  exact agS_or (Y := Y) (n := (Y 0 17).toNatClampNeg) l30 (Y 0 17).toNatClampNeg 0 Y (fun _ => 0) 0 (by decide) (by rw [show (0 : Int32).toNatClampNeg = 0 from rfl, Nat.zero_add]) (fun _ _ _ => rfl) (fun _ _ => rfl)
/-- finding an order changes the row alone -/
def foP (M : Nat) (I J : Nat → Nat → Int32) : Prop := mR M J ∧ ∀ x j, ¬ x = (M + 40) → ¬ (x = M ∧ j = 64) → J x j = I x j
theorem fo_order (h : foP M I J) {k : Nat} {v : Int32} (hv : 0 ≤ v ∧ v ≤ 29) : foP M I (a_ui J (M + 40) k v) := ⟨sR_order h.1 hv, fun x j h1 h2 => by rw [ui_ap, if_neg (fun e => h1 e.1)]; exact h.2 x j h1 h2⟩
theorem fo_orderMany (h : foP M I J) {v : Int32} : foP M I (a_ui J M 64 v) := ⟨sR_orderMany h.1, fun x j h1 h2 => by rw [ui_ap, if_neg (fun e => h2 e)]; exact h.2 x j h1 h2⟩
theorem lf_findOrder_29 (hS : m_S M K L R) {g a m : Int32} (ha : 0 ≤ a ∧ a < 30) (hm : m ≤ a) (hN : ∀ J p, foP M I0 J → J M 64 = m + 1 → a_at (d + 3) (a_xm a_m236) 7 [some (a_rf M), some (.int g), some (.int (a + 1)), some (.int p)] [] (n, t, K, L, J, R) P) : ∀ p : Int32, 0 ≤ p → ∀ J, p ≤ m → J M 64 = m → foP M I0 J → a_at (d + 3) (a_xm a_m236) 29 [some (a_rf M), some (.int g), some (.int a), some (.int p)] [] (n, t, K, L, J, R) P := by
  refine dn_ind 0 (fun p hp ih => ?_)
  intro J hpm hJ hF
  have hR := hF.1
  have g1 := rg_order hR
  have g2 := g1 (p - 1).toNatClampNeg
  rw [q236_29]
  repeat' first
    | with_reducible apply And.intro
    | with_reducible assumption
    | with_reducible intro _
    | with_reducible apply ih
    | with_reducible apply hN
    | with_reducible apply fo_order
    | with_reducible apply fo_orderMany
    | with_reducible apply ct_goesAhead hS hR
    | simp only [q236_0, q236_1, q236_2, q236_5, q236_6, q236_8, q236_9, q236_12, q236_15, q236_16, q236_17, q236_18, q236_19, q236_20, q236_21, q236_24, q236_25, q236_28, q236_30, q236_33, q236_34, q236_35, q236_36, q236_39, q236_40, q236_41, q236_42, q236_43, q236_46, q236_49, q236_50, q236_53, q236_54, q236_55, q236_58, q236_59, q236_60, q236_61, q236_62, q236_63, q236_66, q236_69, q236_70, q236_73, q236_74, q236_75, q236_76, q236_77, q236_78, q236_81, q236_82, q236_83, q236_86, q236_89, q236_92, m_0 hS, m_K hS, mR_order hS, mK_order hS, mL_order hS, as_nil, as_i, as_r, Nat.reduceAdd, Nat.reduceLeDiff, z_eq0, z_eq1, z_or, z_em, Classical.not_not, not_false_eq_true, not_true_eq_false, true_and, and_true, false_and, and_false, and_self, true_implies, false_implies, implies_true, Option.toList_some, Option.toList_none, List.cons_append, List.nil_append, Nat.add_eq_zero_iff, a_nl_i, a_nl_r, a_nl_n, true_or, or_true, eq_self, ok_4, ok_5, ok_6, ok_7, ok_9, ok_10, ok_20, ok_21, ok_24, ok_30, ok_48, ok_50, ok_60, ok_80, ok_120, ok_180, ok_192, ok_200, ok_900, ok_1000, ok_84000]
  all_goals grind [ui_ap]
theorem lf_findOrder_7 (hS : m_S M K L R) {g : Int32} (hP : ∀ J, foP M I0 J → P none (n, t, K, L, J, R)) : ∀ a : Int32, a ≤ 30 → ∀ J p, 0 ≤ a → foP M I0 J → (0 ≤ J M 64 ∧ J M 64 ≤ a) → a_at (d + 3) (a_xm a_m236) 7 [some (a_rf M), some (.int g), some (.int a), p] [] (n, t, K, L, J, R) P := by
  refine up_ind 30 (fun a ha ih => ?_)
  intro J p h0 hF hm
  have g1 := rg_asks hF.1
  rw [q236_7]
  repeat' first
    | with_reducible apply And.intro
    | with_reducible assumption
    | with_reducible intro _
    | with_reducible apply ih
    | with_reducible apply hP
    | with_reducible apply lf_findOrder_29 hS (I0 := I0) (m := J M 64)
    | simp only [q236_0, q236_1, q236_2, q236_5, q236_6, q236_8, q236_9, q236_12, q236_15, q236_16, q236_17, q236_18, q236_19, q236_20, q236_21, q236_24, q236_25, q236_28, q236_30, q236_33, q236_34, q236_35, q236_36, q236_39, q236_40, q236_41, q236_42, q236_43, q236_46, q236_49, q236_50, q236_53, q236_54, q236_55, q236_58, q236_59, q236_60, q236_61, q236_62, q236_63, q236_66, q236_69, q236_70, q236_73, q236_74, q236_75, q236_76, q236_77, q236_78, q236_81, q236_82, q236_83, q236_86, q236_89, q236_92, m_0 hS, m_K hS, mR_order hS, mK_order hS, mL_order hS, as_nil, as_i, as_r, Nat.reduceAdd, Nat.reduceLeDiff, z_eq0, z_eq1, z_or, z_em, Classical.not_not, not_false_eq_true, not_true_eq_false, true_and, and_true, false_and, and_false, and_self, true_implies, false_implies, implies_true, Option.toList_some, Option.toList_none, List.cons_append, List.nil_append, Nat.add_eq_zero_iff, a_nl_i, a_nl_r, a_nl_n, true_or, or_true, eq_self, ok_4, ok_5, ok_6, ok_7, ok_9, ok_10, ok_20, ok_21, ok_24, ok_30, ok_48, ok_50, ok_60, ok_80, ok_120, ok_180, ok_192, ok_200, ok_900, ok_1000, ok_84000]
  all_goals grind [ui_ap]
theorem cf_findOrder (hS : m_S M K L R) (hR : mR M I) {g : Int32} (hP : ∀ J, foP M I J → P none (n, t, K, L, J, R)) : a_does (d + 4) 236 [a_rf M, .int g] (n, t, K, L, I, R) P := by
  have hF : foP M I I := ⟨hR, fun _ _ _ _ => rfl⟩
  rw [a_enter1 (M := a_m236) rfl (a_cat_rf (a_cat_int a_cat_nil)) (show 2 ≤ 4 by decide)]
  show a_at _ (a_xm a_m236) 0 [some (a_rf M), some (.int g), none, none] [] _ _
  repeat' first
    | with_reducible apply And.intro
    | with_reducible assumption
    | with_reducible intro _
    | with_reducible apply lf_findOrder_7 hS hP
    | with_reducible apply fo_orderMany
    | simp only [q236_0, q236_1, q236_2, q236_5, q236_6, q236_8, q236_9, q236_12, q236_15, q236_16, q236_17, q236_18, q236_19, q236_20, q236_21, q236_24, q236_25, q236_28, q236_30, q236_33, q236_34, q236_35, q236_36, q236_39, q236_40, q236_41, q236_42, q236_43, q236_46, q236_49, q236_50, q236_53, q236_54, q236_55, q236_58, q236_59, q236_60, q236_61, q236_62, q236_63, q236_66, q236_69, q236_70, q236_73, q236_74, q236_75, q236_76, q236_77, q236_78, q236_81, q236_82, q236_83, q236_86, q236_89, q236_92, m_0 hS, m_K hS, mR_order hS, mK_order hS, mL_order hS, as_nil, as_i, as_r, Nat.reduceAdd, Nat.reduceLeDiff, z_eq0, z_eq1, z_or, z_em, Classical.not_not, not_false_eq_true, not_true_eq_false, true_and, and_true, false_and, and_false, and_self, true_implies, false_implies, implies_true, Option.toList_some, Option.toList_none, List.cons_append, List.nil_append, Nat.add_eq_zero_iff, a_nl_i, a_nl_r, a_nl_n, true_or, or_true, eq_self, ok_4, ok_5, ok_6, ok_7, ok_9, ok_10, ok_20, ok_21, ok_24, ok_30, ok_48, ok_50, ok_60, ok_80, ok_120, ok_180, ok_192, ok_200, ok_900, ok_1000, ok_84000]
  all_goals grind [ui_ap]
theorem xt_fitsNoMore (hS : m_S M K L R) (hm : moY Y) (h17 : 0 ≤ Y 0 17 ∧ Y 0 17 ≤ 30) (h10 : ∀ j, 0 ≤ Y 10 j ∧ Y 10 j ≤ 4) (hg : gs M I0 I Y) {a : Int32} (ha : 0 ≤ a ∧ a < 30) (hl1 : 1 ≤ Y 10 a.toNatClampNeg) (hP : ∀ J, mC M I J → P (some (.int (if agB Y a = true then 1 else 0))) (n, t, K, L, J, R)) : a_does (d + 11) 248 [a_rf M, .int a] (n, t, K, L, I, R) P := by
  have e20 : I (M + 20) a.toNatClampNeg = Y 20 a.toNatClampNeg := hg.2.2.1 20 _ (by unfold ps1; omega)
  have e21 : I (M + 21) a.toNatClampNeg = Y 21 a.toNatClampNeg := hg.2.2.1 21 _ (by unfold ps1; omega)
  have e0 : I M 0 = Y 0 0 := hg.2.2.1 0 0 (by unfold ps1; omega)
  have es : (agB Y a = true) = ((0 ≤ Y 20 a.toNatClampNeg ∧ ¬ Y 21 a.toNatClampNeg * 8 < Y 0 0) ∧ ¬ ftY Y a (Y 20 a.toNatClampNeg) (Y 21 a.toNatClampNeg) = 0) := propext ⟨fun q => of_decide_eq_true q, fun q => decide_eq_true q⟩
  simp only [es] at hP
  by_cases c1 : 0 ≤ Y 20 a.toNatClampNeg
  · by_cases c2 : Y 21 a.toNatClampNeg * 8 < Y 0 0
    · have hp := hP I (mC_refl hg.1)
      rw [if_neg (fun q => q.1.2 c2)] at hp
      rw [Int32.mul_comm] at c2
      clear hP hm hg
      rw [a_enter1 (M := a_m248) rfl (a_cat_rf (a_cat_int a_cat_nil)) (show 2 ≤ 2 by decide)]
      show a_at _ (a_xm a_m248) 0 [some (a_rf M), some (.int a)] [] _ _
      simp only [q248_0, q248_1, q248_2, q248_5, q248_8, q248_9, q248_10, q248_13, q248_14, q248_15, q248_18, q248_45, q248_46, m_0 hS, m_K hS, mR_atShift hS, mK_atShift hS, mL_atShift hS, sp_hasPlace hS, sp_isBegun hS, as_nil, as_i, as_r, Nat.reduceAdd, Nat.reduceLeDiff, z_eq0, z_eq1, z_or, z_em, Classical.not_not, not_false_eq_true, not_true_eq_false, true_and, and_true, false_and, and_false, and_self, true_implies, false_implies, implies_true, Option.toList_some, Option.toList_none, List.cons_append, List.nil_append, Nat.add_eq_zero_iff, a_nl_i, a_nl_r, a_nl_n, true_or, or_true, eq_self, ok_4, ok_5, ok_6, ok_7, ok_9, ok_10, ok_20, ok_21, ok_24, ok_30, ok_48, ok_50, ok_60, ok_80, ok_120, ok_180, ok_192, ok_200, ok_900, ok_1000, ok_84000, e20, e21, e0, c1, c2, ha]
      try simp only [true_and, and_true, true_implies, false_implies, implies_true, not_true_eq_false, not_false_eq_true]
      first
        | exact hp
        | exact ⟨by decide, hp⟩
        | grind
    · have a30 : a.toNatClampNeg < 30 := a_lt30 ha
      obtain ⟨⟨p1, p2, p3⟩, p4⟩ := hm.2.2.2.1 _ a30 c1
      have hcall : a_does (d + 10) 221 [a_rf M, .int a, .int (Y 20 a.toNatClampNeg), .int (Y 21 a.toNatClampNeg)] (n, t, K, L, I, R) (fun r h' => a_at (d + 10) (a_xm a_m248) 38 [some (a_rf M), some (.int a)] (r.toList ++ []) h' P) := by
        refine xt_fitOf (d := d) hS (moP_of hg.1 hm hg.2.2) (mC_refl hg.1) ha ⟨c1, p4⟩ ⟨p1, by clear hP es; grind⟩ (fun J hJ => ?_)
        rw [ftY_p h17 h10 hg.2.2]
        have hp := hP J hJ
        clear hP hm hg es
        by_cases cf : ftY Y a (Y 20 a.toNatClampNeg) (Y 21 a.toNatClampNeg) = 0
        · rw [if_neg (fun q => q.2 cf)] at hp
          simp only [q248_38, q248_41, q248_42, q248_45, q248_46, as_nil, as_i, as_r, Nat.reduceAdd, Nat.reduceLeDiff, z_eq0, z_eq1, z_or, z_em, Classical.not_not, not_false_eq_true, not_true_eq_false, true_and, and_true, false_and, and_false, and_self, true_implies, false_implies, implies_true, Option.toList_some, Option.toList_none, List.cons_append, List.nil_append, Nat.add_eq_zero_iff, a_nl_i, a_nl_r, a_nl_n, true_or, or_true, eq_self, ok_4, ok_5, ok_6, ok_7, ok_9, ok_10, ok_20, ok_21, ok_24, ok_30, ok_48, ok_50, ok_60, ok_80, ok_120, ok_180, ok_192, ok_200, ok_900, ok_1000, ok_84000, cf]
          try simp only [true_and, and_true, true_implies, false_implies, implies_true, not_true_eq_false, not_false_eq_true]
          first
            | exact hp
            | grind
        · rw [if_pos ⟨⟨c1, c2⟩, cf⟩] at hp
          simp only [q248_38, q248_41, q248_42, q248_45, q248_46, as_nil, as_i, as_r, Nat.reduceAdd, Nat.reduceLeDiff, z_eq0, z_eq1, z_or, z_em, Classical.not_not, not_false_eq_true, not_true_eq_false, true_and, and_true, false_and, and_false, and_self, true_implies, false_implies, implies_true, Option.toList_some, Option.toList_none, List.cons_append, List.nil_append, Nat.add_eq_zero_iff, a_nl_i, a_nl_r, a_nl_n, true_or, or_true, eq_self, ok_4, ok_5, ok_6, ok_7, ok_9, ok_10, ok_20, ok_21, ok_24, ok_30, ok_48, ok_50, ok_60, ok_80, ok_120, ok_180, ok_192, ok_200, ok_900, ok_1000, ok_84000, cf]
          try simp only [true_and, and_true, true_implies, false_implies, implies_true, not_true_eq_false, not_false_eq_true]
          first
            | exact hp
            | grind
      rw [Int32.mul_comm] at c2
      clear hP hm hg es
      rw [a_enter1 (M := a_m248) rfl (a_cat_rf (a_cat_int a_cat_nil)) (show 2 ≤ 2 by decide)]
      show a_at _ (a_xm a_m248) 0 [some (a_rf M), some (.int a)] [] _ _
      simp only [q248_0, q248_1, q248_2, q248_5, q248_8, q248_9, q248_10, q248_13, q248_14, q248_15, q248_18, q248_21, q248_22, q248_23, q248_24, q248_27, q248_28, q248_29, q248_30, q248_33, q248_34, q248_35, m_0 hS, m_K hS, mR_atShift hS, mK_atShift hS, mL_atShift hS, mR_atBench hS, mK_atBench hS, mL_atBench hS, sp_hasPlace hS, sp_isBegun hS, as_nil, as_i, as_r, Nat.reduceAdd, Nat.reduceLeDiff, z_eq0, z_eq1, z_or, z_em, Classical.not_not, not_false_eq_true, not_true_eq_false, true_and, and_true, false_and, and_false, and_self, true_implies, false_implies, implies_true, Option.toList_some, Option.toList_none, List.cons_append, List.nil_append, Nat.add_eq_zero_iff, a_nl_i, a_nl_r, a_nl_n, true_or, or_true, eq_self, ok_4, ok_5, ok_6, ok_7, ok_9, ok_10, ok_20, ok_21, ok_24, ok_30, ok_48, ok_50, ok_60, ok_80, ok_120, ok_180, ok_192, ok_200, ok_900, ok_1000, ok_84000, e20, e21, e0, c1, c2, ha]
      try simp only [true_and, and_true, true_implies, false_implies, implies_true, not_true_eq_false, not_false_eq_true]
      first
        | exact hcall
        | grind
  · have hp := hP I (mC_refl hg.1)
    rw [if_neg (fun q => c1 q.1.1)] at hp
    clear hP hm hg
    rw [a_enter1 (M := a_m248) rfl (a_cat_rf (a_cat_int a_cat_nil)) (show 2 ≤ 2 by decide)]
    show a_at _ (a_xm a_m248) 0 [some (a_rf M), some (.int a)] [] _ _
    simp only [q248_0, q248_1, q248_2, q248_5, q248_45, q248_46, m_0 hS, m_K hS, sp_hasPlace hS, as_nil, as_i, as_r, Nat.reduceAdd, Nat.reduceLeDiff, z_eq0, z_eq1, z_or, z_em, Classical.not_not, not_false_eq_true, not_true_eq_false, true_and, and_true, false_and, and_false, and_self, true_implies, false_implies, implies_true, Option.toList_some, Option.toList_none, List.cons_append, List.nil_append, Nat.add_eq_zero_iff, a_nl_i, a_nl_r, a_nl_n, true_or, or_true, eq_self, ok_4, ok_5, ok_6, ok_7, ok_9, ok_10, ok_20, ok_21, ok_24, ok_30, ok_48, ok_50, ok_60, ok_80, ok_120, ok_180, ok_192, ok_200, ok_900, ok_1000, ok_84000, e20, c1, ha]
    try simp only [true_and, and_true, true_implies, false_implies, implies_true, not_true_eq_false, not_false_eq_true]
    first
      | exact hp
      | exact ⟨by decide, hp⟩
      | grind
theorem xt_again_70 (hS : m_S M K L R) {I1 : Nat → Nat → Int32} (hm : moY Y) (h17 : 0 ≤ Y 0 17 ∧ Y 0 17 ≤ 30) (h10 : ∀ j, 0 ≤ Y 10 j ∧ Y 10 j ≤ 4) (h6 : 0 ≤ Y 0 6 ∧ Y 0 6 ≤ 6) (hl : ∀ i : Int32, 0 ≤ i → i < Y 0 17 → 1 ≤ Y 10 i.toNatClampNeg) {c : Nat} (hc : c + 130 ≤ 84000) {f g : Int32} (hf : 0 ≤ f ∧ f ≤ 202) (ef : Y 0 0 / 8 + 1 = f) {o : Nat → Int32} {m : Nat} (hm30 : m ≤ 30) (ho : ∀ j, j < m → (0 ≤ o j ∧ o j < Y 0 17) ∧ 0 ≤ Y 20 (o j).toNatClampNeg) (hoi : ∀ i j, i < m → j < m → o i = o j → i = j) {V : (Nat → Nat → Int32) × Nat} (hP : ∀ J, mF M (c + 120) I1 J → gs M I0 J V.1 → sbE Y V.1 → inP V.1 → P (some (.int (Int32.ofNat V.2))) (n, t, K, L, J, R)) : ∀ (k i : Nat) (J W : Nat → Nat → Int32) (mv : Nat) (u v : Option Value), i + k = m → mF M (c + 4 * i) I1 J → gs M I0 J W → sbE Y W → inP W → J M 64 = Int32.ofNat m → (∀ j, j < m → J (M + 40) j = o j) → (∀ j, j < m → J (M + 45) (o j).toNatClampNeg = Y 20 (o j).toNatClampNeg ∧ J (M + 46) (o j).toNatClampNeg = Y 21 (o j).toNatClampNeg) → (∀ j, i ≤ j → j < m → ¬ 0 ≤ W 20 (o j).toNatClampNeg) → mv ≤ i → agM o f 199 Y k i (W, mv) = V → a_at (d + 12) (a_xm a_m247) 70 [some (a_rf M), some (.int g), some (.int (Int32.ofNat mv)), some (.int (Int32.ofNat i)), u, v] [] (n, t, K, L, J, R) P := by
  intro k
  induction k with
  | zero =>
    intro i J W mv u uv hk hF hg hb hi h64 hor hwas hun hmv hV
    have e : (W, mv) = V := hV
    subst e
    have hp := hP J (mF_le hF (by omega)) hg hb hi
    have ei : i = m := by omega
    rw [ei]
    clear hP hF hg hb hi hm hor ho hl hwas hun
    rw [q247_70]
    simp only [q247_71, q247_72, q247_75, q247_160, q247_161, m_0 hS, m_K hS, as_nil, as_i, as_r, Nat.reduceAdd, Nat.reduceLeDiff, z_eq0, z_eq1, z_or, z_em, Classical.not_not, not_false_eq_true, not_true_eq_false, true_and, and_true, false_and, and_false, and_self, true_implies, false_implies, implies_true, Option.toList_some, Option.toList_none, List.cons_append, List.nil_append, Nat.add_eq_zero_iff, a_nl_i, a_nl_r, a_nl_n, true_or, or_true, eq_self, ok_4, ok_5, ok_6, ok_7, ok_9, ok_10, ok_20, ok_21, ok_24, ok_30, ok_48, ok_50, ok_60, ok_80, ok_120, ok_180, ok_192, ok_200, ok_900, ok_1000, ok_84000, h64]
    first
      | exact hp
      | exact ⟨fun _ => hp, fun q => absurd (Int32.le_refl _) q⟩
      | grind
  | succ k ih =>
    intro i J W mv u uv hk hF hg hb hi h64 hor hwas hun hmv hV
    have him : i < m := by omega
    obtain ⟨⟨q1, q2⟩, q3⟩ := ho i him
    have o30 : 0 ≤ o i ∧ o i < 30 := ⟨q1, Int32.lt_of_lt_of_le q2 h17.2⟩
    have w17 : W 0 17 = Y 0 17 := hb 0 17 (by unfold sb; omega)
    have w00 : W 0 0 = Y 0 0 := hb 0 0 (by unfold sb; omega)
    have w10 : W 10 = Y 10 := sbE_r hb (by omega)
    have w6 : W 0 6 = Y 0 6 := hb 0 6 (by unfold sb; omega)
    have hok := on_ok (p := i) (by omega)
    have ei := (on_p (p := i) (by omega)).2.2.1
    have ei1 := (on_p (p := i) (by omega)).2.2.2.2.1
    have ev1 := (on_p (p := mv) (by omega)).2.2.2.2.1
    have nle : ¬ Int32.ofNat m ≤ Int32.ofNat i := Int32.not_le.mpr (by rw [on_lt (by omega) (by omega)]; omega)
    have n8 : ¬ (8 : Int32) = 0 := by decide
    have enow : J M 0 = Y 0 0 := (hg.2.2.1 0 0 (by unfold ps1; omega)).trans w00
    have un := hun i (Nat.le_refl _) him
    have hwi := hwas i him
    have ok1 : okB W (o i) f 199 0 = true := by unfold okB; rw [if_pos rfl]
    have hafter : ∀ v Z, giY W (o i) f 199 true = Z → (v = 0 → ¬ 0 ≤ Z 20 (o i).toNatClampNeg) → sbE Y Z → inP Z → (∀ j, i < j → j < m → ¬ 0 ≤ Z 20 (o j).toNatClampNeg) → ∀ J2, mF M (c + 4 * (i + 1)) I1 J2 → gv M J J2 → gs M I0 J2 Z → (v = 0 ∨ v = 1) → a_at (d + 12) (a_xm a_m247) 105 [some (a_rf M), some (.int g), some (.int (Int32.ofNat mv)), some (.int (Int32.ofNat i)), some (.int (o i)), uv] [.int v] (n, t, K, L, J2, R) P := fun v Z eZ hv hbZ hiZ hunZ J2 f2 v2 g2 hv01 => by
      have e20 : J2 (M + 20) (o i).toNatClampNeg = Z 20 (o i).toNatClampNeg := g2.2.2.1 20 _ (by unfold ps1; omega)
      have e21 : J2 (M + 21) (o i).toNatClampNeg = Z 21 (o i).toNatClampNeg := g2.2.2.1 21 _ (by unfold ps1; omega)
      have g45 : ∀ j, J2 (M + 45) j = J (M + 45) j := fun j => v2 _ _ (by unfold evC; omega) (by unfold sC; omega) (by omega) (by omega)
      have g46 : ∀ j, J2 (M + 46) j = J (M + 46) j := fun j => v2 _ _ (by unfold evC; omega) (by unfold sC; omega) (by omega) (by omega)
      have e45 : J2 (M + 45) (o i).toNatClampNeg = Y 20 (o i).toNatClampNeg := (g45 _).trans hwi.1
      have e46 : J2 (M + 46) (o i).toNatClampNeg = Y 21 (o i).toNatClampNeg := (g46 _).trans hwi.2
      unfold agM at hV
      have e1 : ∀ (x : Nat → Nat → Int32) (y : Nat), (x, y).1 = x ∧ (x, y).2 = y := fun _ _ => ⟨rfl, rfl⟩
      rw [(e1 _ _).1, (e1 _ _).2, eZ] at hV
      have hn := fun mv2 (hmv2 : mv2 ≤ i + 1) (hv2 : agM o f 199 Y k (i + 1) (Z, mv2) = V) => ih (i + 1) J2 Z mv2 (some (.int (o i))) (some (.int v)) (by omega) f2 g2 hbZ hiZ (by rw [gv_orderMany v2]; exact h64) (fun j hj => by
        rw [v2 (M + 40) j (by unfold evC; omega) (by unfold sC; omega) (by omega) (by omega)]
        exact hor j hj) (fun j hj => by rw [g45, g46]; exact hwas j hj) (fun j hj hj2 => hunZ j (by omega) hj2) hmv2 hv2
      by_cases cs : Z 20 (o i).toNatClampNeg = Y 20 (o i).toNatClampNeg ∧ Z 21 (o i).toNatClampNeg = Y 21 (o i).toNatClampNeg
      · rw [if_pos cs] at hV
        have hn := hn mv (by omega) hV
        obtain ⟨c1, c2⟩ := cs
        have v1 : v = 1 := hv01.resolve_left (fun q => hv q (by rw [c1]; exact q3))
        subst v1
        have n10 : ¬ (1 : Int32) = 0 := by decide
        clear ih hP hF hg hb hi hm hor ho hl hV f2 g2 v2 hwas hun hbZ hiZ hunZ
        simp only [q247_105, q247_107, q247_108, q247_110, q247_113, q247_114, q247_117, q247_119, q247_120, q247_121, q247_124, q247_126, q247_127, q247_130, q247_131, q247_134, q247_136, q247_137, q247_138, q247_141, q247_143, q247_144, q247_147, q247_148, q247_151, q247_152, q247_153, q247_154, q247_157, m_0 hS, m_K hS, mR_atBench hS, mK_atBench hS, mL_atBench hS, mR_wasBench hS, mK_wasBench hS, mL_wasBench hS, mR_atShift hS, mK_atShift hS, mL_atShift hS, mR_wasShift hS, mK_wasShift hS, mL_wasShift hS, as_nil, as_i, as_r, Nat.reduceAdd, Nat.reduceLeDiff, z_eq0, z_eq1, z_or, z_em, Classical.not_not, not_false_eq_true, not_true_eq_false, true_and, and_true, false_and, and_false, and_self, true_implies, false_implies, implies_true, Option.toList_some, Option.toList_none, List.cons_append, List.nil_append, Nat.add_eq_zero_iff, a_nl_i, a_nl_r, a_nl_n, true_or, or_true, eq_self, ok_4, ok_5, ok_6, ok_7, ok_9, ok_10, ok_20, ok_21, ok_24, ok_30, ok_48, ok_50, ok_60, ok_80, ok_120, ok_180, ok_192, ok_200, ok_900, ok_1000, ok_84000, n10, e20, e21, e45, e46, c1, c2, o30, ei1, Int32.add_zero]
        try simp only [true_and, and_true, true_implies, false_implies, implies_true, not_true_eq_false, not_false_eq_true]
        first
          | exact hn
          | grind
      · rw [if_neg cs] at hV
        have hn := hn (mv + 1) (by omega) hV
        clear ih hP hF hg hb hi hm hor ho hl hV f2 g2 v2 hwas hun hbZ hiZ hunZ
        rcases hv01 with v0 | v0
        · subst v0
          simp only [q247_105, q247_107, q247_108, q247_110, q247_113, q247_114, q247_117, q247_119, q247_120, q247_121, q247_124, q247_126, q247_127, q247_130, q247_131, q247_134, q247_136, q247_137, q247_138, q247_141, q247_143, q247_144, q247_147, q247_148, q247_151, q247_152, q247_153, q247_154, q247_157, m_0 hS, m_K hS, mR_atBench hS, mK_atBench hS, mL_atBench hS, mR_wasBench hS, mK_wasBench hS, mL_wasBench hS, mR_atShift hS, mK_atShift hS, mL_atShift hS, mR_wasShift hS, mK_wasShift hS, mL_wasShift hS, as_nil, as_i, as_r, Nat.reduceAdd, Nat.reduceLeDiff, z_eq0, z_eq1, z_or, z_em, Classical.not_not, not_false_eq_true, not_true_eq_false, true_and, and_true, false_and, and_false, and_self, true_implies, false_implies, implies_true, Option.toList_some, Option.toList_none, List.cons_append, List.nil_append, Nat.add_eq_zero_iff, a_nl_i, a_nl_r, a_nl_n, true_or, or_true, eq_self, ok_4, ok_5, ok_6, ok_7, ok_9, ok_10, ok_20, ok_21, ok_24, ok_30, ok_48, ok_50, ok_60, ok_80, ok_120, ok_180, ok_192, ok_200, ok_900, ok_1000, ok_84000, ei1, ev1]
          try simp only [true_and, and_true, true_implies, false_implies, implies_true, not_true_eq_false, not_false_eq_true]
          first
            | exact hn
            | grind
        · subst v0
          have n10 : ¬ (1 : Int32) = 0 := by decide
          by_cases c1 : Z 20 (o i).toNatClampNeg = Y 20 (o i).toNatClampNeg
          · have c2 : ¬ Z 21 (o i).toNatClampNeg = Y 21 (o i).toNatClampNeg := fun q => cs ⟨c1, q⟩
            simp only [q247_105, q247_107, q247_108, q247_110, q247_113, q247_114, q247_117, q247_119, q247_120, q247_121, q247_124, q247_126, q247_127, q247_130, q247_131, q247_134, q247_136, q247_137, q247_138, q247_141, q247_143, q247_144, q247_147, q247_148, q247_151, q247_152, q247_153, q247_154, q247_157, m_0 hS, m_K hS, mR_atBench hS, mK_atBench hS, mL_atBench hS, mR_wasBench hS, mK_wasBench hS, mL_wasBench hS, mR_atShift hS, mK_atShift hS, mL_atShift hS, mR_wasShift hS, mK_wasShift hS, mL_wasShift hS, as_nil, as_i, as_r, Nat.reduceAdd, Nat.reduceLeDiff, z_eq0, z_eq1, z_or, z_em, Classical.not_not, not_false_eq_true, not_true_eq_false, true_and, and_true, false_and, and_false, and_self, true_implies, false_implies, implies_true, Option.toList_some, Option.toList_none, List.cons_append, List.nil_append, Nat.add_eq_zero_iff, a_nl_i, a_nl_r, a_nl_n, true_or, or_true, eq_self, ok_4, ok_5, ok_6, ok_7, ok_9, ok_10, ok_20, ok_21, ok_24, ok_30, ok_48, ok_50, ok_60, ok_80, ok_120, ok_180, ok_192, ok_200, ok_900, ok_1000, ok_84000, n10, e20, e21, e45, e46, c1, c2, o30, ei1, ev1]
            try simp only [true_and, and_true, true_implies, false_implies, implies_true, not_true_eq_false, not_false_eq_true]
            first
              | exact hn
              | grind
          · simp only [q247_105, q247_107, q247_108, q247_110, q247_113, q247_114, q247_117, q247_119, q247_120, q247_121, q247_124, q247_126, q247_127, q247_130, q247_131, q247_134, q247_136, q247_137, q247_138, q247_141, q247_143, q247_144, q247_147, q247_148, q247_151, q247_152, q247_153, q247_154, q247_157, m_0 hS, m_K hS, mR_atBench hS, mK_atBench hS, mL_atBench hS, mR_wasBench hS, mK_wasBench hS, mL_wasBench hS, mR_atShift hS, mK_atShift hS, mL_atShift hS, mR_wasShift hS, mK_wasShift hS, mL_wasShift hS, as_nil, as_i, as_r, Nat.reduceAdd, Nat.reduceLeDiff, z_eq0, z_eq1, z_or, z_em, Classical.not_not, not_false_eq_true, not_true_eq_false, true_and, and_true, false_and, and_false, and_self, true_implies, false_implies, implies_true, Option.toList_some, Option.toList_none, List.cons_append, List.nil_append, Nat.add_eq_zero_iff, a_nl_i, a_nl_r, a_nl_n, true_or, or_true, eq_self, ok_4, ok_5, ok_6, ok_7, ok_9, ok_10, ok_20, ok_21, ok_24, ok_30, ok_48, ok_50, ok_60, ok_80, ok_120, ok_180, ok_192, ok_200, ok_900, ok_1000, ok_84000, n10, e20, e21, e45, e46, c1, o30, ei1, ev1]
            try simp only [true_and, and_true, true_implies, false_implies, implies_true, not_true_eq_false, not_false_eq_true]
            first
              | exact hn
              | grind
    have hlo : 1 ≤ W 10 (o i).toNatClampNeg := by rw [w10]; exact hl _ q1 q2
    have hcall := xt_giveFirst (d := d) (n := n) (t := t) (f := f) (e := 199) (w := 0) (P := fun r h' => a_at (d + 12) (a_xm a_m247) 105 [some (a_rf M), some (.int g), some (.int (Int32.ofNat mv)), some (.int (Int32.ofNat i)), some (.int (o i)), uv] (r.toList ++ []) h' P) hS (moY_b hm hb hi) (by rw [w17]; exact h17) (by rw [w10]; exact h10) (by rw [w6]; exact h6) hF (by omega) o30 hlo hf (by decide) hg (fun J2 f2 v2 g2 => by
      have i2 := inP_gi hi (by rw [w6]; exact h6) (a := o i) (f := f) (e := 199) (ok := true) ⟨hlo, by rw [w10]; exact (h10 _).2⟩ ⟨hf.1, Int32.le_trans hf.2 (by decide)⟩ (by decide)
      rw [ok1] at g2
      simp only [ok1, true_and]
      refine hafter _ _ rfl (fun q => ?_) (sb_tr hb i2.2) i2.1 (fun j hj hj2 => ?_) J2 (mF_le f2 (by omega)) v2 g2 (by by_cases cg : 0 ≤ (gnY W (o i) f 199).2; exact Or.inr (if_pos cg); exact Or.inl (if_neg cg))
      · by_cases cg : 0 ≤ (gnY W (o i) f 199).2
        · rw [if_pos cg] at q
          exact absurd q (by decide)
        · unfold giY
          rw [if_neg (fun z => cg z.2)]
          exact un
      · have hne : ¬ (o j).toNatClampNeg = (o i).toNatClampNeg := fun q => by
          have := hoi j i hj2 him (cl_inj (ho j hj2).1.1 q1 q)
          omega
        unfold giY
        by_cases cg : true = true ∧ 0 ≤ (gnY W (o i) f 199).2
        · rw [if_pos cg]
          unfold puY
          rw [if_neg (fun q => hne q.2), if_neg (by omega), if_neg (by omega)]
          exact hun j (by omega) hj2
        · rw [if_neg cg]
          exact hun j (by omega) hj2)
    have hoi2 := hor i him
    clear ih hP hF hg hb hi hm hor ho hl hV hwas hun hafter
    rw [q247_70]
    simp only [q247_71, q247_72, q247_75, q247_78, q247_79, q247_82, q247_83, q247_84, q247_86, q247_87, q247_89, q247_90, q247_93, q247_95, q247_96, q247_97, q247_98, q247_101, q247_102, m_0 hS, m_K hS, mR_order hS, mK_order hS, mL_order hS, as_nil, as_i, as_r, Nat.reduceAdd, Nat.reduceLeDiff, z_eq0, z_eq1, z_or, z_em, Classical.not_not, not_false_eq_true, not_true_eq_false, true_and, and_true, false_and, and_false, and_self, true_implies, false_implies, implies_true, Option.toList_some, Option.toList_none, List.cons_append, List.nil_append, Nat.add_eq_zero_iff, a_nl_i, a_nl_r, a_nl_n, true_or, or_true, eq_self, ok_4, ok_5, ok_6, ok_7, ok_9, ok_10, ok_20, ok_21, ok_24, ok_30, ok_48, ok_50, ok_60, ok_80, ok_120, ok_180, ok_192, ok_200, ok_900, ok_1000, ok_84000, h64, hoi2, ei, hok, nle, n8, enow, ef]
    try simp only [true_and, and_true, true_implies, false_implies, implies_true, not_true_eq_false, not_false_eq_true]
    first
      | exact hcall
      | grind
theorem xt_again_4 (hS : m_S M K L R) {I1 : Nat → Nat → Int32} (hm : moY Y) (h17 : 0 ≤ Y 0 17 ∧ Y 0 17 ≤ 30) (h10 : ∀ j, 0 ≤ Y 10 j ∧ Y 10 j ≤ 4) (hl : ∀ i : Int32, 0 ≤ i → i < Y 0 17 → 1 ≤ Y 10 i.toNatClampNeg) {c : Nat} (hc : c + 130 ≤ 84000) (hN : ∀ J g a, mF M c I1 J → gs M I0 J (agP Y).1 → sbE Y (agP Y).1 → inP (agP Y).1 → (∀ x : Nat, x < (Y 0 17).toNatClampNeg → 0 ≤ Y 20 x → ¬ 0 ≤ (agP Y).1 20 x → J (M + 45) x = Y 20 x ∧ J (M + 46) x = Y 21 x) → (∀ j, j < 32 → (bq g j = true ↔ (j < (Y 0 17).toNatClampNeg ∧ 0 ≤ Y 20 j ∧ ¬ 0 ≤ (agP Y).1 20 j))) → a_at (d + 12) (a_xm a_m247) 61 [some (a_rf M), some (.int g), some (.int a), none, none, none] [] (n, t, K, L, J, R) P) : ∀ a : Int32, a ≤ 30 → ∀ J W g o m, 0 ≤ a → a ≤ Y 0 17 → mF M c I1 J → gs M I0 J W → sbE Y W → inP W → (∀ x : Nat, x < a.toNatClampNeg → 0 ≤ Y 20 x → ¬ 0 ≤ W 20 x → J (M + 45) x = Y 20 x ∧ J (M + 46) x = Y 21 x) → (∀ x : Nat, a.toNatClampNeg ≤ x → W 20 x = Y 20 x ∧ W 21 x = Y 21 x) → (∀ j, j < 32 → (bq g j = true ↔ (j < a.toNatClampNeg ∧ 0 ≤ Y 20 j ∧ ¬ 0 ≤ W 20 j))) → agS ((Y 0 17).toNatClampNeg - a.toNatClampNeg) a (W, o, m) = agP Y → a_at (d + 12) (a_xm a_m247) 4 [some (a_rf M), some (.int g), some (.int a), none, none, none] [] (n, t, K, L, J, R) P := by
  have l30 := cl_le0 h17.1 h17.2
  rw [show (30 : Int32).toNatClampNeg = 30 from rfl] at l30
  refine up_ind 30 (fun a a30 ih => ?_)
  intro J W g o m h0 h1 hF hg hb hi hwas hW hbit hV
  have w17 : W 0 17 = Y 0 17 := hb 0 17 (by unfold sb; omega)
  have w10 : W 10 = Y 10 := sbE_r hb (by omega)
  have e17 : J M 17 = Y 0 17 := (hg.2.2.1 0 17 (by unfold ps1; omega)).trans w17
  have hexit : ¬ a < Y 0 17 → a_at (d + 12) (a_xm a_m247) 61 [some (a_rf M), some (.int g), some (.int a), none, none, none] [] (n, t, K, L, J, R) P := fun w => by
    obtain ⟨e1, e2⟩ := lp_end h1 w
    rw [e1] at hV
    have e9 : (W, o, m) = agP Y := hV
    rw [← e9] at hN
    rw [e2] at hwas hbit
    exact hN J g a hF hg hb hi hwas hbit
  have hcall : a < Y 0 17 → a_does (d + 12) 248 [a_rf M, .int a] (n, t, K, L, J, R) (fun r h' => a_at (d + 12) (a_xm a_m247) 17 [some (a_rf M), some (.int g), some (.int a), none, none, none] (r.toList ++ []) h' P) := fun w => by
    obtain ⟨s1, s2, s3, s4⟩ := lp_st h0 w
    have ha : 0 ≤ a ∧ a < 30 := ⟨h0, Int32.lt_of_lt_of_le w h17.2⟩
    have aT := cl_lt h0 w
    have hW1 : ∀ x : Nat, (a + 1).toNatClampNeg ≤ x → W 20 x = Y 20 x ∧ W 21 x = Y 21 x := fun x hx => hW x (by omega)
    refine xt_fitsNoMore (d := d + 1) hS (moY_b hm hb hi) (by rw [w17]; exact h17) (by rw [w10]; exact h10) hg ha (by rw [w10]; exact hl a h0 w) (fun J1 c1 => ?_)
    have f1 := mF_C hF c1
    have g1 := gs_C hg c1
    have e17' : J1 M 17 = Y 0 17 := (g1.2.2.1 0 17 (by unfold ps1; omega)).trans w17
    have e20 : J1 (M + 20) a.toNatClampNeg = Y 20 a.toNatClampNeg := (g1.2.2.1 20 _ (by unfold ps1; omega)).trans (hW _ (Nat.le_refl _)).1
    have e21 : J1 (M + 21) a.toNatClampNeg = Y 21 a.toNatClampNeg := (g1.2.2.1 21 _ (by unfold ps1; omega)).trans (hW _ (Nat.le_refl _)).2
    have k45 : ∀ j, J1 (M + 45) j = J (M + 45) j := fun j => c1.2 _ _ (by unfold sC; omega)
    have k46 : ∀ j, J1 (M + 46) j = J (M + 46) j := fun j => c1.2 _ _ (by unfold sC; omega)
    rw [s1] at hV
    unfold agS at hV
    have q1 : ∀ (x : Nat → Nat → Int32) (y : (Nat → Int32) × Nat), (x, y).1 = x ∧ (x, y).2 = y := fun _ _ => ⟨rfl, rfl⟩
    have q2 : ∀ (x : Nat → Int32) (y : Nat), (x, y).1 = x ∧ (x, y).2 = y := fun _ _ => ⟨rfl, rfl⟩
    rw [(q1 _ _).1, (q1 _ _).2, (q2 _ _).1, (q2 _ _).2] at hV
    by_cases ag : agB W a = true
    · rw [if_pos ag] at hV ⊢
      have pa : 0 ≤ Y 20 a.toNatClampNeg := by rw [← (hW _ (Nat.le_refl _)).1]; exact (of_decide_eq_true ag).1.1
      have n10 : ¬ (1 : Int32) = 0 := by decide
      have f2 := sF_wasShift (sF_wasBench f1 (k := a.toNatClampNeg) (v := Y 20 a.toNatClampNeg)) (k := a.toNatClampNeg) (v := Y 21 a.toNatClampNeg)
      have g2 := gs_ui (k := 46) (j := a.toNatClampNeg) (v := Y 21 a.toNatClampNeg) (gs_ui (k := 45) (j := a.toNatClampNeg) (v := Y 20 a.toNatClampNeg) g1 (sR_wasBench g1.1) (by omega) ⟨by unfold ps1; omega, by omega⟩) (sR_wasShift (sR_wasBench g1.1)) (by omega) ⟨by unfold ps1; omega, by omega⟩
      generalize eJ : a_ui (a_ui J1 (M + 45) a.toNatClampNeg (Y 20 a.toNatClampNeg)) (M + 46) a.toNatClampNeg (Y 21 a.toNatClampNeg) = J2 at f2 g2
      have e17'' : J2 M 17 = Y 0 17 := (g2.2.2.1 0 17 (by unfold ps1; omega)).trans w17
      have e20' : J2 (M + 20) a.toNatClampNeg = Y 20 a.toNatClampNeg := (g2.2.2.1 20 _ (by unfold ps1; omega)).trans (hW _ (Nat.le_refl _)).1
      have htake : a_does (d + 12) 186 [a_rf M, .int a] (n, t, K, L, J2, R) (fun r h' => a_at (d + 12) (a_xm a_m247) 49 [some (a_rf M), some (.int g), some (.int a), none, none, none] (r.toList ++ []) h' P) := by
        refine xt_takeFrom (d := d + 10) hS f2 (by omega) ha (fun J3 _ f3 y3 => ?_)
        have f3 := f3 (by rw [e17'']; exact w) (by rw [e20']; exact pa)
        have g3 := yR_gs g2 y3 (unY_p g2.2.2 ha)
        have j45 : ∀ j, J3 (M + 45) j = J2 (M + 45) j := fun j => by
          rw [y3.2.2 45 j (by omega) (by unfold mk0; omega)]
          unfold unY
          rw [if_neg (by omega)]
          rfl
        have j46 : ∀ j, J3 (M + 46) j = J2 (M + 46) j := fun j => by
          rw [y3.2.2 46 j (by omega) (by unfold mk0; omega)]
          unfold unY
          rw [if_neg (by omega)]
          rfl
        have hset := fun j hj => bq_set (k := a.toNatClampNeg) (i := j) (by omega) hj g
        rw [← on_cl h0] at hset
        have hn := ih ha.2 J3 (unY W a) (g ||| ((1 : Int32) <<< (a &&& 31))) (inS W a m o) (m + 1) s2 s3 f3 g3 (sb_tr hb unY_b) (inP_un hi) (fun x hx h20 hun => by
          rw [j45, j46, ← eJ]
          by_cases e : x = a.toNatClampNeg
          · rw [ui_ap, if_neg (by omega), ui_ap, if_pos ⟨rfl, e⟩, ui_ap, if_pos ⟨rfl, e⟩, e]
            exact ⟨rfl, rfl⟩
          · rw [ui_ap, if_neg (by omega), ui_ap, if_neg (fun q => e q.2), ui_ap, if_neg (fun q => e q.2), ui_ap, if_neg (by omega), k45, k46]
            rw [un_o (Or.inr e)] at hun
            exact hwas x (by omega) h20 hun) (fun x hx => by
          rw [un_o (Or.inr (by omega)), un_o (Or.inr (by omega))]
          exact hW1 x hx) (fun j hj => by
          rw [hset j hj, Bool.or_eq_true, hbit j hj, s4]
          by_cases e : j = a.toNatClampNeg
          · rw [e, un_a (Or.inl rfl)]
            exact ⟨fun _ => ⟨by omega, pa, by decide⟩, fun _ => Or.inr (decide_eq_true rfl)⟩
          · rw [un_o (Or.inr e)]
            refine ⟨fun r => ?_, fun r => Or.inl ⟨by omega, r.2⟩⟩
            rcases r with r | r
            · exact ⟨by omega, r.2⟩
            · exact absurd (of_decide_eq_true r) e) hV
        clear ih hN hV hexit hm hF hg hb hi hwas hW hbit f1 g1 f2 g2 f3 g3 y3 hW1 hset
        simp only [q247_49, q247_50, q247_51, q247_52, q247_53, q247_54, q247_55, q247_58, as_nil, as_i, as_r, Nat.reduceAdd, Nat.reduceLeDiff, z_eq0, z_eq1, z_or, z_em, Classical.not_not, not_false_eq_true, not_true_eq_false, true_and, and_true, false_and, and_false, and_self, true_implies, false_implies, implies_true, Option.toList_some, Option.toList_none, List.cons_append, List.nil_append, Nat.add_eq_zero_iff, a_nl_i, a_nl_r, a_nl_n, true_or, or_true, eq_self, ok_4, ok_5, ok_6, ok_7, ok_9, ok_10, ok_20, ok_21, ok_24, ok_30, ok_48, ok_50, ok_60, ok_80, ok_120, ok_180, ok_192, ok_200, ok_900, ok_1000, ok_84000]
        exact hn
      clear ih hN hV hexit hm hF hg hb hi hwas hW hbit f1 g1 f2 g2 hW1
      simp only [q247_17, q247_20, q247_21, q247_24, q247_25, q247_26, q247_29, q247_30, q247_31, q247_32, q247_33, q247_36, q247_37, q247_38, q247_41, q247_42, q247_43, q247_44, q247_45, q247_46, m_0 hS, m_K hS, mR_wasBench hS, mK_wasBench hS, mL_wasBench hS, mR_atBench hS, mK_atBench hS, mL_atBench hS, mR_wasShift hS, mK_wasShift hS, mL_wasShift hS, mR_atShift hS, mK_atShift hS, mL_atShift hS, as_nil, as_i, as_r, Nat.reduceAdd, Nat.reduceLeDiff, z_eq0, z_eq1, z_or, z_em, Classical.not_not, not_false_eq_true, not_true_eq_false, true_and, and_true, false_and, and_false, and_self, true_implies, false_implies, implies_true, Option.toList_some, Option.toList_none, List.cons_append, List.nil_append, Nat.add_eq_zero_iff, a_nl_i, a_nl_r, a_nl_n, true_or, or_true, eq_self, ok_4, ok_5, ok_6, ok_7, ok_9, ok_10, ok_20, ok_21, ok_24, ok_30, ok_48, ok_50, ok_60, ok_80, ok_120, ok_180, ok_192, ok_200, ok_900, ok_1000, ok_84000, ui_ap, ne_MM, ne_M0, ne_0M, Nat.reduceEqDiff, reduceIte, if_true, if_false, n10, e20, e21, ha, eJ]
      try simp only [true_and, and_true, true_implies, false_implies, implies_true, not_true_eq_false, not_false_eq_true]
      first
        | exact htake
        | grind
    · rw [if_neg ag] at hV ⊢
      have hn := ih ha.2 J1 W g o m s2 s3 f1 g1 hb hi (fun x hx h20 hun => by
        rw [k45, k46]
        by_cases e : x = a.toNatClampNeg
        · exact absurd (by rw [e, (hW _ (Nat.le_refl _)).1, ← e]; exact h20) hun
        · exact hwas x (by omega) h20 hun) hW1 (fun j hj => by
        rw [hbit j hj, s4]
        refine ⟨fun r => ⟨by omega, r.2⟩, fun r => ⟨?_, r.2⟩⟩
        by_cases e : j = a.toNatClampNeg
        · exact absurd (by rw [e, (hW _ (Nat.le_refl _)).1, ← e]; exact r.2.1) r.2.2
        · omega) hV
      clear ih hN hV hexit hm hF hg hb hi hwas hW hbit f1 g1 hW1
      simp only [q247_17, q247_55, q247_58, as_nil, as_i, as_r, Nat.reduceAdd, Nat.reduceLeDiff, z_eq0, z_eq1, z_or, z_em, Classical.not_not, not_false_eq_true, not_true_eq_false, true_and, and_true, false_and, and_false, and_self, true_implies, false_implies, implies_true, Option.toList_some, Option.toList_none, List.cons_append, List.nil_append, Nat.add_eq_zero_iff, a_nl_i, a_nl_r, a_nl_n, true_or, or_true, eq_self, ok_4, ok_5, ok_6, ok_7, ok_9, ok_10, ok_20, ok_21, ok_24, ok_30, ok_48, ok_50, ok_60, ok_80, ok_120, ok_180, ok_192, ok_200, ok_900, ok_1000, ok_84000]
      try simp only [true_and, and_true, true_implies, false_implies, implies_true, not_true_eq_false, not_false_eq_true]
      first
        | exact hn
        | grind
  clear ih hN hV hm hF hg hb hi hwas hW hbit
  rw [q247_4]
  repeat' first
    | with_reducible apply And.intro
    | with_reducible assumption
    | with_reducible intro _
    | refine hexit ?_
    | refine hcall ?_
    | simp only [q247_5, q247_6, q247_9, q247_12, q247_13, q247_14, m_0 hS, m_K hS, as_nil, as_i, as_r, Nat.reduceAdd, Nat.reduceLeDiff, z_eq0, z_eq1, z_or, z_em, Classical.not_not, not_false_eq_true, not_true_eq_false, true_and, and_true, false_and, and_false, and_self, true_implies, false_implies, implies_true, Option.toList_some, Option.toList_none, List.cons_append, List.nil_append, Nat.add_eq_zero_iff, a_nl_i, a_nl_r, a_nl_n, true_or, or_true, eq_self, ok_4, ok_5, ok_6, ok_7, ok_9, ok_10, ok_20, ok_21, ok_24, ok_30, ok_48, ok_50, ok_60, ok_80, ok_120, ok_180, ok_192, ok_200, ok_900, ok_1000, ok_84000, e17]
  all_goals ((try clear hexit); (try clear hcall); (try clear hS); grind [ui_ap])
/-- AGAIN -/
theorem xt_again (hS : m_S M K L R) {I1 : Nat → Nat → Int32} (hm : moY Y) (h17 : 0 ≤ Y 0 17 ∧ Y 0 17 ≤ 30) (h10 : ∀ j, 0 ≤ Y 10 j ∧ Y 10 j ≤ 4) (h6 : 0 ≤ Y 0 6 ∧ Y 0 6 ≤ 6) (hl : ∀ i : Int32, 0 ≤ i → i < Y 0 17 → 1 ≤ Y 10 i.toNatClampNeg) (hnow : 0 ≤ Y 0 0 ∧ Y 0 0 ≤ 1600) {c : Nat} (hc : c + 130 ≤ 84000) (hF : mF M c I1 I) (hg : gs M I0 I Y) (hP : ∀ J, mF M (c + 120) I1 J → gs M I0 J (agY Y).1 → sbE Y (agY Y).1 → inP (agY Y).1 → P (some (.int (Int32.ofNat (agY Y).2))) (n, t, K, L, J, R)) : a_does (d + 13) 247 [a_rf M] (n, t, K, L, I, R) P := by
  have l30 := cl_le0 h17.1 h17.2
  rw [show (30 : Int32).toNatClampNeg = 30 from rfl] at l30
  have hf := now8s hnow
  have hor := agP_or h17
  have hl4 := xt_again_4 (d := d) (n := n) (t := t) (P := P) (I0 := I0) hS hm h17 h10 hl hc (fun J g a f1 g1 hb hi hwas hbit => by
    simp only [q247_61, q247_62, q247_63, m_0 hS, m_K hS, as_nil, as_i, as_r, Nat.reduceAdd, Nat.reduceLeDiff, z_eq0, z_eq1, z_or, z_em, Classical.not_not, not_false_eq_true, not_true_eq_false, true_and, and_true, false_and, and_false, and_self, true_implies, false_implies, implies_true, Option.toList_some, Option.toList_none, List.cons_append, List.nil_append, Nat.add_eq_zero_iff, a_nl_i, a_nl_r, a_nl_n, true_or, or_true, eq_self, ok_4, ok_5, ok_6, ok_7, ok_9, ok_10, ok_20, ok_21, ok_24, ok_30, ok_48, ok_50, ok_60, ok_80, ok_120, ok_180, ok_192, ok_200, ok_900, ok_1000, ok_84000]
    have w17 : (agP Y).1 0 17 = Y 0 17 := hb 0 17 (by unfold sb; omega)
    have eo : orF (agP Y).1 (btB g) ((agP Y).1 0 17).toNatClampNeg 0 (fun _ => 0, 0) = (agP Y).2 := by
      rw [w17, orF_b hb, hor]
      refine orF_q (n := Y 0 17) (fun x x0 x1 => ?_) _ 0 _ (by decide) h17.1 (by rw [show (0 : Int32).toNatClampNeg = 0 from rfl, Nat.zero_add])
      have hx := cl_lt x0 x1
      rw [bt_bq x0 (by omega)]
      have := hbit x.toNatClampNeg (by omega)
      unfold lqB
      cases q2 : bq g x.toNatClampNeg with
      | true =>
        exact (decide_eq_true (this.mp q2).2).symm
      | false =>
        refine (decide_eq_false (fun q => ?_)).symm
        rw [this.mpr ⟨hx, q⟩] at q2
        cases q2
    have h1 := ct_findOrder (d := d + 8) (g := g) hS f1 (P := fun r h' => r = none ∧ ∃ J, h' = (n, t, K, L, J, R) ∧ mF M c I1 J) (fun J q _ => ⟨rfl, J, rfl, q⟩)
    have h2 := xt_findOrder (d := d + 8) (g := g) hS (moY_b hm hb hi) (by rw [w17]; exact h17) g1 (P := fun r h' => r = none ∧ ∃ J, h' = (n, t, K, L, J, R) ∧ gs M I0 J (agP Y).1 ∧ J M 64 = Int32.ofNat (agP Y).2.2 ∧ (agP Y).2.2 ≤ 30 ∧ (∀ j, j < (agP Y).2.2 → J (M + 40) j = (agP Y).2.1 j)) (fun J q1 q2 q3 q4 => by
      rw [eo] at q2 q3 q4
      exact ⟨rfl, J, rfl, q1, q2, q3, fun j hj => (q4 j hj).1⟩)
    have h3 := cf_findOrder (d := d + 8) (g := g) hS f1.1.1 (P := fun r h' => ∃ J2, h' = (n, t, K, L, J2, R) ∧ foP M J J2) (fun J2 q => ⟨J2, rfl, q⟩)
    refine (does_and (does_and h1 h2) h3).weaken (fun r h' q => ?_)
    obtain ⟨⟨⟨e1, J1, e2, f2⟩, ⟨-, J2, e3, g2, o1, o2, o3⟩⟩, J3, e4, fo⟩ := q
    subst e1
    subst e2
    cases e3
    cases e4
    have hrw : rwP (lqB Y (agP Y).1) (Y 0 17) (agP Y).2 := by
      rw [hor]
      exact rw_or _ 0 _ (by decide) h17.1 (by rw [show (0 : Int32).toNatClampNeg = 0 from rfl, Nat.zero_add]) rw_0
    have k45 : ∀ j, J1 (M + 45) j = J (M + 45) j := fun j => fo.2 _ _ (by omega) (by omega)
    have k46 : ∀ j, J1 (M + 46) j = J (M + 46) j := fun j => fo.2 _ _ (by omega) (by omega)
    have e00 : Int32.ofNat 0 = 0 := rfl
    have hn := fun u v => xt_again_70 (d := d) (P := P) (I0 := I0) (g := g) hS hm h17 h10 h6 hl hc hf rfl (o := (agP Y).2.1) o2 (fun j hj => ⟨(hrw.1 j hj).1, (of_decide_eq_true (hrw.1 j hj).2).1⟩) hrw.2 (V := agY Y) hP (agP Y).2.2 0 J1 (agP Y).1 0 u v (by omega) (mF_le f2 (by omega)) g2 hb hi o1 o3 (fun j hj => by
      rw [k45, k46]
      have q := of_decide_eq_true (hrw.1 j hj).2
      exact hwas _ (cl_lt (hrw.1 j hj).1.1 (hrw.1 j hj).1.2) q.1 q.2) (fun j _ hj => (of_decide_eq_true (hrw.1 j hj).2).2) (Nat.le_refl _) rfl
    rw [e00] at hn
    clear hP hm hg g1 g2 hl hF f1 f2 hwas hbit hrw fo
    simp only [q247_66, q247_67, q247_68, q247_69, as_nil, as_i, as_r, Nat.reduceAdd, Nat.reduceLeDiff, z_eq0, z_eq1, z_or, z_em, Classical.not_not, not_false_eq_true, not_true_eq_false, true_and, and_true, false_and, and_false, and_self, true_implies, false_implies, implies_true, Option.toList_some, Option.toList_none, List.cons_append, List.nil_append, Nat.add_eq_zero_iff, a_nl_i, a_nl_r, a_nl_n, true_or, or_true, eq_self, ok_4, ok_5, ok_6, ok_7, ok_9, ok_10, ok_20, ok_21, ok_24, ok_30, ok_48, ok_50, ok_60, ok_80, ok_120, ok_180, ok_192, ok_200, ok_900, ok_1000, ok_84000]
    exact hn _ _) 0 (by decide) I Y 0 (fun _ => 0) 0 (by decide) h17.1 hF hg (fun _ _ _ => rfl) hm.2.2.2.1 (fun x hx => absurd hx (Nat.not_lt_zero x)) (fun _ _ => ⟨rfl, rfl⟩) (fun j hj => by
    rw [bq_0, show (0 : Int32).toNatClampNeg = 0 from rfl]
    exact ⟨fun q => absurd q Bool.false_ne_true, fun q => absurd q.1 (Nat.not_lt_zero j)⟩) (by rw [lp_0]; rfl)
  clear hP hm hg hl hF
  rw [a_enter1 (M := a_m247) rfl (a_cat_rf a_cat_nil) (show 1 ≤ 6 by decide)]
  show a_at _ (a_xm a_m247) 0 [some (a_rf M), none, none, none, none, none] [] _ _
  simp only [q247_0, q247_1, q247_2, q247_3, as_nil, as_i, as_r, Nat.reduceAdd, Nat.reduceLeDiff, z_eq0, z_eq1, z_or, z_em, Classical.not_not, not_false_eq_true, not_true_eq_false, true_and, and_true, false_and, and_false, and_self, true_implies, false_implies, implies_true, Option.toList_some, Option.toList_none, List.cons_append, List.nil_append, Nat.add_eq_zero_iff, a_nl_i, a_nl_r, a_nl_n, true_or, or_true, eq_self, ok_4, ok_5, ok_6, ok_7, ok_9, ok_10, ok_20, ok_21, ok_24, ok_30, ok_48, ok_50, ok_60, ok_80, ok_120, ok_180, ok_192, ok_200, ok_900, ok_1000, ok_84000]
  exact hl4
end YJ0
end
section
/-! the whole coupling -/
section YK0
variable {d n t C : Nat} {K L : Nat → Nat} {I I0 J J0 J1 J2 : Nat → Nat → Int32} {R : Nat → Nat → Nat} {P : Option Value → AH → Prop}
variable {Y Z W : Nat → Nat → Int32} {R' R1 : Nat → Nat → Nat} {K' L' : Nat → Nat}
/-- marks, readers, wishes of the class -/
def siM (C : Nat) (I Y : Nat → Nat → Int32) : Prop := (I (C + 22) 8 = Y 0 10 ∧ I (C + 17) 5 = Y 0 11) ∧ (∀ k, k < 180 → I (C + 20) k = if Y 38 k = 0 then -9 else Y 36 k) ∧ (∀ r g : Nat, r < 6 → g < 10 → (bq (I (C + 18) r) g = true ↔ ¬ Y 35 (10 * r + g) = 0)) ∧ (∀ r a : Nat, r < 6 → a < 30 → (bq (I (C + 19) r) a = true ↔ ¬ Y 37 (30 * r + a) = 0)) ∧ (∀ a o : Nat, a < 30 → o < 30 → (bq (I (C + 36) a) o = true ↔ ¬ Y 47 (30 * a + o) = 0))
/-- trips, tape, row of the class -/
def siT (C : Nat) (I Y : Nat → Nat → Int32) : Prop := (I (C + 1) 5 = Y 0 2 ∧ ∀ j, j < (Y 0 2).toNatClampNeg → I (C + 4) j = Y 2 j ∧ I (C + 5) j = Y 2 j + Y 3 j - 1 ∧ I (C + 6) j = Y 4 j) ∧ (I (C + 11) 2 = Y 0 40 ∧ ∀ j, I (C + 12) j = Y 27 j) ∧ (I C 10 = Y 0 79 ∧ ∀ j, j < (Y 0 79).toNatClampNeg → I (C + 43) j = Y 52 j)
/-- the draft of the class, none of the asks -/
def siD (C : Nat) (K : Nat → Nat) (I : Nat → Nat → Int32) (R : Nat → Nat → Nat) (Y : Nat → Nat → Int32) : Prop := (R C 11 = 0 ↔ Y 0 12 = 0) ∧ (¬ R C 11 = 0 → K (R C 11) = 1 ∧ (I (R C 11) 0 = Y 0 13 ∧ I (R C 11) 1 = Y 0 14 ∧ I (R C 11) 2 = Y 0 15 ∧ I (R C 11) 3 = Y 0 16) ∧ (I (R C 11) 12 = -9 ∧ I (R C 11) 13 = -9 ∧ I (R C 11) 14 = -9 ∧ I (R C 11) 15 = 0 ∧ I (R C 11) 16 = 0) ∧ ∀ i : Int32, 0 ≤ i → i < Y 0 17 → ¬ R (C + 15) i.toNatClampNeg = R C 11)
/-- of marks told: those that count are told, none of an ASK to come, three of one ASK at most -/
def siY (Y : Nat → Nat → Int32) : Prop := (∀ k, ¬ Y 38 k = 0 → ¬ Y 37 k = 0) ∧ (∀ r a : Nat, r < 6 → a < 30 → (Y 0 17).toNatClampNeg ≤ a → Y 37 (30 * r + a) = 0) ∧ (∀ a : Nat, a < 30 → sm (fun r => if Y 37 (30 * r + a) = 0 then 0 else 1) 6 ≤ 3) ∧ (∀ a o : Nat, a < 30 → o < 30 → (Y 0 17).toNatClampNeg ≤ a → Y 47 (30 * a + o) = 0) ∧ tsY Y ∧ (∀ j, j < (Y 0 2).toNatClampNeg → (0 ≤ Y 2 j ∧ Y 2 j ≤ 1600) ∧ (1 ≤ Y 3 j ∧ Y 3 j ≤ 60)) ∧ (∀ k, Y 47 k = 0 ∨ Y 47 k = 1) ∧ ∀ j, j < (Y 0 2).toNatClampNeg → Y 4 j ≤ Y 0 0
def siP (C : Nat) (K : Nat → Nat) (I : Nat → Nat → Int32) (R : Nat → Nat → Nat) (Y : Nat → Nat → Int32) : Prop := siM C I Y ∧ siT C I Y ∧ siD C K I R Y ∧ siY Y
/-- texts struck; no two texts are one -/
def stP (C : Nat) (I : Nat → Nat → Int32) (R : Nat → Nat → Nat) (Y : Nat → Nat → Int32) : Prop := (∀ i : Int32, 0 ≤ i → i < Y 0 41 → (¬ I (R (C + 8) i.toNatClampNeg) 4 = 0 ↔ Y 31 i.toNatClampNeg < 1000000)) ∧ ∀ i o : Int32, 0 ≤ i → i < Y 0 41 → 0 ≤ o → o < Y 0 41 → R (C + 8) i.toNatClampNeg = R (C + 8) o.toNatClampNeg → i = o
/-- no place is no bench and no SHIFT -/
def noP (Y : Nat → Nat → Int32) : Prop := ∀ a : Nat, a < 30 → ¬ 0 ≤ Y 20 a → Y 20 a = -9 ∧ Y 21 a = -9
def cuP (C : Nat) (K L : Nat → Nat) (I : Nat → Nat → Int32) (R : Nat → Nat → Nat) (Y : Nat → Nat → Int32) : Prop := cpP C K L I R Y ∧ seP C R Y ∧ siP C K I R Y ∧ noP Y ∧ stP C I R Y
/-- the same but for places -/
def ss (k j : Nat) : Prop := ps1 k j ∧ ¬ k = 20 ∧ ¬ k = 21
def ssE (Y Z : Nat → Nat → Int32) : Prop := ∀ k j, ss k j → Z k j = Y k j
theorem ss_r (h : ssE Y Z) {k : Nat} (hk : (1 ≤ k ∧ k ≤ 19) ∨ (27 ≤ k ∧ k ≤ 31) ∨ (35 ≤ k ∧ k ≤ 38) ∨ k = 47 ∨ k = 52) : Z k = Y k := funext (fun j => h k j (by unfold ss ps1; omega))
theorem ss_refl : ssE Y Y := fun _ _ _ => rfl
theorem ss_tr (h : ssE Y Z) (h2 : ssE Z W) : ssE Y W := fun k j p => (h2 k j p).trans (h k j p)
theorem ss_ps (h : psE Y Z) : ssE Y Z := fun k j p => h.1 k j p.1
theorem ss_b (h : ssE Y Z) : sbE Y Z := fun k j p => h k j (by unfold sb at p; unfold ss ps1; omega)
theorem ss_pu {a b s : Int32} : ssE Y (puY Y a b s) := fun k j p => by
  unfold puY
  rw [if_neg (fun e => p.2.1 e.1), if_neg (fun e => p.2.2 e.1), if_neg (fun e => by have := p.1; unfold ps1 at this; omega)]
theorem ss_un {a : Int32} : ssE Y (unY Y a) := fun k j p => by
  unfold unY
  rw [if_neg (fun e => by have := p.2; omega)]
theorem ss_gi {a f e : Int32} {ok : Bool} : ssE Y (giY Y a f e ok) := by
  unfold giY
  split
  · exact ss_pu
  · exact ss_refl
theorem ss_plS {o : Nat → Int32} {f e : Int32} : ∀ (k i : Nat) (p : (Nat → Nat → Int32) × Nat × (Nat → Int32)), ssE Y p.1 → ssE Y (plS o f e k i p).1 := by
  intro k
  induction k with
  | zero => intro i p h; exact h
  | succ k ih =>
    intro i p h
    unfold plS
    refine ih _ _ ?_
    split
    · exact ss_tr h ss_pu
    · exact h
theorem ss_pl {f e : Int32} : ssE Y (plY Y f e).1 := ss_plS _ _ _ ss_refl
theorem ss_agS : ∀ (k : Nat) (a : Int32) (p : (Nat → Nat → Int32) × (Nat → Int32) × Nat), ssE Y p.1 → ssE Y (agS k a p).1 := by
  intro k
  induction k with
  | zero => intro i p h; exact h
  | succ k ih =>
    intro i p h
    unfold agS
    refine ih _ _ ?_
    split
    · exact ss_tr h ss_un
    · exact h
theorem ss_agM {o : Nat → Int32} {f e : Int32} : ∀ (k i : Nat) (p : (Nat → Nat → Int32) × Nat), ssE Y p.1 → ssE Y (agM o f e Z k i p).1 := by
  intro k
  induction k with
  | zero => intro i p h; exact h
  | succ k ih =>
    intro i p h
    unfold agM
    exact ih _ _ (ss_tr h ss_gi)
theorem ss_ag : ssE Y (agY Y).1 := ss_agM _ _ _ (ss_agS _ _ _ ss_refl)
theorem no_pu {a b s : Int32} (hb : 0 ≤ b) (h : noP Y) : noP (puY Y a b s) := fun x hx hn => by
  rw [pu_pp] at hn ⊢
  by_cases e : x = a.toNatClampNeg
  · rw [e, pp_20] at hn
    exact absurd hb hn
  · rw [pp_o (Or.inr ⟨e, by omega⟩)] at hn ⊢
    rw [pp_o (Or.inr ⟨e, by omega⟩)]
    exact h x hx hn
theorem no_un {a : Int32} (h : noP Y) : noP (unY Y a) := fun x hx hn => by
  by_cases e : x = a.toNatClampNeg
  · rw [e, un_a (Or.inl rfl), un_a (Or.inr rfl)]
    exact ⟨rfl, rfl⟩
  · rw [un_o (Or.inr e)] at hn ⊢
    rw [un_o (Or.inr e)]
    exact h x hx hn
theorem no_gi {a f e : Int32} {ok : Bool} (h : noP Y) : noP (giY Y a f e ok) := by
  unfold giY
  by_cases c : ok = true ∧ 0 ≤ (gnY Y a f e).2
  · rw [if_pos c]
    exact no_pu c.2 h
  · rw [if_neg c]
    exact h
theorem no_plS {o : Nat → Int32} {f e : Int32} : ∀ (k i : Nat) (p : (Nat → Nat → Int32) × Nat × (Nat → Int32)), noP p.1 → noP (plS o f e k i p).1 := by
  intro k
  induction k with
  | zero => intro i p h; exact h
  | succ k ih =>
    intro i p h
    unfold plS
    refine ih _ _ ?_
    by_cases c : shB p.1 (o i) f e = true ∧ 0 ≤ (gnY p.1 (o i) f e).2
    · rw [if_pos c]
      exact no_pu c.2 h
    · rw [if_neg c]
      exact h
theorem no_pl {f e : Int32} (h : noP Y) : noP (plY Y f e).1 := no_plS _ _ _ h
theorem no_agS : ∀ (k : Nat) (a : Int32) (p : (Nat → Nat → Int32) × (Nat → Int32) × Nat), noP p.1 → noP (agS k a p).1 := by
  intro k
  induction k with
  | zero => intro i p h; exact h
  | succ k ih =>
    intro i p h
    unfold agS
    refine ih _ _ ?_
    split
    · exact no_un h
    · exact h
theorem no_agM {o : Nat → Int32} {f e : Int32} : ∀ (k i : Nat) (p : (Nat → Nat → Int32) × Nat), noP p.1 → noP (agM o f e Z k i p).1 := by
  intro k
  induction k with
  | zero => intro i p h; exact h
  | succ k ih =>
    intro i p h
    unfold agM
    exact ih _ _ (no_gi h)
theorem no_ag (h : noP Y) : noP (agY Y).1 := no_agM _ _ _ (no_agS _ _ _ h)
theorem no_ps (h : psE Y Z) (hn : noP Y) : noP Z := by
  unfold noP
  rw [pr_r h (k := 20) (by omega), pr_r h (k := 21) (by omega)]
  exact hn
theorem siM_ss (h : ssE Y Z) (hs : siM C I Y) : siM C I Z := by
  obtain ⟨⟨h1, h2⟩, h3, h4, h5, h6⟩ := hs
  unfold siM
  rw [ss_r h (k := 38) (by omega), ss_r h (k := 36) (by omega), ss_r h (k := 35) (by omega), ss_r h (k := 37) (by omega), ss_r h (k := 47) (by omega), h 0 10 (by unfold ss ps1; omega), h 0 11 (by unfold ss ps1; omega)]
  exact ⟨⟨h1, h2⟩, h3, h4, h5, h6⟩
theorem siT_ss (h : ssE Y Z) (hs : siT C I Y) : siT C I Z := by
  unfold siT
  rw [ss_r h (k := 2) (by omega), ss_r h (k := 3) (by omega), ss_r h (k := 4) (by omega), ss_r h (k := 27) (by omega), ss_r h (k := 52) (by omega), h 0 2 (by unfold ss ps1; omega), h 0 40 (by unfold ss ps1; omega), h 0 79 (by unfold ss ps1; omega)]
  exact hs
theorem siD_ss (h : ssE Y Z) (hs : siD C K I R Y) : siD C K I R Z := by
  unfold siD
  rw [h 0 12 (by unfold ss ps1; omega), h 0 13 (by unfold ss ps1; omega), h 0 14 (by unfold ss ps1; omega), h 0 15 (by unfold ss ps1; omega), h 0 16 (by unfold ss ps1; omega), h 0 17 (by unfold ss ps1; omega)]
  exact hs
theorem siY_ss (h : ssE Y Z) (hs : siY Y) : siY Z := by
  obtain ⟨h1, h2, h3, h4, h5, h6⟩ := hs
  have hb := ss_b h
  unfold siY
  rw [ss_r h (k := 38) (by omega), ss_r h (k := 37) (by omega), ss_r h (k := 47) (by omega), h 0 17 (by unfold ss ps1; omega), h 0 2 (by unfold ss ps1; omega), ss_r h (k := 2) (by omega), ss_r h (k := 3) (by omega), ss_r h (k := 4) (by omega), h 0 0 (by unfold ss ps1; omega)]
  refine ⟨h1, h2, h3, h4, fun x hx => ?_, h6⟩
  rw [hb 0 41 (by unfold sb; omega)] at hx
  rw [wt_b hb, sbE_r hb (k := 29) (by omega)]
  exact h5 x hx
/-- what the reference's exact calls ask for -/
def okY (Y : Nat → Nat → Int32) : Prop := yoP Y ∧ moY Y ∧ (0 ≤ Y 0 0 ∧ Y 0 0 ≤ 1600)
theorem cu_ok (hT : cT C K L I R) (hu : cuP C K L I R Y) : okY Y := by
  have hy := hu.1.2.2.2.2
  obtain ⟨-, -, -, -, h5, h6, -⟩ := hu.2.2.1.2.2.2
  exact ⟨hy, ⟨hy.2.2.2.2.2.2.2.1, h5, h6, hy.2.2.2.2.2.2.1, hy.2.2.2.2.2.2.2.2.1⟩, by rw [← hu.1.1.1]; exact hT.g_now⟩
theorem siP_ss (h : ssE Y Z) (hs : siP C K I R Y) : siP C K I R Z := ⟨siM_ss h hs.1, siT_ss h hs.2.1, siD_ss h hs.2.2.1, siY_ss h hs.2.2.2⟩
/-- asks that the class's row doesn't hold -/
def noA (C : Nat) (R : Nat → Nat → Nat) (Y : Nat → Nat → Int32) (x : Nat) : Prop := ∀ i : Int32, 0 ≤ i → i < Y 0 17 → ¬ R (C + 15) i.toNatClampNeg = x
theorem no_not : ∀ i : Int32, 0 ≤ i → i < Y 0 17 → ¬ noA C R Y (R (C + 15) i.toNatClampNeg) := fun i i0 i1 h => h i i0 i1 rfl
/-- the side stays where places alone change -/
theorem siP_z {m n' : Nat} (hT : cT C K L I R) (hs : siP C K I R Y) (hz : fZ C m K (noA C R Y) I R n' K' J R') : siP C K' J R' Y := by
  have hS := hT.s
  obtain ⟨⟨p1, p2⟩, p3, p4, p5, p6⟩ := hz
  obtain ⟨⟨⟨h1, h2⟩, h3, h4, h5, h6⟩, ⟨⟨t1, t2⟩, ⟨t3, t4⟩, t5, t6⟩, ⟨d1, d2⟩, hy⟩ := hs
  have cin : ∀ k j, (k = 0 ∨ k = 1 ∨ (4 ≤ k ∧ k ≤ 6) ∨ k = 11 ∨ k = 12 ∨ k = 17 ∨ k = 18 ∨ k = 19 ∨ k = 20 ∨ k = 36 ∨ k = 43 ∨ (k = 22 ∧ j = 8)) → J (C + k) j = I (C + k) j := fun k j hk => p5 _ _ (by unfold siX; omega)
  have c0 : J C 10 = I C 10 := cin 0 10 (by omega)
  have r0 : R' C 11 = R C 11 := p6 _ _ (by omega) (by rw [k_0 hS]; decide) (by omega) (by omega) (by omega)
  have r15 : ∀ j, R' (C + 15) j = R (C + 15) j := fun j => p6 _ _ (by omega) (by rw [k_15 hS]; decide) (by omega) (by omega) (by omega)
  refine ⟨⟨⟨by rw [cin _ _ (by omega)]; exact h1, by rw [cin _ _ (by omega)]; exact h2⟩, fun k hk => by rw [cin _ _ (by omega)]; exact h3 k hk, fun r g hr hg => by rw [cin _ _ (by omega)]; exact h4 r g hr hg, fun r a hr ha => by rw [cin _ _ (by omega)]; exact h5 r a hr ha, fun a o ha ho => by rw [cin _ _ (by omega)]; exact h6 a o ha ho⟩, ⟨⟨by rw [cin _ _ (by omega)]; exact t1, fun j hj => by rw [cin _ _ (by omega), cin _ _ (by omega), cin _ _ (by omega)]; exact t2 j hj⟩, ⟨by rw [cin _ _ (by omega)]; exact t3, fun j => by rw [cin _ _ (by omega)]; exact t4 j⟩, by rw [c0]; exact t5, fun j hj => by rw [cin _ _ (by omega)]; exact t6 j hj⟩, ⟨by rw [r0]; exact d1, fun hd => ?_⟩, hy⟩
  rw [r0] at hd ⊢
  obtain ⟨e1, e2, e3, e4⟩ := d2 hd
  have hq : noA C R Y (R C 11) := e4
  have hlt : R C 11 < m := by
    by_cases e : m ≤ R C 11
    · have := p3 _ e
      rw [e1] at this
      cases this
    · omega
  have ej : ∀ j, J (R C 11) j = I (R C 11) j := fun j => p5 _ _ (by unfold siX; exact Or.inr (Or.inr (Or.inr ⟨e1, Or.inr hq⟩)))
  rw [p4 _ hlt]
  simp only [ej]
  refine ⟨e1, e2, e3, fun i i0 i1 => ?_⟩
  rw [r15]
  exact e4 i i0 i1
theorem stP_ss (h : ssE Y Z) (hs : stP C I R Y) : stP C I R Z := by
  unfold stP
  rw [ss_r h (k := 31) (by omega), h 0 41 (by unfold ss ps1; omega)]
  exact hs
theorem stP_f (hc : cpP C K L I R Y) (hs : stP C I R Y) (hJ : ∀ x, K x = 11 → J x 4 = I x 4) (hR : ∀ j, R' (C + 8) j = R (C + 8) j) : stP C J R' Y := by
  refine ⟨fun i i0 i1 => ?_, fun i o i0 i1 o0 o1 e => ?_⟩
  · rw [hR, hJ _ (hc.2.2.2.1.2 i i0 i1).1]
    exact hs.1 i i0 i1
  · rw [hR, hR] at e
    exact hs.2 i o i0 i1 o0 o1 e
theorem stP_z {m n' : Nat} {Q : Nat → Prop} (hT : cT C K L I R) (hc : cpP C K L I R Y) (hs : stP C I R Y) (hz : fZ C m K Q I R n' K' J R') : stP C J R' Y := stP_f hc hs (fun x hx => hz.2.2.2.1 _ _ (by unfold siX; omega)) (fun j => hz.2.2.2.2 _ _ (by have := hz.1; omega) (by rw [k_8 hT.s]; decide) (by omega) (by omega) (by omega))
/-- who stands is the same -/
theorem plP_ps {U V : Int32 → Nat → Int32} (hn : 0 ≤ Y 0 17 ∧ Y 0 17 ≤ 30) (h : psE Y Z) (hp : plP U V Y) : plP U V Z := by
  have z17 : Z 0 17 = Y 0 17 := h.1 0 17 (by unfold ps1; omega)
  have z6 : Z 0 6 = Y 0 6 := h.1 0 6 (by unfold ps1; omega)
  have z20 : Z 20 = Y 20 := pr_r h (k := 20) (by omega)
  have z21 : Z 21 = Y 21 := pr_r h (k := 21) (by omega)
  have z10 : Z 10 = Y 10 := pr_r h (k := 10) (by omega)
  unfold plP
  rw [z17, z6, z20, z21, z10]
  refine ⟨fun o o0 o1 o2 => ?_, hp.2⟩
  obtain ⟨p1, p2, p3, p4⟩ := hp.1 o o0 o1 o2
  refine ⟨p1, p2, p3, fun x x0 x1 => ?_⟩
  rw [h.2 o o0 (Int32.lt_of_lt_of_le o1 hn.2) o2 x x0 x1]
  exact p4 x x0 x1
theorem cp_ps (hT : cT C K L I R) (hc : cpP C K L I R Y) (h : psE Y Z) : cpP C K L I R Z := by
  have hy := hc.2.2.2.2
  refine cp_mk hT hc (psE_b h) (inP_p hy.2.2.2.2.2.2.1 h) (fun _ _ => ⟨rfl, rfl⟩) (fun _ _ _ _ _ _ _ => rfl) (fun _ _ _ => rfl) (fun _ _ _ _ _ => rfl) (fun _ _ _ _ => rfl) (fun _ _ _ => rfl) (fun _ _ _ _ => rfl) (fun i i0 i1 => ?_) (plP_ps hy.2.2.2.2.1 h hc.2.1.2.2.2)
  rw [pr_r h (k := 20) (by omega), pr_r h (k := 21) (by omega)]
  exact (hc.2.2.1.2.2.2 i i0 i1).2.2.2.1
theorem cu_ps (hT : cT C K L I R) (hu : cuP C K L I R Y) (h : psE Y Z) : cuP C K L I R Z := ⟨cp_ps hT hu.1 h, se_b hu.2.1 (psE_b h), siP_ss (ss_ps h) hu.2.2.1, no_ps h hu.2.2.2.1, stP_ss (ss_ps h) hu.2.2.2.2⟩
/-- what the reference's call leaves of the class -/
theorem cu_out (hT : cT C K L I R) (hJ : ∀ x j, (x < C + 44 ∨ C + 44 + 52 < x) → J x j = I x j) (hu : cuP C K L I R Y) : cuP C K L J R Y := by
  have hS := hT.s
  obtain ⟨hc, hse, ⟨⟨⟨h1, h2⟩, h3, h4, h5, h6⟩, ⟨⟨t1, t2⟩, ⟨t3, t4⟩, t5, t6⟩, ⟨d1, d2⟩, hy⟩, hno, hst⟩ := hu
  have cin : ∀ k j, k ≤ 43 → J (C + k) j = I (C + k) j := fun k j hk => hJ _ _ (by omega)
  have c0 : J C 10 = I C 10 := cin 0 10 (by omega)
  have hi : ∀ x j, C + 96 < x → J x j = I x j := fun x j hx => hJ _ _ (by omega)
  refine ⟨cp_fr hT hc (fun k j hk => cin k j (by omega)) (fun x j kx => hi x j (hT.g_ask x kx).1) (fun x j kx _ => hi x j (hT.g_bnc x kx).1) (fun x j kx => hi x j (hT.g_txt x kx).1) (fun k k0 k1 j => hi _ _ (hT.g_txt _ (hc.2.2.2.1.2 k k0 k1).1).2.1) (fun b b0 b1 j => ?_), hse, ⟨⟨⟨by rw [cin _ _ (by omega)]; exact h1, by rw [cin _ _ (by omega)]; exact h2⟩, fun k hk => by rw [cin _ _ (by omega)]; exact h3 k hk, fun r g hr hg => by rw [cin _ _ (by omega)]; exact h4 r g hr hg, fun r a hr ha => by rw [cin _ _ (by omega)]; exact h5 r a hr ha, fun a o ha ho => by rw [cin _ _ (by omega)]; exact h6 a o ha ho⟩, ⟨⟨by rw [cin _ _ (by omega)]; exact t1, fun j hj => by rw [cin _ _ (by omega), cin _ _ (by omega), cin _ _ (by omega)]; exact t2 j hj⟩, ⟨by rw [cin _ _ (by omega)]; exact t3, fun j => by rw [cin _ _ (by omega)]; exact t4 j⟩, by rw [c0]; exact t5, fun j hj => by rw [cin _ _ (by omega)]; exact t6 j hj⟩, ⟨d1, fun hd => ?_⟩, hy⟩, hno, stP_f hc hst (fun x hx => hi _ _ (hT.g_txt x hx).1) (fun _ => rfl)⟩
  · have g := hT.g_bnc _ (hc.2.1.2.2.1 b b0 b1).1
    exact ⟨hi _ _ g.2.1.1, hi _ _ g.2.2.1.1⟩
  · obtain ⟨e1, e2, e3, e4⟩ := d2 hd
    have ej : ∀ j, J (R C 11) j = I (R C 11) j := fun j => hi _ _ (hT.g_ask _ e1).1
    simp only [ej]
    exact ⟨e1, e2, e3, e4⟩
/-- a call that changes nothing but what is kept of texts and hours -/
theorem cu_C (hT : cT C K L I R) (h : dC C K L R I J) (hu : cuP C K L I R Y) {m t c : Nat} (hH : cH C c m t K L I R) : cuP C K L J R Y := ⟨cpP_C hT hu.1 h, hu.2.1, siP_z hT hu.2.2.1 (fz_C (fz_refl hH) hT h), hu.2.2.2.1, stP_z (Q := noA C R Y) hT hu.1 hu.2.2.2.2 (fz_C (fz_refl hH) hT h)⟩
/-- a refusal -/
theorem cu_42 (hT : cT C K L I R) (hu : cuP C K L I R Y) {j : Nat} {v : Int32} {m t c : Nat} (hH : cH C c m t K L I R) : cuP C K L (a_ui I (C + 42) j v) R Y := ⟨cp_sc hT hu.1 (by omega) (by omega), hu.2.1, siP_z hT hu.2.2.1 (fz_ui (fz_refl hH) hT (by omega)), hu.2.2.2.1, stP_z (Q := noA C R Y) hT hu.1 hu.2.2.2.2 (fz_ui (fz_refl hH) hT (by omega))⟩
end YK0
end

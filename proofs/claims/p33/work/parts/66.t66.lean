/-! the class: ORDER, SHARE, the first place -/
section YG0
variable {d n t C : Nat} {K L : Nat → Nat} {I I0 J J0 J1 J2 : Nat → Nat → Int32} {R : Nat → Nat → Nat} {P : Option Value → AH → Prop}
variable {Y Z : Nat → Nat → Int32} {R' R1 : Nat → Nat → Nat}
/-- cells of the class itself that the coupling doesn't look at -/
theorem cp_sc (hT : cT C K L I R) (hc : cpP C K L I R Y) {k j : Nat} {v : Int32} (hk : k ≤ 43) (hn : ¬ k = 1 ∧ ¬ k = 2 ∧ ¬ k = 3 ∧ ¬ k = 7 ∧ ¬ k = 14) : cpP C K L (a_ui I (C + k) j v) R Y := by
  have e : ∀ x i, ¬ x = C + k → a_ui I (C + k) j v x i = I x i := fun x i q => by rw [ui_ap, if_neg (fun z => q z.1)]
  exact cp_fr hT hc (fun k2 j2 h2 => e _ _ (by omega)) (fun x j2 kx => e _ _ (by have := (hT.g_ask x kx).1; omega)) (fun x j2 kx _ => e _ _ (by have := (hT.g_bnc x kx).1; omega)) (fun x j2 kx => e _ _ (by have := (hT.g_txt x kx).1; omega)) (fun k2 k0 k1 j2 => e _ _ (by have := (hT.g_txt _ (hc.2.2.2.1.2 k2 k0 k1).1).2.1; omega)) (fun b b0 b1 j2 => by
    have g := hT.g_bnc _ (hc.2.1.2.2.1 b b0 b1).1
    have g2 := g.2.1.1
    have g3 := g.2.2.1.1
    exact ⟨e _ _ (by omega), e _ _ (by omega)⟩)
/-- nor at these references -/
def rfP (C : Nat) (R R' : Nat → Nat → Nat) : Prop := ∀ x j, ¬ x = C + 23 → ¬ x = C + 28 → ¬ x = C + 38 → R' x j = R x j
theorem cp_rf (hT : cT C K L I R) (hc : cpP C K L I R Y) (hr : rfP C R R') : cpP C K L I R' Y := cp_mk hT hc (fun _ _ _ => rfl) hc.2.2.2.2.2.2.2.2.2.2.1 (fun _ _ => ⟨rfl, rfl⟩) (fun x j _ _ h1 h2 h3 => hr x j h1 h2 h3) (fun _ _ _ => rfl) (fun _ _ _ _ _ => rfl) (fun _ _ _ _ => rfl) (fun _ _ _ => rfl) (fun _ _ _ _ => rfl) (fun o o0 o1 => (hc.2.2.1.2.2.2 o o0 o1).2.2.2.1) hc.2.1.2.2.2
theorem se_rf (hT : cT C K L I R) (hc : cpP C K L I R Y) (hse : seP C R Y) (hr : rfP C R R') : seP C R' Y := by
  have e8 : ∀ j, R' (C + 8) j = R (C + 8) j := fun j => hr _ _ (by omega) (by omega) (by omega)
  have e16 : ∀ j, R' (C + 16) j = R (C + 16) j := fun j => hr _ _ (by omega) (by omega) (by omega)
  have eb : ∀ b : Int32, 0 ≤ b → b < Y 0 6 → ∀ j, R' (R (C + 16) b.toNatClampNeg) j = R (R (C + 16) b.toNatClampNeg) j := fun b b0 b1 j => by
    have := (hT.g_bnc _ (hc.2.1.2.2.1 b b0 b1).1).1
    exact hr _ _ (by omega) (by omega) (by omega)
  have ex : ∀ k : Int32, 0 ≤ k → k < Y 0 41 → ∀ j, R' (R (C + 8) k.toNatClampNeg) j = R (R (C + 8) k.toNatClampNeg) j := fun k k0 k1 j => by
    have := (hT.g_txt _ (hc.2.2.2.1.2 k k0 k1).1).1
    exact hr _ _ (by omega) (by omega) (by omega)
  refine ⟨fun b b0 b1 => ?_, fun b c b0 b1 c0 c1 e => ?_, fun k b k0 k1 b0 b1 => ?_, fun b c b0 b1 c0 c1 => ?_⟩
  · rw [e16, eb b b0 b1, eb b b0 b1, eb b b0 b1]
    exact hse.1 b b0 b1
  · rw [e16, e16] at e
    exact hse.2.1 b c b0 b1 c0 c1 e
  · rw [e8, ex k k0 k1, e16, eb b b0 b1]
    exact hse.2.2.1 k b k0 k1 b0 b1
  · rw [e16, eb b b0 b1, e16]
    exact hse.2.2.2 b c b0 b1 c0 c1
theorem ce_rank {a : Nat} (ha : K a = 1) (an : ¬ a = 0) (hP : P (some (.int (if I a 5 = 5 then 0 else if I a 5 = 3 then 1 else 2))) (n, t, K, L, I, R)) : a_does (d + 1) 122 [a_rf a] (n, t, K, L, I, R) P := by
  have a0 : (a = 0) = False := eq_false an
  rw [a_enter1 (M := a_m122) rfl (a_cat_rf a_cat_nil) (show 1 ≤ 1 by decide)]
  show a_at _ (a_xm a_m122) 0 [some (a_rf a)] [] _ _
  repeat' first
    | with_reducible apply And.intro
    | with_reducible assumption
    | with_reducible intro _
    | with_reducible apply hP
    | simp only [q122_0, q122_1, q122_4, q122_5, q122_8, q122_9, q122_10, q122_11, q122_14, q122_15, q122_18, q122_19, q122_22, q122_23, as_nil, as_i, as_r, Nat.reduceAdd, Nat.reduceLeDiff, z_eq0, z_eq1, z_or, z_em, Classical.not_not, not_false_eq_true, not_true_eq_false, true_and, and_true, false_and, and_false, and_self, true_implies, false_implies, implies_true, Option.toList_some, Option.toList_none, List.cons_append, List.nil_append, Nat.add_eq_zero_iff, a_nl_i, a_nl_r, a_nl_n, true_or, or_true, eq_self, a_isRA_22, a_isRA_24, a_isRA_32, a_isA_20, ok_4, ok_5, ok_6, ok_7, ok_9, ok_20, ok_21, ok_30, ok_50, ok_180, ok_192, ok_200, ha, a0]
  all_goals grind [ui_ap]
theorem ce_isAheadOf (hT : cT C K L I R) {a : Nat} {i : Int32} (ap : aaP C K I Y i a) {b : Nat} {k : Int32} (bp : aaP C K I Y k b) (hP : P (some (.int (if ahB Y i k = true then 1 else 0))) (n, t, K, L, I, R)) : a_does (d + 2) 121 [a_rf a, a_rf b] (n, t, K, L, I, R) P := by
  obtain ⟨-, ⟨ha, an, a4⟩, am, al⟩ := ap
  obtain ⟨-, ⟨hb, bn, b4⟩, bm, bl⟩ := bp
  have a0 : (a = 0) = False := eq_false an
  have b0 : (b = 0) = False := eq_false bn
  have ea : (if I a 5 = 5 then (0 : Int32) else if I a 5 = 3 then 1 else 2) = rkY Y i := by rw [al.1.2.2.2.2]; rfl
  have eb : (if I b 5 = 5 then (0 : Int32) else if I b 5 = 3 then 1 else 2) = rkY Y k := by rw [bl.1.2.2.2.2]; rfl
  have ra := fun (Q : Option Value → AH → Prop) (q : Q (some (.int (rkY Y i))) (n, t, K, L, I, R)) => ce_rank (d := d) (L := L) (R := R) (n := n) (t := t) (P := Q) ha an (by rw [ea]; exact q)
  have rb := fun (Q : Option Value → AH → Prop) (q : Q (some (.int (rkY Y k))) (n, t, K, L, I, R)) => ce_rank (d := d) (L := L) (R := R) (n := n) (t := t) (P := Q) hb bn (by rw [eb]; exact q)
  have am : I a 12 = maY Y i := am
  have bm : I b 12 = maY Y k := bm
  unfold ahB at hP
  clear al bl ea eb hT
  rw [a_enter1 (M := a_m121) rfl (a_cat_rf (a_cat_rf a_cat_nil)) (show 2 ≤ 2 by decide)]
  show a_at _ (a_xm a_m121) 0 [some (a_rf a), some (a_rf b)] [] _ _
  simp only [q121_0, q121_1, as_nil, as_i, as_r, Nat.reduceAdd, Nat.reduceLeDiff, z_eq0, z_eq1, z_or, z_em, Classical.not_not, not_false_eq_true, not_true_eq_false, true_and, and_true, false_and, and_false, and_self, true_implies, false_implies, implies_true, Option.toList_some, Option.toList_none, List.cons_append, List.nil_append, Nat.add_eq_zero_iff, a_nl_i, a_nl_r, a_nl_n, true_or, or_true, eq_self, a_isRA_22, a_isRA_24, a_isRA_32, a_isA_20, ok_4, ok_5, ok_6, ok_7, ok_9, ok_20, ok_21, ok_30, ok_50, ok_180, ok_192, ok_200, ha, a0]
  try simp only [true_and, and_true, true_implies, false_implies, implies_true, not_true_eq_false, not_false_eq_true]
  refine ra _ ?_
  simp only [q121_4, q121_5, as_nil, as_i, as_r, Nat.reduceAdd, Nat.reduceLeDiff, z_eq0, z_eq1, z_or, z_em, Classical.not_not, not_false_eq_true, not_true_eq_false, true_and, and_true, false_and, and_false, and_self, true_implies, false_implies, implies_true, Option.toList_some, Option.toList_none, List.cons_append, List.nil_append, Nat.add_eq_zero_iff, a_nl_i, a_nl_r, a_nl_n, true_or, or_true, eq_self, a_isRA_22, a_isRA_24, a_isRA_32, a_isA_20, ok_4, ok_5, ok_6, ok_7, ok_9, ok_20, ok_21, ok_30, ok_50, ok_180, ok_192, ok_200, hb, b0]
  try simp only [true_and, and_true, true_implies, false_implies, implies_true, not_true_eq_false, not_false_eq_true]
  refine rb _ ?_
  simp only [q121_8, q121_11, q121_12, q121_28, q121_29, q121_32, q121_33, q121_36, q121_39, q121_40, q121_43, q121_44, q121_47, q121_50, q121_51, q121_54, q121_55, q121_56, q121_57, q121_60, q121_61, q121_64, q121_67, q121_68, q121_71, q121_72, as_nil, as_i, as_r, Nat.reduceAdd, Nat.reduceLeDiff, z_eq0, z_eq1, z_or, z_em, Classical.not_not, not_false_eq_true, not_true_eq_false, true_and, and_true, false_and, and_false, and_self, true_implies, false_implies, implies_true, Option.toList_some, Option.toList_none, List.cons_append, List.nil_append, Nat.add_eq_zero_iff, a_nl_i, a_nl_r, a_nl_n, true_or, or_true, eq_self, a_isRA_22, a_isRA_24, a_isRA_32, a_isA_20, ok_4, ok_5, ok_6, ok_7, ok_9, ok_20, ok_21, ok_30, ok_50, ok_180, ok_192, ok_200, ha, a0, hb, b0, am, bm, a4, b4]
  by_cases c : rkY Y i = rkY Y k
  · rw [if_pos c] at hP
    simp only [c]
    try simp only [true_and, and_true, true_implies, false_implies, implies_true, not_true_eq_false, not_false_eq_true]
    clear ra rb am bm
    generalize maY Y i = x at hP ⊢
    generalize maY Y k = y at hP ⊢
    grind
  · rw [if_neg c] at hP
    simp only [c]
    try simp only [true_and, and_true, true_implies, false_implies, implies_true, not_true_eq_false, not_false_eq_true]
    refine ra _ ?_
    simp only [q121_15, q121_16, as_nil, as_i, as_r, Nat.reduceAdd, Nat.reduceLeDiff, z_eq0, z_eq1, z_or, z_em, Classical.not_not, not_false_eq_true, not_true_eq_false, true_and, and_true, false_and, and_false, and_self, true_implies, false_implies, implies_true, Option.toList_some, Option.toList_none, List.cons_append, List.nil_append, Nat.add_eq_zero_iff, a_nl_i, a_nl_r, a_nl_n, true_or, or_true, eq_self, a_isRA_22, a_isRA_24, a_isRA_32, a_isA_20, ok_4, ok_5, ok_6, ok_7, ok_9, ok_20, ok_21, ok_30, ok_50, ok_180, ok_192, ok_200, hb, b0]
    try simp only [true_and, and_true, true_implies, false_implies, implies_true, not_true_eq_false, not_false_eq_true]
    refine rb _ ?_
    simp only [q121_19, q121_22, q121_23, q121_26, q121_27, as_nil, as_i, as_r, Nat.reduceAdd, Nat.reduceLeDiff, z_eq0, z_eq1, z_or, z_em, Classical.not_not, not_false_eq_true, not_true_eq_false, true_and, and_true, false_and, and_false, and_self, true_implies, false_implies, implies_true, Option.toList_some, Option.toList_none, List.cons_append, List.nil_append, Nat.add_eq_zero_iff, a_nl_i, a_nl_r, a_nl_n, true_or, or_true, eq_self, a_isRA_22, a_isRA_24, a_isRA_32, a_isA_20, ok_4, ok_5, ok_6, ok_7, ok_9, ok_20, ok_21, ok_30, ok_50, ok_180, ok_192, ok_200]
    clear ra rb am bm
    grind
/-- the class's row of ORDER -/
def odP (C : Nat) (R : Nat → Nat → Nat) (Y : Nat → Nat → Int32) (o : Nat → Int32) (j : Nat) : Prop := R (C + 23) j = R (C + 15) (o j).toNatClampNeg ∧ 0 ≤ o j ∧ o j < Y 0 17
theorem le_enter_15 (hT0 : cT C K L I R) (hc : cpP C K L I R Y) (hse : seP C R Y) {a : Nat} {i : Int32} (ap : aaP C K I Y i a) (haa : (R (C + 15) i.toNatClampNeg) = a) {m : Nat} (hm30 : m < 30) (h6 : I (C + 22) 6 = Int32.ofNat m) {V : Nat → Int32} (hP : ∀ R2, cT C K L (a_ui I (C + 22) 6 (Int32.ofNat (m + 1))) R2 → rfP C R R2 → (∀ j, j ≤ m → odP C R2 Y V j) → P none (n, t, K, L, a_ui I (C + 22) 6 (Int32.ofNat (m + 1)), R2)) : ∀ (p : Nat) (R1 : Nat → Nat → Nat) (o : Nat → Int32), p ≤ m → cT C K L I R1 → rfP C R R1 → (∀ j, j ≤ m → ¬ j = p → odP C R1 Y o j) → (∀ j, j ≤ m → inS Y i p o j = V j) → a_at (d + 2) (a_xm a_m120) 15 [some (a_rf (C + 22)), some (a_rf a), some (.int (Int32.ofNat p))] [] (n, t, K, L, I, R1) P := by
  obtain ⟨ai, ⟨ha, an0, a4n⟩, -, -⟩ := id ap
  have a0 : (a = 0) = False := eq_false an0
  have r15 : ∀ R1, rfP C R R1 → ∀ j, R1 (C + 15) j = R (C + 15) j := fun R1 h j => h _ _ (by omega) (by omega) (by omega)
  have put : ∀ (p : Nat) (R1 : Nat → Nat → Nat) (o : Nat → Int32), p ≤ m → cT C K L I R1 → rfP C R R1 → (∀ j, j ≤ m → ¬ j = p → odP C R1 Y o j) → (∀ j, j ≤ m → up1 o p i j = V j) → a_at (d + 2) (a_xm a_m120) 54 [some (a_rf (C + 22)), some (a_rf a), some (.int (Int32.ofNat p))] [] (n, t, K, L, I, R1) P := fun p R1 o hp hT1 hr ho hV => by
    have hS := hT1.s
    obtain ⟨-, -, ep, -⟩ := on_p (p := p) (by omega)
    obtain ⟨-, -, -, -, em, -⟩ := on_p (p := m) (by omega)
    have hok : 0 ≤ Int32.ofNat p ∧ Int32.ofNat p < 30 := ⟨Int32.not_lt.mp (fun q => by rw [show (0 : Int32) = Int32.ofNat 0 from rfl, on_lt (by omega) (by omega)] at q; omega), by rw [show (30 : Int32) = Int32.ofNat 30 from rfl, on_lt (by omega) (by omega)]; omega⟩
    have hok2 : 0 ≤ Int32.ofNat (m + 1) ∧ Int32.ofNat (m + 1) ≤ 30 := ⟨Int32.not_lt.mp (fun q => by rw [show (0 : Int32) = Int32.ofNat 0 from rfl, on_lt (by omega) (by omega)] at q; omega), Int32.not_lt.mp (fun q => by rw [show (30 : Int32) = Int32.ofNat 30 from rfl, on_lt (by omega) (by omega)] at q; omega)⟩
    have hT2 : cT C K L I (a_ur R1 (C + 23) p a) := sT_Rorder hT1 (Or.inr ha)
    have hf := hP (a_ur R1 (C + 23) p a) (sT_Planner_orderSize hT2 hok2) (fun x j q1 q2 q3 => by rw [ur_ap, if_neg (fun e => q1 e.1)]; exact hr x j q1 q2 q3) (fun j hj => by
      have hv := hV j hj
      unfold odP
      rw [← hv, ur_ap, ur_ap, if_neg (c := C + 15 = C + 23 ∧ _) (by omega)]
      unfold up1
      by_cases e : j = p
      · rw [if_pos ⟨rfl, e⟩, if_pos e, r15 R1 hr, haa]
        exact ⟨rfl, ai⟩
      · rw [if_neg (fun q => e q.2), if_neg e]
        exact ho j hj e)
    have hS2 := hT2.s
    clear hP hV ho hT1 hT2 hT0 hc hse ap
    simp only [q120_54, q120_55, q120_58, q120_59, q120_60, k_22 hS, z_22, r_22_2 hS, k_23 hS, l_23 hS, z_23, as_nil, as_i, as_r, Nat.reduceAdd, Nat.reduceLeDiff, z_eq0, z_eq1, z_or, z_em, Classical.not_not, not_false_eq_true, not_true_eq_false, true_and, and_true, false_and, and_false, and_self, true_implies, false_implies, implies_true, Option.toList_some, Option.toList_none, List.cons_append, List.nil_append, Nat.add_eq_zero_iff, a_nl_i, a_nl_r, a_nl_n, true_or, or_true, eq_self, a_isRA_22, a_isRA_24, a_isRA_32, a_isA_20, ok_4, ok_5, ok_6, ok_7, ok_9, ok_20, ok_21, ok_30, ok_50, ok_180, ok_192, ok_200, ha, a0, ep, hok]
    simp only [q120_61, q120_62, q120_63, q120_66, q120_67, q120_68, q120_71, k_22 hS2, z_22, as_nil, as_i, as_r, Nat.reduceAdd, Nat.reduceLeDiff, z_eq0, z_eq1, z_or, z_em, Classical.not_not, not_false_eq_true, not_true_eq_false, true_and, and_true, false_and, and_false, and_self, true_implies, false_implies, implies_true, Option.toList_some, Option.toList_none, List.cons_append, List.nil_append, Nat.add_eq_zero_iff, a_nl_i, a_nl_r, a_nl_n, true_or, or_true, eq_self, a_isRA_22, a_isRA_24, a_isRA_32, a_isA_20, ok_4, ok_5, ok_6, ok_7, ok_9, ok_20, ok_21, ok_30, ok_50, ok_180, ok_192, ok_200, ha, a0, ur_ap, cc_ne, Nat.reduceEqDiff, if_false, h6, em]
    try simp only [true_and, and_true, true_implies, false_implies, implies_true, not_true_eq_false, not_false_eq_true]
    first
      | exact hf
      | exact ⟨Or.inr rfl, hf⟩
      | grind
  intro p
  induction p with
  | zero =>
    intro R1 o hp hT1 hr ho hV
    have hS := hT1.s
    have hput := put 0 R1 o hp hT1 hr ho (fun j hj => hV j hj)
    have e0 : Int32.ofNat 0 = 0 := rfl
    rw [e0] at hput ⊢
    clear put hP hV ho hT0 hc hse ap
    rw [q120_15]
    simp only [q120_16, as_nil, as_i, as_r, Nat.reduceAdd, Nat.reduceLeDiff, z_eq0, z_eq1, z_or, z_em, Classical.not_not, not_false_eq_true, not_true_eq_false, true_and, and_true, false_and, and_false, and_self, true_implies, false_implies, implies_true, Option.toList_some, Option.toList_none, List.cons_append, List.nil_append, Nat.add_eq_zero_iff, a_nl_i, a_nl_r, a_nl_n, true_or, or_true, eq_self, a_isRA_22, a_isRA_24, a_isRA_32, a_isA_20, ok_4, ok_5, ok_6, ok_7, ok_9, ok_20, ok_21, ok_30, ok_50, ok_180, ok_192, ok_200]
    first
      | exact hput
      | grind
  | succ p ih =>
    intro R1 o hp hT1 hr ho hV
    have hS := hT1.s
    obtain ⟨e1, e2, e3, e4, -, -⟩ := on_p (p := p) (by omega)
    obtain ⟨-, -, e3', -⟩ := on_p (p := p + 1) (by omega)
    obtain ⟨q0, q1, q2⟩ := ho p (by omega) (by omega)
    have hok : 0 ≤ Int32.ofNat p ∧ Int32.ofNat p < 30 := ⟨Int32.not_lt.mp (fun q => by rw [show (0 : Int32) = Int32.ofNat 0 from rfl, on_lt (by omega) (by omega)] at q; omega), by rw [show (30 : Int32) = Int32.ofNat 30 from rfl, on_lt (by omega) (by omega)]; omega⟩
    have hok1 : 0 ≤ Int32.ofNat (p + 1) ∧ Int32.ofNat (p + 1) < 30 := ⟨Int32.le_of_lt e4, by rw [show (30 : Int32) = Int32.ofNat 30 from rfl, on_lt (by omega) (by omega)]; omega⟩
    have n0 : ¬ Int32.ofNat (p + 1) ≤ 0 := Int32.not_le.mpr e4
    have hc1 := cp_rf hT0 hc hr
    have bp := aa_of hc1 q1 q2
    have ap1 : aaP C K I Y i a := ap
    have hkb := bp.2.1.1
    have hbn := bp.2.1.2.1
    have hput := put (p + 1) R1 o hp hT1 hr ho
    clear put
    rw [q120_15]
    simp only [q120_16, q120_19, q120_20, q120_21, q120_24, q120_25, q120_26, q120_27, q120_28, k_22 hS, z_22, r_22_2 hS, k_23 hS, l_23 hS, z_23, as_nil, as_i, as_r, Nat.reduceAdd, Nat.reduceLeDiff, z_eq0, z_eq1, z_or, z_em, Classical.not_not, not_false_eq_true, not_true_eq_false, true_and, and_true, false_and, and_false, and_self, true_implies, false_implies, implies_true, Option.toList_some, Option.toList_none, List.cons_append, List.nil_append, Nat.add_eq_zero_iff, a_nl_i, a_nl_r, a_nl_n, true_or, or_true, eq_self, a_isRA_22, a_isRA_24, a_isRA_32, a_isA_20, ok_4, ok_5, ok_6, ok_7, ok_9, ok_20, ok_21, ok_30, ok_50, ok_180, ok_192, ok_200, ha, a0, e1, e3, hok, n0, q0]
    try simp only [true_and, and_true, true_implies, false_implies, implies_true, not_true_eq_false, not_false_eq_true]
    refine ce_isAheadOf (d := d) hT1 ap1 bp ?_
    by_cases c : ahB Y i (o p) = true
    · rw [if_pos c]
      have n10 : ¬ (1 : Int32) = 0 := by decide
      have hg2 := ih (a_ur R1 (C + 23) (p + 1) (R1 (C + 15) (o p).toNatClampNeg)) (up1 o (p + 1) (o p)) (by omega) (sT_Rorder hT1 (Or.inr hkb)) (fun x j q1 q2 q3 => by rw [ur_ap, if_neg (fun e => q1 e.1)]; exact hr x j q1 q2 q3) (fun j hj hn => by
        unfold odP
        rw [ur_ap, ur_ap, if_neg (c := C + 15 = C + 23 ∧ _) (by omega)]
        unfold up1
        by_cases e : j = p + 1
        · rw [if_pos ⟨rfl, e⟩, if_pos e]
          exact ⟨rfl, q1, q2⟩
        · rw [if_neg (fun q => e q.2), if_neg e]
          exact ho j hj e) (fun j hj => by
        rw [← hV j hj]
        conv => rhs; unfold inS
        rw [if_pos c])
      clear ih hP hV ho hput hT1 hT0 hc hc1 hse ap ap1 bp
      simp only [q120_31, q120_34, q120_35, q120_38, q120_39, q120_40, q120_43, q120_44, q120_45, q120_46, q120_47, q120_48, q120_51, k_22 hS, z_22, r_22_2 hS, k_23 hS, l_23 hS, z_23, as_nil, as_i, as_r, Nat.reduceAdd, Nat.reduceLeDiff, z_eq0, z_eq1, z_or, z_em, Classical.not_not, not_false_eq_true, not_true_eq_false, true_and, and_true, false_and, and_false, and_self, true_implies, false_implies, implies_true, Option.toList_some, Option.toList_none, List.cons_append, List.nil_append, Nat.add_eq_zero_iff, a_nl_i, a_nl_r, a_nl_n, true_or, or_true, eq_self, a_isRA_22, a_isRA_24, a_isRA_32, a_isA_20, ok_4, ok_5, ok_6, ok_7, ok_9, ok_20, ok_21, ok_30, ok_50, ok_180, ok_192, ok_200, ha, a0, e1, e2, e3, e3', hok, hok1, n10, q0, hkb, hbn]
      try simp only [true_and, and_true, true_implies, false_implies, implies_true, not_true_eq_false, not_false_eq_true]
      first
        | exact hg2
        | exact ⟨Or.inr rfl, hg2⟩
        | grind
    · rw [if_neg c]
      have hput := hput (fun j hj => by
        rw [← hV j hj]
        unfold inS
        rw [if_neg c])
      clear ih hP hV ho hT1 hT0 hc hc1 hse ap ap1 bp
      simp only [q120_31, as_nil, as_i, as_r, Nat.reduceAdd, Nat.reduceLeDiff, z_eq0, z_eq1, z_or, z_em, Classical.not_not, not_false_eq_true, not_true_eq_false, true_and, and_true, false_and, and_false, and_self, true_implies, false_implies, implies_true, Option.toList_some, Option.toList_none, List.cons_append, List.nil_append, Nat.add_eq_zero_iff, a_nl_i, a_nl_r, a_nl_n, true_or, or_true, eq_self, a_isRA_22, a_isRA_24, a_isRA_32, a_isA_20, ok_4, ok_5, ok_6, ok_7, ok_9, ok_20, ok_21, ok_30, ok_50, ok_180, ok_192, ok_200, ha, a0]
      first
        | exact hput
        | grind
theorem ce_enter (hT : cT C K L I R) (hc : cpP C K L I R Y) (hse : seP C R Y) {a : Nat} {i : Int32} (ap : aaP C K I Y i a) (haa : (R (C + 15) i.toNatClampNeg) = a) {m : Nat} {o : Nat → Int32} (hm30 : m < 30) (h6 : I (C + 22) 6 = Int32.ofNat m) (ho : ∀ j, j < m → odP C R Y o j) (hP : ∀ R2, cT C K L (a_ui I (C + 22) 6 (Int32.ofNat (m + 1))) R2 → rfP C R R2 → (∀ j, j ≤ m → odP C R2 Y (inS Y i m o) j) → P none (n, t, K, L, a_ui I (C + 22) 6 (Int32.ofNat (m + 1)), R2)) : a_does (d + 3) 120 [a_rf (C + 22), a_rf a] (n, t, K, L, I, R) P := by
  have hS := hT.s
  have hl := le_enter_15 (d := d) (n := n) (t := t) (P := P) hT hc hse ap haa hm30 h6 hP m R o (Nat.le_refl _) hT (fun _ _ _ _ _ => rfl) (fun j hj hn => ho j (by omega)) (fun j hj => rfl)
  have hm1 : Int32.ofNat m < 30 := by rw [show (30 : Int32) = Int32.ofNat 30 from rfl, on_lt (by omega) (by omega)]; exact hm30
  have hm2 : ¬ 30 ≤ Int32.ofNat m := Int32.not_le.mpr hm1
  clear hP ho hc hse ap
  rw [a_enter1 (M := a_m120) rfl (a_cat_rf (a_cat_rf a_cat_nil)) (show 2 ≤ 3 by decide)]
  show a_at _ (a_xm a_m120) 0 [some (a_rf (C + 22)), some (a_rf a), none] [] _ _
  simp only [q120_0, q120_1, q120_4, q120_6, q120_9, q120_10, q120_11, q120_14, k_22 hS, z_22, as_nil, as_i, as_r, Nat.reduceAdd, Nat.reduceLeDiff, z_eq0, z_eq1, z_or, z_em, Classical.not_not, not_false_eq_true, not_true_eq_false, true_and, and_true, false_and, and_false, and_self, true_implies, false_implies, implies_true, Option.toList_some, Option.toList_none, List.cons_append, List.nil_append, Nat.add_eq_zero_iff, a_nl_i, a_nl_r, a_nl_n, true_or, or_true, eq_self, a_isRA_22, a_isRA_24, a_isRA_32, a_isA_20, ok_4, ok_5, ok_6, ok_7, ok_9, ok_20, ok_21, ok_30, ok_50, ok_180, ok_192, ok_200, h6, hm1, hm2]
  try simp only [true_and, and_true, true_implies, false_implies, implies_true, not_true_eq_false, not_false_eq_true]
  first
    | exact hl
    | grind
theorem le_isInShare_19 (hT : cT C K L I R) (hc : cpP C K L I R Y) {a : Nat} {i : Int32} (ap : aaP C K I Y i a) (haa : (R (C + 15) i.toNatClampNeg) = a) {f e : Int32} {V : Int32} (hN : ∀ o u, a_at (d + 1) (a_xm a_m123) 128 [some (a_rf (C + 22)), some (a_rf a), some (.int f), some (.int e), some (.int V), some (.int o), u] [] (n, t, K, L, I, R) P) : ∀ o : Int32, o ≤ 30 → ∀ q u, 0 ≤ o → o ≤ Y 0 17 → shI Y i f e ((Y 0 17).toNatClampNeg - o.toNatClampNeg) o q = V → a_at (d + 1) (a_xm a_m123) 19 [some (a_rf (C + 22)), some (a_rf a), some (.int f), some (.int e), some (.int q), some (.int o), u] [] (n, t, K, L, I, R) P := by
  have hS := hT.s
  obtain ⟨ai, ⟨ha, an0, a4n⟩, am, al⟩ := id ap
  obtain ⟨a1, a2, a4, a3⟩ := hT.g_ask a ha
  have a0 : (a = 0) = False := eq_false an0
  have gA := hT.g_asksR
  have gB := hT.g_benchesR
  have gX := hT.g_textsR
  have h17 := hc.2.2.2.2.2.2.2.2.1
  have e4 : I (C + 14) 4 = Y 0 17 := hc.2.2.1.1
  have e1 : I a 1 = Y 9 i.toNatClampNeg := al.1.2.1
  refine up_ind 30 (fun o o30 ih => ?_)
  intro q u h0 h1 hV
  have hexit : ¬ o < Y 0 17 → a_at (d + 1) (a_xm a_m123) 128 [some (a_rf (C + 22)), some (a_rf a), some (.int f), some (.int e), some (.int q), some (.int o), u] [] (n, t, K, L, I, R) P := fun w => by
    rw [(lp_end h1 w).1] at hV
    have hn := hN o u
    rw [← hV] at hn
    exact hn
  have hgo : o < Y 0 17 → ∀ q2 u2, q2 = (if ¬ o = i ∧ 0 ≤ Y 20 o.toNatClampNeg ∧ ¬ Y 7 o.toNatClampNeg = 5 ∧ Y 9 o.toNatClampNeg = Y 9 i.toNatClampNeg ∧ (f ≤ Y 21 o.toNatClampNeg ∧ Y 21 o.toNatClampNeg ≤ e) then q + ((if Y 21 o.toNatClampNeg + Y 10 o.toNatClampNeg - 1 < e then Y 21 o.toNatClampNeg + Y 10 o.toNatClampNeg - 1 else e) - Y 21 o.toNatClampNeg + 1) else q) → a_at (d + 1) (a_xm a_m123) 122 [some (a_rf (C + 22)), some (a_rf a), some (.int f), some (.int e), some (.int q2), some (.int o), u2] [] (n, t, K, L, I, R) P := fun w q2 u2 eq => by
    obtain ⟨s1, s2, s3, s4⟩ := lp_st h0 w
    rw [s1] at hV
    unfold shI at hV
    rw [← eq] at hV
    have hi := ih (Int32.lt_of_lt_of_le w h17.2) q2 u2 s2 s3 hV
    clear ih hN hV hexit
    simp only [q123_122, q123_125, as_nil, as_i, as_r, Nat.reduceAdd, Nat.reduceLeDiff, z_eq0, z_eq1, z_or, z_em, Classical.not_not, not_false_eq_true, not_true_eq_false, true_and, and_true, false_and, and_false, and_self, true_implies, false_implies, implies_true, Option.toList_some, Option.toList_none, List.cons_append, List.nil_append, Nat.add_eq_zero_iff, a_nl_i, a_nl_r, a_nl_n, true_or, or_true, eq_self, a_isRA_22, a_isRA_24, a_isRA_32, a_isA_20, ok_4, ok_5, ok_6, ok_7, ok_9, ok_20, ok_21, ok_30, ok_50, ok_180, ok_192, ok_200]
    exact hi
  have hin : o < Y 0 17 → a_at (d + 1) (a_xm a_m123) 31 [some (a_rf (C + 22)), some (a_rf a), some (.int f), some (.int e), some (.int q), some (.int o), u] [] (n, t, K, L, I, R) P := fun w => by
    have hgo := hgo w
    have bp := aa_of hc h0 w
    obtain ⟨-, ⟨kb, bn, b4⟩, bm, bl⟩ := bp
    have b0 : (R (C + 15) o.toNatClampNeg = 0) = False := eq_false bn
    have o30 : o < 30 := Int32.lt_of_lt_of_le w h17.2
    have hoc : 0 ≤ o ∧ o < I (C + 14) 4 ∧ o < 30 := ⟨h0, by rw [e4]; exact w, o30⟩
    have ne : (R (C + 15) o.toNatClampNeg = a) = (o = i) := propext ⟨fun e => by rw [← b4, e]; exact a4n, fun e => by rw [e]; exact haa⟩
    have f5 : I (R (C + 15) o.toNatClampNeg) 5 = Y 7 o.toNatClampNeg := bl.1.2.2.2.2
    have f1 : I (R (C + 15) o.toNatClampNeg) 1 = Y 9 o.toNatClampNeg := bl.1.2.1
    have f2 : I (R (C + 15) o.toNatClampNeg) 2 = Y 10 o.toNatClampNeg := bl.1.2.2.1
    have f13 : I (R (C + 15) o.toNatClampNeg) 13 = Y 20 o.toNatClampNeg := bl.2.2.2.1.1
    have f14 : I (R (C + 15) o.toNatClampNeg) 14 = Y 21 o.toNatClampNeg := bl.2.2.2.1.2
    clear ih hN hV hexit hc ap al am bl bm
    repeat' first
      | with_reducible apply And.intro
      | with_reducible assumption
      | with_reducible intro _
      | refine hgo _ _ ?_
      | simp only [q123_31, q123_32, q123_35, q123_37, q123_40, q123_42, q123_44, q123_47, q123_49, q123_50, q123_53, q123_55, q123_58, q123_59, q123_62, q123_64, q123_67, q123_68, q123_71, q123_74, q123_76, q123_79, q123_82, q123_84, q123_87, q123_88, q123_91, q123_93, q123_96, q123_97, q123_100, q123_102, q123_103, q123_105, q123_108, q123_111, q123_113, q123_116, q123_117, q123_118, q123_119, q123_120, k_22 hS, z_22, r_22_0 hS, k_14 hS, z_14, sp_askAt hS gA, sp_isPlaced, sp_last, sp_min, as_nil, as_i, as_r, Nat.reduceAdd, Nat.reduceLeDiff, z_eq0, z_eq1, z_or, z_em, Classical.not_not, not_false_eq_true, not_true_eq_false, true_and, and_true, false_and, and_false, and_self, true_implies, false_implies, implies_true, Option.toList_some, Option.toList_none, List.cons_append, List.nil_append, Nat.add_eq_zero_iff, a_nl_i, a_nl_r, a_nl_n, true_or, or_true, eq_self, a_isRA_22, a_isRA_24, a_isRA_32, a_isA_20, ok_4, ok_5, ok_6, ok_7, ok_9, ok_20, ok_21, ok_30, ok_50, ok_180, ok_192, ok_200, ha, a0, hoc, kb, b0, bn, ne, f5, f1, f2, f13, f14, e1]
    all_goals ((try clear hgo); (try clear hT); (try clear hS); (try clear gA); (try clear gB); (try clear gX); (try clear f5); (try clear f1); (try clear f2); (try clear f13); (try clear f14); (try clear kb); grind [ui_ap])
  clear ih hN hV hgo hc ap al am
  rw [q123_19]
  repeat' first
    | with_reducible apply And.intro
    | with_reducible assumption
    | with_reducible intro _
    | refine hexit ?_
    | refine hin ?_
    | simp only [q123_21, q123_22, q123_25, q123_28, k_22 hS, z_22, r_22_0 hS, k_14 hS, z_14, as_nil, as_i, as_r, Nat.reduceAdd, Nat.reduceLeDiff, z_eq0, z_eq1, z_or, z_em, Classical.not_not, not_false_eq_true, not_true_eq_false, true_and, and_true, false_and, and_false, and_self, true_implies, false_implies, implies_true, Option.toList_some, Option.toList_none, List.cons_append, List.nil_append, Nat.add_eq_zero_iff, a_nl_i, a_nl_r, a_nl_n, true_or, or_true, eq_self, a_isRA_22, a_isRA_24, a_isRA_32, a_isA_20, ok_4, ok_5, ok_6, ok_7, ok_9, ok_20, ok_21, ok_30, ok_50, ok_180, ok_192, ok_200, e4]
  all_goals ((try clear hexit); (try clear hin); (try clear hT); (try clear hS); (try clear gA); (try clear gB); (try clear gX); grind [ui_ap])
theorem ce_isInShare (hT : cT C K L I R) (hc : cpP C K L I R Y) {a : Nat} {i : Int32} (ap : aaP C K I Y i a) (haa : (R (C + 15) i.toNatClampNeg) = a) (hsh : I (C + 22) 8 = Y 0 10) {f e : Int32} (hP : P (some (.int (if shB Y i f e = true then 1 else 0))) (n, t, K, L, I, R)) : a_does (d + 2) 123 [a_rf (C + 22), a_rf a, .int f, .int e] (n, t, K, L, I, R) P := by
  have hS := hT.s
  obtain ⟨ai, ⟨ha, an0, a4n⟩, am, al⟩ := id ap
  obtain ⟨a1, a2, a4, a3⟩ := hT.g_ask a ha
  have a0 : (a = 0) = False := eq_false an0
  have e5 : I a 5 = Y 7 i.toNatClampNeg := al.1.2.2.2.2
  have e2 : I a 2 = Y 10 i.toNatClampNeg := al.1.2.2.1
  have eb : I (C + 14) 5 = Y 0 6 := hc.2.1.1
  unfold shB at hP
  by_cases c : Y 7 i.toNatClampNeg = 5
  · rw [if_pos c, if_pos rfl] at hP
    clear hc ap al am
    rw [a_enter1 (M := a_m123) rfl (a_cat_rf (a_cat_rf (a_cat_int (a_cat_int a_cat_nil)))) (show 4 ≤ 7 by decide)]
    show a_at _ (a_xm a_m123) 0 [some (a_rf (C + 22)), some (a_rf a), some (.int f), some (.int e), none, none, none] [] _ _
    simp only [q123_0, q123_1, q123_4, q123_5, q123_8, q123_9, k_22 hS, z_22, as_nil, as_i, as_r, Nat.reduceAdd, Nat.reduceLeDiff, z_eq0, z_eq1, z_or, z_em, Classical.not_not, not_false_eq_true, not_true_eq_false, true_and, and_true, false_and, and_false, and_self, true_implies, false_implies, implies_true, Option.toList_some, Option.toList_none, List.cons_append, List.nil_append, Nat.add_eq_zero_iff, a_nl_i, a_nl_r, a_nl_n, true_or, or_true, eq_self, a_isRA_22, a_isRA_24, a_isRA_32, a_isA_20, ok_4, ok_5, ok_6, ok_7, ok_9, ok_20, ok_21, ok_30, ok_50, ok_180, ok_192, ok_200, ha, a0, e5, c]
    try simp only [true_and, and_true, true_implies, false_implies, implies_true, not_true_eq_false, not_false_eq_true]
    first
      | exact hP
      | grind
  · rw [if_neg c] at hP
    have hl := le_isInShare_19 (d := d) (n := n) (t := t) (P := P) (f := f) (e := e) hT hc ap haa (V := shI Y i f e (Y 0 17).toNatClampNeg 0 (Y 10 i.toNatClampNeg)) (fun o u => by
      generalize shI Y i f e (Y 0 17).toNatClampNeg 0 (Y 10 i.toNatClampNeg) = V at hP ⊢
      clear hc ap al am
      simp only [q123_128, q123_130, q123_131, q123_134, q123_135, q123_138, q123_141, q123_142, q123_143, q123_144, q123_145, q123_146, q123_147, q123_148, q123_150, q123_151, q123_154, q123_155, q123_158, q123_159, k_22 hS, z_22, r_22_0 hS, k_14 hS, z_14, as_nil, as_i, as_r, Nat.reduceAdd, Nat.reduceLeDiff, z_eq0, z_eq1, z_or, z_em, Classical.not_not, not_false_eq_true, not_true_eq_false, true_and, and_true, false_and, and_false, and_self, true_implies, false_implies, implies_true, Option.toList_some, Option.toList_none, List.cons_append, List.nil_append, Nat.add_eq_zero_iff, a_nl_i, a_nl_r, a_nl_n, true_or, or_true, eq_self, a_isRA_22, a_isRA_24, a_isRA_32, a_isA_20, ok_4, ok_5, ok_6, ok_7, ok_9, ok_20, ok_21, ok_30, ok_50, ok_180, ok_192, ok_200, hsh, eb]
      generalize Y 0 10 * Y 0 6 * (e - f + 1) / 100 = W at hP ⊢
      clear hsh eb e5 e2 hS hT
      grind) 0 (by decide) (Y 10 i.toNatClampNeg) none (by decide) hc.2.2.2.2.2.2.2.2.1.1 (by rw [lp_0])
    clear hc ap al am hP
    rw [a_enter1 (M := a_m123) rfl (a_cat_rf (a_cat_rf (a_cat_int (a_cat_int a_cat_nil)))) (show 4 ≤ 7 by decide)]
    show a_at _ (a_xm a_m123) 0 [some (a_rf (C + 22)), some (a_rf a), some (.int f), some (.int e), none, none, none] [] _ _
    simp only [q123_0, q123_1, q123_4, q123_5, q123_8, q123_9, q123_10, q123_11, q123_14, q123_16, q123_17, k_22 hS, z_22, as_nil, as_i, as_r, Nat.reduceAdd, Nat.reduceLeDiff, z_eq0, z_eq1, z_or, z_em, Classical.not_not, not_false_eq_true, not_true_eq_false, true_and, and_true, false_and, and_false, and_self, true_implies, false_implies, implies_true, Option.toList_some, Option.toList_none, List.cons_append, List.nil_append, Nat.add_eq_zero_iff, a_nl_i, a_nl_r, a_nl_n, true_or, or_true, eq_self, a_isRA_22, a_isRA_24, a_isRA_32, a_isA_20, ok_4, ok_5, ok_6, ok_7, ok_9, ok_20, ok_21, ok_30, ok_50, ok_180, ok_192, ok_200, ha, a0, e5, e2, c]
    try simp only [true_and, and_true, true_implies, false_implies, implies_true, not_true_eq_false, not_false_eq_true]
    first
      | exact hl
      | grind
/-- SHIFTS of a place at which an ASK without one fits are free -/
theorem ft_free (hT : cT C K L I R) (hc : cpP C K L I R Y) (hse : seP C R Y) {b s : Int32} {i : Int32} (ai : 0 ≤ i ∧ i < Y 0 17) (hb : 0 ≤ b ∧ b < Y 0 6) (hs : 0 ≤ s ∧ s ≤ 199) (hsl : s + Y 10 i.toNatClampNeg ≤ 200) (un : ¬ 0 ≤ Y 20 i.toNatClampNeg) (hf : ftY Y i b s = 0) : ∀ z : Int32, 0 ≤ z → z < Y 10 i.toNatClampNeg → whC C I R b (s + z).toNatClampNeg = -9 := fun z z0 z1 => by
  have hy := hc.2.2.2.2
  have hsz := (sh_lt (i := z) ⟨hs.1, Int32.le_trans hs.2 (by decide)⟩ (hy.2.1 i.toNatClampNeg) hsl ⟨z0, Int32.le_of_lt z1⟩).1 z1
  have hg := (br_fx (ft_br hf z0 z1)).2
  rw [hg_class hc.2.1.2.2.2 hy.2.1 hy.2.2.2.2.1.1 hy.2.2.2.2.2.1.1 hb hsz.1] at hg
  refine Classical.byContradiction (fun q => ?_)
  have hi : ¬ whC C I R b (s + z).toNatClampNeg = i := fun e => by
    have := ((who_is hc.2.1.2.2.2 hb hsz.1 ai).mp e).1
    exact un (by rw [this]; exact hb.1)
  rw [if_pos ⟨q, hi⟩] at hg
  exact absurd hg (by decide)
theorem le_placeFirst_19 (hT0 : cT C K L I R) (hc : cpP C K L I R Y) (hse : seP C R Y) {a : Nat} {i : Int32} (ap : aaP C K I Y i a) (haa : (R (C + 15) i.toNatClampNeg) = a) (un : ¬ 0 ≤ Y 20 i.toNatClampNeg) {f e s : Int32} (hs : 0 ≤ s ∧ s ≤ 199) {V : Int32} (hG : 0 ≤ V → ∀ J, dL C K L R I J → aZ K a I J → cpP C K L J R (puY Y i V s) → P (some (.int 1)) (n, t, K, L, J, R)) (hN : ¬ 0 ≤ V → ∀ J u, dC C K L R I J → a_at (d + 6) (a_xm a_m124) 66 [some (a_rf (C + 22)), some (a_rf a), some (.int f), some (.int e), some (.int s), u] [] (n, t, K, L, J, R) P) : ∀ b : Int32, b ≤ 6 → ∀ J, 0 ≤ b → b ≤ Y 0 6 → dC C K L R I J → gfB Y i s ((Y 0 6).toNatClampNeg - b.toNatClampNeg) b = V → a_at (d + 6) (a_xm a_m124) 19 [some (a_rf (C + 22)), some (a_rf a), some (.int f), some (.int e), some (.int s), some (.int b)] [] (n, t, K, L, J, R) P := by
  have hy := hc.2.2.2.2
  have h6 := hy.2.2.2.2.2.1
  refine up_ind 6 (fun b b6 ih => ?_)
  intro J h0 h1 hJ hV
  have hT := hJ.1
  have hS := hT.s
  have hcJ := cpP_C hT0 hc hJ
  have apJ := aaP_C hT0 ap hJ
  obtain ⟨ai, ⟨ha, an0, a4n⟩, am, al⟩ := id apJ
  have a0 : (a = 0) = False := eq_false an0
  have e5 : J (C + 14) 5 = Y 0 6 := hcJ.2.1.1
  have hexit : ¬ b < Y 0 6 → a_at (d + 6) (a_xm a_m124) 66 [some (a_rf (C + 22)), some (a_rf a), some (.int f), some (.int e), some (.int s), some (.int b)] [] (n, t, K, L, J, R) P := fun w => by
    rw [(lp_end h1 w).1] at hV
    have hV : -1 = V := hV
    exact hN (by rw [← hV]; decide) J (some (.int b)) hJ
  have hcall : b < Y 0 6 → a_does (d + 6) 100 [a_rf (C + 14), a_rf a, .int b, .int s] (n, t, K, L, J, R) (fun r h' => a_at (d + 6) (a_xm a_m124) 43 [some (a_rf (C + 22)), some (a_rf a), some (.int f), some (.int e), some (.int s), some (.int b)] (r.toList ++ []) h' P) := fun w => by
    obtain ⟨s1, s2, s3, s4⟩ := lp_st h0 w
    refine ce_firstBar (d := d + 1) hT hcJ apJ ⟨h0, w⟩ hs (fun J2 c2 => ?_)
    have hT2 := c2.1
    have hS2 := hT2.s
    have hJ2 := dC_C hJ c2
    rw [s1] at hV
    unfold gfB at hV
    by_cases cf : ftY Y i b s = 0
    · rw [if_pos cf] at hV
      have hc2 := cpP_C hT hcJ c2
      have ap2 := aaP_C hT apJ c2
      have hl := hy.2.2.1 i ai.1 ai.2
      have hin := ft_in cf ⟨hl, (hy.2.1 _).2⟩ ⟨hs.1, Int32.le_trans hs.2 (by decide)⟩
      have hG := hG (by rw [← hV]; exact h0)
      rw [← hV] at hG
      have hpl : a_does (d + 6) 113 [a_rf (C + 14), a_rf a, .int b, .int s] (n, t, K, L, J2, R) (fun r h' => a_at (d + 6) (a_xm a_m124) 58 [some (a_rf (C + 22)), some (a_rf a), some (.int f), some (.int e), some (.int s), some (.int b)] (r.toList ++ []) h' P) := by
        refine ce_place (d := d) hT2 hc2 hse ap2 haa ⟨h0, w⟩ hs hin.2 un (ft_free hT2 hc2 hse ai ⟨h0, w⟩ hs hin.2 un cf) (fun J3 d3 c3 z3 => ?_)
        have hp := hG J3 (dL_L (dL_C (dL_refl hT0) hJ2) d3) (fun x j kx hx => (z3 x j kx hx).trans (dC_at hJ2 hT0 kx j)) c3
        have hS3 := d3.1.s
        clear ih hG hN hexit hc hcJ hc2 c3 ap apJ ap2 al am
        simp only [q124_58, q124_59, as_nil, as_i, as_r, Nat.reduceAdd, Nat.reduceLeDiff, z_eq0, z_eq1, z_or, z_em, Classical.not_not, not_false_eq_true, not_true_eq_false, true_and, and_true, false_and, and_false, and_self, true_implies, false_implies, implies_true, Option.toList_some, Option.toList_none, List.cons_append, List.nil_append, Nat.add_eq_zero_iff, a_nl_i, a_nl_r, a_nl_n, true_or, or_true, eq_self, a_isRA_22, a_isRA_24, a_isRA_32, a_isA_20, ok_4, ok_5, ok_6, ok_7, ok_9, ok_20, ok_21, ok_30, ok_50, ok_180, ok_192, ok_200]
        first
          | exact hp
          | exact ⟨by decide, hp⟩
          | grind
      clear ih hG hN hexit hc hcJ hc2 ap apJ ap2 al am
      simp only [q124_43, q124_46, q124_47, q124_50, q124_51, q124_53, q124_55, k_22 hS, z_22, r_22_0 hS, k_14 hS, z_14, as_nil, as_i, as_r, Nat.reduceAdd, Nat.reduceLeDiff, z_eq0, z_eq1, z_or, z_em, Classical.not_not, not_false_eq_true, not_true_eq_false, true_and, and_true, false_and, and_false, and_self, true_implies, false_implies, implies_true, Option.toList_some, Option.toList_none, List.cons_append, List.nil_append, Nat.add_eq_zero_iff, a_nl_i, a_nl_r, a_nl_n, true_or, or_true, eq_self, a_isRA_22, a_isRA_24, a_isRA_32, a_isA_20, ok_4, ok_5, ok_6, ok_7, ok_9, ok_20, ok_21, ok_30, ok_50, ok_180, ok_192, ok_200, ha, a0, cf]
      try simp only [true_and, and_true, true_implies, false_implies, implies_true, not_true_eq_false, not_false_eq_true]
      first
        | exact hpl
        | grind
    · rw [if_neg cf] at hV
      have hn := ih (Int32.lt_of_lt_of_le w h6.2) J2 s2 s3 hJ2 hV
      clear ih hG hN hexit hc hcJ ap apJ al am
      simp only [q124_43, q124_60, q124_63, as_nil, as_i, as_r, Nat.reduceAdd, Nat.reduceLeDiff, z_eq0, z_eq1, z_or, z_em, Classical.not_not, not_false_eq_true, not_true_eq_false, true_and, and_true, false_and, and_false, and_self, true_implies, false_implies, implies_true, Option.toList_some, Option.toList_none, List.cons_append, List.nil_append, Nat.add_eq_zero_iff, a_nl_i, a_nl_r, a_nl_n, true_or, or_true, eq_self, a_isRA_22, a_isRA_24, a_isRA_32, a_isA_20, ok_4, ok_5, ok_6, ok_7, ok_9, ok_20, ok_21, ok_30, ok_50, ok_180, ok_192, ok_200, ha, a0, cf]
      try simp only [true_and, and_true, true_implies, false_implies, implies_true, not_true_eq_false, not_false_eq_true]
      first
        | exact hn
        | grind
  clear ih hV hG hN hc hcJ ap apJ al am
  rw [q124_19]
  repeat' first
    | with_reducible apply And.intro
    | with_reducible assumption
    | with_reducible intro _
    | refine hexit ?_
    | refine hcall ?_
    | simp only [q124_21, q124_22, q124_25, q124_28, q124_31, q124_32, q124_35, q124_36, q124_38, q124_40, k_22 hS, z_22, r_22_0 hS, k_14 hS, z_14, as_nil, as_i, as_r, Nat.reduceAdd, Nat.reduceLeDiff, z_eq0, z_eq1, z_or, z_em, Classical.not_not, not_false_eq_true, not_true_eq_false, true_and, and_true, false_and, and_false, and_self, true_implies, false_implies, implies_true, Option.toList_some, Option.toList_none, List.cons_append, List.nil_append, Nat.add_eq_zero_iff, a_nl_i, a_nl_r, a_nl_n, true_or, or_true, eq_self, a_isRA_22, a_isRA_24, a_isRA_32, a_isA_20, ok_4, ok_5, ok_6, ok_7, ok_9, ok_20, ok_21, ok_30, ok_50, ok_180, ok_192, ok_200, ha, a0, e5]
  all_goals ((try clear hexit); (try clear hcall); (try clear hT); (try clear hS); (try clear hT0); grind [ui_ap])
theorem le_placeFirst_3 (hT0 : cT C K L I R) (hc : cpP C K L I R Y) (hse : seP C R Y) {a : Nat} {i : Int32} (ap : aaP C K I Y i a) (haa : (R (C + 15) i.toNatClampNeg) = a) (un : ¬ 0 ≤ Y 20 i.toNatClampNeg) {f e : Int32} (he9 : e ≤ 199) {V : Int32 × Int32} (hP1 : 0 ≤ V.2 → ∀ J, dL C K L R I J → aZ K a I J → cpP C K L J R (puY Y i V.2 V.1) → P (some (.int 1)) (n, t, K, L, J, R)) (hP0 : ¬ 0 ≤ V.2 → ∀ J, dC C K L R I J → P (some (.int 0)) (n, t, K, L, J, R)) : ∀ s : Int32, s ≤ 203 → ∀ J b (k : Nat), 0 ≤ s → (203 : Int32).toNatClampNeg < s.toNatClampNeg + k → dC C K L R I J → gfS Y i e k s = V → a_at (d + 6) (a_xm a_m124) 3 [some (a_rf (C + 22)), some (a_rf a), some (.int f), some (.int e), some (.int s), b] [] (n, t, K, L, J, R) P := by
  have hy := hc.2.2.2.2
  have h6 := hy.2.2.2.2.2.1
  have hl4 := (hy.2.1 i.toNatClampNeg).2
  refine up_ind 203 (fun s s203 ih => ?_)
  intro J b k h0 hk hJ hV
  have hT := hJ.1
  have hS := hT.s
  have apJ := aaP_C hT0 ap hJ
  obtain ⟨ai, ⟨ha, an0, a4n⟩, am, al⟩ := id apJ
  have a0 : (a = 0) = False := eq_false an0
  have e2 : J a 2 = Y 10 i.toNatClampNeg := al.1.2.2.1
  have hl := hy.2.2.1 i ai.1 ai.2
  have c203 : s.toNatClampNeg ≤ (203 : Int32).toNatClampNeg := cl_le0 h0 s203
  obtain ⟨k, rfl⟩ : ∃ q, k = q + 1 := ⟨k - 1, by omega⟩
  unfold gfS at hV
  have hexit : e < s + Y 10 i.toNatClampNeg - 1 → P (some (.int 0)) (n, t, K, L, J, R) := fun c => hP0 (fun q => by
    rw [if_pos c] at hV
    rw [← hV] at q
    exact absurd (show (0 : Int32) ≤ -1 from q) (by decide)) J hJ
  have hin : ¬ e < s + Y 10 i.toNatClampNeg - 1 → a_at (d + 6) (a_xm a_m124) 19 [some (a_rf (C + 22)), some (a_rf a), some (.int f), some (.int e), some (.int s), some (.int 0)] [] (n, t, K, L, J, R) P := fun c => by
    rw [if_neg c] at hV
    have s199 : 0 ≤ s ∧ s ≤ 199 := ⟨h0, (gs_nx ⟨hl, hl4⟩ he9 ⟨h0, Int32.le_trans s203 (by decide)⟩ c).2⟩
    have hs1 : s < 203 := Int32.lt_of_le_of_lt s199.2 (by decide)
    obtain ⟨-, t2, -, t4⟩ := lp_st h0 hs1
    refine le_placeFirst_19 (d := d) hT0 hc hse ap haa un s199 (V := gfB Y i s (Y 0 6).toNatClampNeg 0) (fun q2 J2 d2 z2 c2 => ?_) (fun q J2 u2 c2 => ?_) 0 (by decide) J (by decide) h6.1 hJ (by rw [lp_0])
    · rw [if_pos q2] at hV
      refine hP1 (by rw [← hV]; exact q2) J2 d2 z2 ?_
      rw [← hV]
      exact c2
    · rw [if_neg q] at hV
      have hn := ih hs1 J2 u2 k t2 (by omega) c2 hV
      have hS2 := c2.1.s
      clear ih hexit hP1 hP0 hc ap apJ al am
      simp only [q124_66, q124_69, as_nil, as_i, as_r, Nat.reduceAdd, Nat.reduceLeDiff, z_eq0, z_eq1, z_or, z_em, Classical.not_not, not_false_eq_true, not_true_eq_false, true_and, and_true, false_and, and_false, and_self, true_implies, false_implies, implies_true, Option.toList_some, Option.toList_none, List.cons_append, List.nil_append, Nat.add_eq_zero_iff, a_nl_i, a_nl_r, a_nl_n, true_or, or_true, eq_self, a_isRA_22, a_isRA_24, a_isRA_32, a_isA_20, ok_4, ok_5, ok_6, ok_7, ok_9, ok_20, ok_21, ok_30, ok_50, ok_180, ok_192, ok_200]
      first
        | exact hn
        | grind
  clear ih hV hP1 hP0 hc ap apJ al am
  rw [q124_3]
  repeat' first
    | with_reducible apply And.intro
    | with_reducible assumption
    | with_reducible intro _
    | refine hexit ?_
    | refine hin ?_
    | simp only [q124_5, q124_6, q124_9, q124_10, q124_11, q124_12, q124_13, q124_16, q124_17, q124_72, q124_73, k_22 hS, z_22, as_nil, as_i, as_r, Nat.reduceAdd, Nat.reduceLeDiff, z_eq0, z_eq1, z_or, z_em, Classical.not_not, not_false_eq_true, not_true_eq_false, true_and, and_true, false_and, and_false, and_self, true_implies, false_implies, implies_true, Option.toList_some, Option.toList_none, List.cons_append, List.nil_append, Nat.add_eq_zero_iff, a_nl_i, a_nl_r, a_nl_n, true_or, or_true, eq_self, a_isRA_22, a_isRA_24, a_isRA_32, a_isA_20, ok_4, ok_5, ok_6, ok_7, ok_9, ok_20, ok_21, ok_30, ok_50, ok_180, ok_192, ok_200, ha, a0, e2]
  all_goals ((try clear hexit); (try clear hin); (try clear hT); (try clear hS); (try clear hT0); grind [ui_ap])
theorem ce_placeFirst (hT : cT C K L I R) (hc : cpP C K L I R Y) (hse : seP C R Y) {a : Nat} {i : Int32} (ap : aaP C K I Y i a) (haa : (R (C + 15) i.toNatClampNeg) = a) (un : ¬ 0 ≤ Y 20 i.toNatClampNeg) {f e : Int32} (hf : 0 ≤ f ∧ f ≤ 202) (he9 : e ≤ 199) (hP1 : 0 ≤ (gnY Y i f e).2 → ∀ J, dL C K L R I J → aZ K a I J → cpP C K L J R (puY Y i (gnY Y i f e).2 (gnY Y i f e).1) → P (some (.int 1)) (n, t, K, L, J, R)) (hP0 : ¬ 0 ≤ (gnY Y i f e).2 → ∀ J, dC C K L R I J → P (some (.int 0)) (n, t, K, L, J, R)) : a_does (d + 7) 124 [a_rf (C + 22), a_rf a, .int f, .int e] (n, t, K, L, I, R) P := by
  have hS := hT.s
  have c203 : (203 : Int32).toNatClampNeg = 203 := rfl
  have hl := le_placeFirst_3 (d := d) (n := n) (t := t) (P := P) (f := f) hT hc hse ap haa un he9 hP1 hP0 f (Int32.le_trans hf.2 (by decide)) I none 240 hf.1 (by rw [c203]; omega) (dC_refl hT) rfl
  clear hP1 hP0 hc hse ap
  rw [a_enter1 (M := a_m124) rfl (a_cat_rf (a_cat_rf (a_cat_int (a_cat_int a_cat_nil)))) (show 4 ≤ 6 by decide)]
  show a_at _ (a_xm a_m124) 0 [some (a_rf (C + 22)), some (a_rf a), some (.int f), some (.int e), none, none] [] _ _
  simp only [q124_0, q124_1, as_nil, as_i, as_r, Nat.reduceAdd, Nat.reduceLeDiff, z_eq0, z_eq1, z_or, z_em, Classical.not_not, not_false_eq_true, not_true_eq_false, true_and, and_true, false_and, and_false, and_self, true_implies, false_implies, implies_true, Option.toList_some, Option.toList_none, List.cons_append, List.nil_append, Nat.add_eq_zero_iff, a_nl_i, a_nl_r, a_nl_n, true_or, or_true, eq_self, a_isRA_22, a_isRA_24, a_isRA_32, a_isA_20, ok_4, ok_5, ok_6, ok_7, ok_9, ok_20, ok_21, ok_30, ok_50, ok_180, ok_192, ok_200]
  exact hl
end YG0
/-! whole numbers -/
theorem in_bm {z : Int} (h1 : -2147483648 ≤ z) (h2 : z < 2147483648) : z.bmod (2 ^ 32) = z := by
  simp [Int.bmod_def]
  omega
theorem in_xor {a b : Int32} : ((a ^^^ b) < 0) = ((a < 0 ∧ ¬ b < 0) ∨ (¬ a < 0 ∧ b < 0)) := by
  have e : ∀ x : Int32, (x < 0) = (x.toBitVec.msb = true) := fun x => by
    rw [BitVec.msb_eq_toInt, Int32.toInt_toBitVec, Int32.lt_iff_toInt_lt]
    simp
  rw [e, e, e, Int32.toBitVec_xor, BitVec.msb_xor]
  cases a.toBitVec.msb <;> cases b.toBitVec.msb <;> simp
theorem in_div {A B : Int} (hA : A < 0) (hB : 0 < B) : A.tdiv B * B ≤ 0 ∧ A ≤ A.tdiv B * B ∧ A.tdiv B ≤ 0 ∧ A ≤ A.tdiv B ∧ (if A.tdiv B * B = A then A.tdiv B else A.tdiv B - 1) = -((B - 1 - A).tdiv B) := by
  have e1 : A.tdiv B = -((-A) / B) := by
    rw [← Int.tdiv_eq_ediv_of_nonneg (by omega), Int.neg_tdiv, Int.neg_neg]
  have e2 : (B - 1 - A).tdiv B = (B - 1 - A) / B := Int.tdiv_eq_ediv_of_nonneg (by omega)
  have h := Int.mul_ediv_add_emod (-A) B
  have h0 := Int.emod_nonneg (-A) (show B ≠ 0 by omega)
  have h1 := Int.emod_lt_of_pos (-A) hB
  have hk : 0 ≤ (-A) / B := Int.ediv_nonneg (by omega) (by omega)
  rw [e1, e2]
  generalize (-A) / B = k at h hk ⊢
  generalize (-A) % B = r at h h0 h1
  have e3 : -k * B = -(B * k) := by rw [Int.neg_mul, Int.mul_comm]
  have h5 : k ≤ B * k := by
    have := Int.mul_le_mul_of_nonneg_right (show 1 ≤ B by omega) hk
    omega
  have h6 : 0 ≤ B * k := Int.mul_nonneg (by omega) hk
  rw [e3]
  refine ⟨by omega, by omega, by omega, by omega, ?_⟩
  by_cases c : r = 0
  · have : (B - 1 - A) / B = k := ((Int.ediv_emod_unique (a := B - 1 - A) (b := B) (q := k) (r := B - 1) hB).mpr ⟨by omega, by omega, by omega⟩).1
    rw [this, if_pos (by omega)]
  · have e4 : B * (k + 1) = B * k + B := by rw [Int.mul_add, Int.mul_one]
    have : (B - 1 - A) / B = k + 1 := ((Int.ediv_emod_unique (a := B - 1 - A) (b := B) (q := k + 1) (r := r - 1) hB).mpr ⟨by omega, by omega, by omega⟩).1
    rw [this, if_neg (by omega)]
    omega
theorem in_fd {a b : Int32} (ha : a < 0) (h1 : -100000 ≤ a) (hb : 0 < b) (h3 : b ≤ 1000) : (if a / b * b = a then a / b else a / b - 1) = -((b - 1 - a) / b) := by
  have hA := Int32.lt_iff_toInt_lt.mp ha
  have hA1 := Int32.le_iff_toInt_le.mp h1
  have hB := Int32.lt_iff_toInt_lt.mp hb
  have hB1 := Int32.le_iff_toInt_le.mp h3
  have w0 : (0 : Int32).toInt = 0 := rfl
  have w1 : (-100000 : Int32).toInt = -100000 := rfl
  have w2 : (1000 : Int32).toInt = 1000 := rfl
  have w3 : (1 : Int32).toInt = 1 := rfl
  rw [w0] at hA hB
  rw [w1] at hA1
  rw [w2] at hB1
  have hn : b ≠ -1 := fun z => by
    rw [z] at hb
    exact absurd hb (by decide)
  obtain ⟨g1, g2, g3, g4, g5⟩ := in_div hA hB
  have eq : (a / b).toInt = a.toInt.tdiv b.toInt := Int32.toInt_div_of_ne_right a b hn
  have em : (a / b * b).toInt = a.toInt.tdiv b.toInt * b.toInt := by
    rw [Int32.toInt_mul, eq, in_bm (by omega) (by omega)]
  have es : (b - 1 - a).toInt = b.toInt - 1 - a.toInt := by
    rw [Int32.toInt_sub, Int32.toInt_sub, w3, in_bm (z := b.toInt - 1) (by omega) (by omega), in_bm (by omega) (by omega)]
  have er : (-((b - 1 - a) / b)).toInt = -((b.toInt - 1 - a.toInt).tdiv b.toInt) := by
    rw [Int32.toInt_neg, Int32.toInt_div_of_ne_right _ _ hn, es, ← g5]
    refine in_bm ?_ ?_ <;> (split <;> omega)
  have el : (a / b - 1).toInt = a.toInt.tdiv b.toInt - 1 := by
    rw [Int32.toInt_sub, eq, w3, in_bm (by omega) (by omega)]
  refine Int32.toInt_inj.mp ?_
  rw [er, ← g5]
  by_cases c : a / b * b = a
  · rw [if_pos c, if_pos (by rw [← em, c]), eq]
  · rw [if_neg c, if_neg (fun z => c (Int32.toInt_inj.mp (by rw [em, z]))), el]
/-! folds over pairs of marks -/
/-- differences of marks lie between -100 and 100 -/
def gB (g : Int32 → Int32 → Int32) : Prop := ∀ r a, g r a = -9 ∨ 0 ≤ g r a ∧ g r a ≤ 100
theorem gb_at {g : Int32 → Int32 → Int32} (h : gB g) {r o a : Int32} (h1 : ¬ g r a = -9) (h2 : ¬ g o a = -9) : -100 ≤ g r a - g o a ∧ g r a - g o a ≤ 100 := by
  have e1 := (h r a).resolve_left h1
  have e2 := (h o a).resolve_left h2
  clear h
  grind
theorem gb_cm {Y : Nat → Nat → Int32} (h : mkP Y) : gB (cmY Y) := fun r a => by
  unfold cmY
  by_cases c : Y 38 (30 * r + a).toNatClampNeg = 0
  · rw [if_pos c]
    exact Or.inl rfl
  · rw [if_neg c]
    exact Or.inr (h _ c)
theorem fdI_ro {α β : Type} {g : Int32 → Int32 → Int32} (hg : gB g) {st : α → Int32 → α} {su : β → Int32 → β} {E : Nat → α → β → Prop} (h1 : ∀ m p q d, E m p q → -100 ≤ d ∧ d ≤ 100 → E (m + 1) (st p d) (su q d)) (h2 : ∀ m p q, E m p q → E (m + 1) p q) {r a : Int32} : ∀ (k m : Nat) (o : Int32) (p : α) (q : β), E m p q → E (m + k) (fdI g st r a k o p) (fdI g su r a k o q) := by
  intro k
  induction k with
  | zero => intro m o p q h; exact h
  | succ k ih =>
    intro m o p q h
    unfold fdI
    rw [show m + (k + 1) = m + 1 + k by omega]
    refine ih _ _ _ _ ?_
    by_cases c : ¬ o = r ∧ ¬ g r a = -9 ∧ ¬ g o a = -9
    · rw [if_pos c, if_pos c]
      exact h1 _ _ _ _ h (gb_at hg c.2.1 c.2.2)
    · rw [if_neg c, if_neg c]
      exact h2 _ _ _ h
theorem fdO_ro {α β : Type} {g : Int32 → Int32 → Int32} (hg : gB g) {st : α → Int32 → α} {su : β → Int32 → β} {E : Nat → α → β → Prop} (h1 : ∀ m p q d, E m p q → -100 ≤ d ∧ d ≤ 100 → E (m + 1) (st p d) (su q d)) (h2 : ∀ m p q, E m p q → E (m + 1) p q) {r : Int32} : ∀ (k m : Nat) (a : Int32) (p : α) (q : β), E m p q → E (m + 6 * k) (fdO g st r k a p) (fdO g su r k a q) := by
  intro k
  induction k with
  | zero => intro m a p q h; exact h
  | succ k ih =>
    intro m a p q h
    unfold fdO
    rw [show m + 6 * (k + 1) = m + 6 + 6 * k by omega]
    exact ih _ _ _ _ (fdI_ro hg h1 h2 6 m 0 p q h)
/-- the sum and the number of a HABIT are small -/
def hbE (m : Nat) (p : Int32 × Int32) (_ : Unit) : Prop := 0 ≤ p.2.toInt ∧ p.2.toInt ≤ m ∧ -100 * p.2.toInt ≤ p.1.toInt ∧ p.1.toInt ≤ 100 * p.2.toInt
theorem hb_small {g : Int32 → Int32 → Int32} (hg : gB g) {r n : Int32} (hn : n.toNatClampNeg ≤ 30) : hbE 180 (fdO g hbS r n.toNatClampNeg 0 (0, 0)) () := by
  have h := fdO_ro (β := Unit) hg (st := hbS) (su := fun _ _ => ()) (E := fun m p q => m ≤ 180 → hbE m p q) (r := r) (fun m p q d h hd hm => by
    have h := h (by omega)
    obtain ⟨x1, x2, x3, x4⟩ := h
    have d1 := Int32.le_iff_toInt_le.mp hd.1
    have d2 := Int32.le_iff_toInt_le.mp hd.2
    have w1 : (-100 : Int32).toInt = -100 := rfl
    have w2 : (100 : Int32).toInt = 100 := rfl
    have w3 : (1 : Int32).toInt = 1 := rfl
    rw [w1] at d1
    rw [w2] at d2
    have e1 : (hbS p d).1.toInt = p.1.toInt + d.toInt := by
      show (p.1 + d).toInt = _
      rw [Int32.toInt_add, in_bm (by omega) (by omega)]
    have e2 : (hbS p d).2.toInt = p.2.toInt + 1 := by
      show (p.2 + 1).toInt = _
      rw [Int32.toInt_add, w3, in_bm (by omega) (by omega)]
    unfold hbE
    rw [e1, e2]
    refine ⟨by omega, by omega, by omega, by omega⟩) (fun m p q h hm => by
    have h := h (by omega)
    exact ⟨h.1, by have := h.2.1; omega, h.2.2⟩) n.toNatClampNeg 0 0 (0, 0) () (fun _ => ⟨by decide, by decide, by decide, by decide⟩) (by omega)
  exact ⟨h.1, by have := h.2.1; omega, h.2.2⟩
/-- the joint mark: over the readers -/
def mfI (g : Int32 → Int32 → Int32) (hb : Int32 → Int32) (a : Int32) : Nat → Int32 → Int32 × Int32 → Int32 × Int32
  | 0, _, p => p
  | k + 1, r, p => mfI g hb a k (r + 1) (if g r a = -9 then p else (p.1 + (g r a - hb r), p.2 + 1))
/-- MARK -/
def mkY (g : Int32 → Int32 → Int32) (hb : Int32 → Int32) (a : Int32) : Int32 := if (mfI g hb a 6 0 (0, 0)).2 = 0 then -9 else if (mfI g hb a 6 0 (0, 0)).1 / (mfI g hb a 6 0 (0, 0)).2 < 0 then 0 else if 100 < (mfI g hb a 6 0 (0, 0)).1 / (mfI g hb a 6 0 (0, 0)).2 then 100 else (mfI g hb a 6 0 (0, 0)).1 / (mfI g hb a 6 0 (0, 0)).2
/-- what a READER's marks are scaled by -/
def hsY (Y : Nat → Nat → Int32) (r : Int32) : Int32 := if Y 0 11 = 1 then hbY (cmY Y) (Y 0 17) r else 0
section YC
variable {d n t M : Nat} {K L : Nat → Nat} {I I0 J J0 J1 J2 : Nat → Nat → Int32} {R : Nat → Nat → Nat} {P : Option Value → AH → Prop} {f : Nat → Int32} {e : Int32}
/-- what the reference scales a READER's marks by -/
theorem xt_markFor_7 (hS : m_S M K L R) (hR : mR M I) (hm : mkP (yv M I)) {a : Int32} (ha : 0 ≤ a ∧ a < 30) {V : Int32 × Int32} (hC : ∀ r, a_at (d + 1) (a_xm a_m193) 72 [some (a_rf M), some (.int a), some (.int (V.2)), some (.int (V.1)), some (.int r)] [] (n, t, K, L, I, R) P) : ∀ r : Int32, r ≤ 6 → ∀ q s, 0 ≤ r → mfI (cmY (yv M I)) (hsY (yv M I)) a (6 - r.toNatClampNeg) r (s, q) = V → a_at (d + 1) (a_xm a_m193) 7 [some (a_rf M), some (.int a), some (.int q), some (.int s), some (.int r)] [] (n, t, K, L, I, R) P := by
  refine up_ind 6 (fun r hk ih => ?_)
  intro q s h0 hV
  have er := cmY_no (r := r) (a := a) hm
  have hexit : ¬ r < 6 → a_at (d + 1) (a_xm a_m193) 72 [some (a_rf M), some (.int a), some (.int q), some (.int s), some (.int r)] [] (n, t, K, L, I, R) P := fun w => by
    have : r = 6 := by clear ih hC hV hm er; grind
    subst this
    have hc := hC 6
    rw [← hV] at hc
    exact hc
  have hst : r < 6 → ∀ p, (p = if cmY (yv M I) r a = -9 then (s, q) else (s + (cmY (yv M I) r a - hsY (yv M I) r), q + 1)) → a_at (d + 1) (a_xm a_m193) 7 [some (a_rf M), some (.int a), some (.int (p.2)), some (.int (p.1)), some (.int (r + 1))] [] (n, t, K, L, I, R) P := fun c p hp => by
    have i3 : r.toNatClampNeg < 6 := show _ < (6 : Int32).toNatClampNeg from cl_lt h0 c
    have ei : (r + 1).toNatClampNeg = r.toNatClampNeg + 1 := cl_up h0 (by clear ih hC hV hm er hp; grind)
    refine ih c p.2 p.1 (by clear ih hC hV hm er hp; grind) ?_
    rw [← hV, ei, show 6 - r.toNatClampNeg = (6 - (r.toNatClampNeg + 1)) + 1 by omega]
    conv => rhs; unfold mfI
    rw [← hp]
  have hgo0 : r < 6 → I (M + 38) (30 * r + a).toNatClampNeg = 0 → a_at (d + 1) (a_xm a_m193) 7 [some (a_rf M), some (.int a), some (.int q), some (.int s), some (.int (r + 1))] [] (n, t, K, L, I, R) P := fun c1 c2 => hst c1 (s, q) (by rw [if_pos (by rw [er]; exact c2)])
  have hgo1 : r < 6 → ¬ I (M + 38) (30 * r + a).toNatClampNeg = 0 → a_at (d + 1) (a_xm a_m193) 32 [some (a_rf M), some (.int a), some (.int (q + 1)), some (.int s), some (.int r)] [] (n, t, K, L, I, R) P := fun c1 c2 => by
    have hg := hst c1 (s + (cmY (yv M I) r a - hsY (yv M I) r), q + 1) (by rw [if_neg (by rw [er]; exact c2)])
    have e1 : cmY (yv M I) r a = I (M + 36) (30 * r + a).toNatClampNeg := if_neg c2
    have hr : 0 ≤ r ∧ r ≤ 5 := by clear ih hC hV hm er hst hg; grind
    rw [e1] at hg
    unfold hsY at hg
    by_cases c3 : I M 11 = 1
    · rw [if_pos (show yv M I 0 11 = 1 from c3)] at hg
      clear ih hC hV hst er hexit hgo0
      repeat' first
        | with_reducible apply And.intro
        | with_reducible assumption
        | with_reducible intro _
        | refine xt_habitOf hS hR hm hr ?_
        | exact hg
        | simp only [q193_32, q193_33, q193_34, q193_37, q193_39, q193_41, q193_42, q193_43, q193_44, q193_45, q193_46, q193_49, q193_50, q193_53, q193_54, q193_56, q193_59, q193_62, q193_63, q193_64, q193_65, q193_66, q193_69, m_0 hS, m_K hS, mR_marks hS, mK_marks hS, mL_marks hS, as_nil, as_i, as_r, Nat.reduceAdd, Nat.reduceLeDiff, z_eq0, z_eq1, z_or, z_em, Classical.not_not, not_false_eq_true, not_true_eq_false, true_and, and_true, false_and, and_false, and_self, true_implies, false_implies, implies_true, Option.toList_some, Option.toList_none, List.cons_append, List.nil_append, Nat.add_eq_zero_iff, a_nl_i, a_nl_r, a_nl_n, true_or, or_true, eq_self, ok_4, ok_5, ok_6, ok_7, ok_9, ok_10, ok_20, ok_21, ok_24, ok_30, ok_48, ok_50, ok_60, ok_80, ok_120, ok_180, ok_192, ok_200, ok_900, ok_1000, ok_84000, c3]
      all_goals ((try clear hg); (try clear hm); (try clear hS); (try clear hR); grind [ui_ap])
    · rw [if_neg (show ¬ yv M I 0 11 = 1 from c3)] at hg
      clear ih hC hV hst er hexit hgo0
      repeat' first
        | with_reducible apply And.intro
        | with_reducible assumption
        | with_reducible intro _
        | exact hg
        | simp only [q193_32, q193_33, q193_34, q193_37, q193_39, q193_41, q193_42, q193_43, q193_44, q193_45, q193_46, q193_49, q193_50, q193_53, q193_54, q193_56, q193_59, q193_62, q193_63, q193_64, q193_65, q193_66, q193_69, m_0 hS, m_K hS, mR_marks hS, mK_marks hS, mL_marks hS, as_nil, as_i, as_r, Nat.reduceAdd, Nat.reduceLeDiff, z_eq0, z_eq1, z_or, z_em, Classical.not_not, not_false_eq_true, not_true_eq_false, true_and, and_true, false_and, and_false, and_self, true_implies, false_implies, implies_true, Option.toList_some, Option.toList_none, List.cons_append, List.nil_append, Nat.add_eq_zero_iff, a_nl_i, a_nl_r, a_nl_n, true_or, or_true, eq_self, ok_4, ok_5, ok_6, ok_7, ok_9, ok_10, ok_20, ok_21, ok_24, ok_30, ok_48, ok_50, ok_60, ok_80, ok_120, ok_180, ok_192, ok_200, ok_900, ok_1000, ok_84000, c3]
      all_goals ((try clear hg); (try clear hm); (try clear hS); (try clear hR); grind [ui_ap])
  clear ih hC hV hst er hm
  rw [q193_7]
  repeat' first
    | with_reducible apply And.intro
    | with_reducible assumption
    | with_reducible intro _
    | refine hexit ?_
    | refine hgo0 ?_ ?_
    | refine hgo1 ?_ ?_
    | simp only [q193_9, q193_11, q193_14, q193_15, q193_18, q193_20, q193_22, q193_23, q193_24, q193_25, q193_26, q193_29, q193_66, q193_69, m_0 hS, m_K hS, mR_doesCount hS, mK_doesCount hS, mL_doesCount hS, as_nil, as_i, as_r, Nat.reduceAdd, Nat.reduceLeDiff, z_eq0, z_eq1, z_or, z_em, Classical.not_not, not_false_eq_true, not_true_eq_false, true_and, and_true, false_and, and_false, and_self, true_implies, false_implies, implies_true, Option.toList_some, Option.toList_none, List.cons_append, List.nil_append, Nat.add_eq_zero_iff, a_nl_i, a_nl_r, a_nl_n, true_or, or_true, eq_self, ok_4, ok_5, ok_6, ok_7, ok_9, ok_10, ok_20, ok_21, ok_24, ok_30, ok_48, ok_50, ok_60, ok_80, ok_120, ok_180, ok_192, ok_200, ok_900, ok_1000, ok_84000]
  all_goals ((try clear hexit); (try clear hgo1); (try clear hgo0); (try clear hS); (try clear hR); grind [ui_ap])
theorem xt_markFor (hS : m_S M K L R) (hR : mR M I) (hm : mkP (yv M I)) {a : Int32} (ha : 0 ≤ a ∧ a < 30) (hP : P (some (.int (mkY (cmY (yv M I)) (hsY (yv M I)) a))) (n, t, K, L, I, R)) : a_does (d + 2) 193 [a_rf M, .int a] (n, t, K, L, I, R) P := by
  have hl := xt_markFor_7 (d := d) (n := n) (t := t) (P := P) hS hR hm ha (V := mfI (cmY (yv M I)) (hsY (yv M I)) a 6 0 (0, 0)) (fun r => by
    unfold mkY at hP
    generalize mfI (cmY (yv M I)) (hsY (yv M I)) a 6 0 (0, 0) = W at hP ⊢
    simp only [q193_72, q193_73, q193_76, q193_78, q193_79, q193_80, q193_81, q193_82, q193_84, q193_86, q193_89, q193_90, q193_93, q193_95, q193_97, q193_100, q193_102, q193_105, q193_107, as_nil, as_i, as_r, Nat.reduceAdd, Nat.reduceLeDiff, z_eq0, z_eq1, z_or, z_em, Classical.not_not, not_false_eq_true, not_true_eq_false, true_and, and_true, false_and, and_false, and_self, true_implies, false_implies, implies_true, Option.toList_some, Option.toList_none, List.cons_append, List.nil_append, Nat.add_eq_zero_iff, a_nl_i, a_nl_r, a_nl_n, true_or, or_true, eq_self, ok_4, ok_5, ok_6, ok_7, ok_9, ok_10, ok_20, ok_21, ok_24, ok_30, ok_48, ok_50, ok_60, ok_80, ok_120, ok_180, ok_192, ok_200, ok_900, ok_1000, ok_84000]
    by_cases c0 : W.2 = 0
    · rw [if_pos c0] at hP
      grind
    · rw [if_neg c0] at hP
      by_cases c1 : W.1 / W.2 < 0
      · rw [if_pos c1] at hP
        grind
      · rw [if_neg c1] at hP
        by_cases c2 : 100 < W.1 / W.2
        · rw [if_pos c2] at hP
          grind
        · rw [if_neg c2] at hP
          grind) 0 (by decide) 0 0 (by decide) rfl
  rw [a_enter1 (M := a_m193) rfl (a_cat_rf (a_cat_int a_cat_nil)) (show 2 ≤ 5 by decide)]
  show a_at _ (a_xm a_m193) 0 [some (a_rf M), some (.int a), none, none, none] [] _ _
  repeat' first
    | with_reducible apply And.intro
    | with_reducible assumption
    | with_reducible intro _
    | with_reducible apply hl
    | simp only [q193_0, q193_1, q193_2, q193_3, q193_4, q193_5, as_nil, as_i, as_r, Nat.reduceAdd, Nat.reduceLeDiff, z_eq0, z_eq1, z_or, z_em, Classical.not_not, not_false_eq_true, not_true_eq_false, true_and, and_true, false_and, and_false, and_self, true_implies, false_implies, implies_true, Option.toList_some, Option.toList_none, List.cons_append, List.nil_append, Nat.add_eq_zero_iff, a_nl_i, a_nl_r, a_nl_n, true_or, or_true, eq_self, ok_4, ok_5, ok_6, ok_7, ok_9, ok_10, ok_20, ok_21, ok_24, ok_30, ok_48, ok_50, ok_60, ok_80, ok_120, ok_180, ok_192, ok_200, ok_900, ok_1000, ok_84000]
  all_goals grind [ui_ap]
end YC

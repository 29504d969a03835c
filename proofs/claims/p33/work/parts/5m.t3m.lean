/-! the class: free hosts -/
/-- who stands in a row of SHIFTS, but for one ASK -/
def stI (w u : Nat → Int32) (a : Int32) : Nat → Int32 → Int32 → Int32
  | 0, _, p => p
  | k + 1, x, p => stI w u a k (x + 1) (if w x.toNatClampNeg = a then p else p ||| u x.toNatClampNeg)
def ftB (W T : Int32 → Nat → Int32) (a f : Int32) (c : Nat) : Nat → Int32 → Int32 → Int32
  | 0, _, p => p
  | k + 1, b, p => ftB W T a f c k (b + 1) (p ||| stI (W b) (T b) a c f 0)
/-- the class's rows: who has a bench, who stands there -/
def whC (C : Nat) (I : Nat → Nat → Int32) (R : Nat → Nat → Nat) (b : Int32) : Nat → Int32 := I (R (R (C + 16) b.toNatClampNeg) 2)
def snC (C : Nat) (I : Nat → Nat → Int32) (R : Nat → Nat → Nat) (b : Int32) : Nat → Int32 := I (R (R (C + 16) b.toNatClampNeg) 3)
section YM
variable {d n t C : Nat} {K L : Nat → Nat} {I I0 J J0 J1 J2 : Nat → Nat → Int32} {R : Nat → Nat → Nat} {P : Option Value → AH → Prop}
variable {Y : Nat → Nat → Int32} {W T : Int32 → Nat → Int32}
theorem stI_bit {w u : Nat → Int32} {a m : Int32} (hm : m ≤ 200) {h : Nat} : ∀ (k : Nat) (i p : Int32), 0 ≤ i → i ≤ m → m.toNatClampNeg = i.toNatClampNeg + k → (bq (stI w u a k i p) h = true ↔ (bq p h = true ∨ ∃ x : Int32, i ≤ x ∧ x < m ∧ ¬ w x.toNatClampNeg = a ∧ bq (u x.toNatClampNeg) h = true)) := by
  intro k
  induction k with
  | zero =>
    intro i p h0 h1 h2
    have e : i = m := cl_inj h0 (Int32.le_trans h0 h1) (by omega)
    subst e
    refine ⟨fun q => Or.inl q, fun q => ?_⟩
    rcases q with q | ⟨x, x1, x2, -⟩
    · exact q
    · exact absurd (c_ll x2 x1) Int32.lt_irrefl
  | succ k ih =>
    intro i p h0 h1 h2
    have him : i < m := cl_lt2 h0 (Int32.le_trans h0 h1) (by omega)
    have ei : (i + 1).toNatClampNeg = i.toNatClampNeg + 1 := cl_up h0 (by clear ih h2; grind)
    unfold stI
    rw [ih (i + 1) _ (by clear ih h2 ei; grind) (by clear ih h2 ei; grind) (by omega)]
    by_cases c : w i.toNatClampNeg = a
    · rw [if_pos c]
      refine ⟨fun q => ?_, fun q => ?_⟩
      · rcases q with q | ⟨x, x1, x2, x3⟩
        · exact Or.inl q
        · exact Or.inr ⟨x, by clear ih h2 ei x3 c; grind, x2, x3⟩
      · rcases q with q | ⟨x, x1, x2, x3⟩
        · exact Or.inl q
        · by_cases e : x = i
          · subst e
            exact absurd c x3.1
          · exact Or.inr ⟨x, by clear ih h2 ei x3 c; grind, x2, x3⟩
    · rw [if_neg c, bq_or, Bool.or_eq_true]
      refine ⟨fun q => ?_, fun q => ?_⟩
      · rcases q with (q | q) | ⟨x, x1, x2, x3⟩
        · exact Or.inl q
        · exact Or.inr ⟨i, Int32.le_refl i, him, c, q⟩
        · exact Or.inr ⟨x, by clear ih h2 ei x3 c; grind, x2, x3⟩
      · rcases q with q | ⟨x, x1, x2, x3⟩
        · exact Or.inl (Or.inl q)
        · by_cases e : x = i
          · subst e
            exact Or.inl (Or.inr x3.2)
          · exact Or.inr ⟨x, by clear ih h2 ei x3 c; grind, x2, x3⟩
theorem ftB_bit {a f m e1 : Int32} {c : Nat} (hm : m ≤ 6) (he : e1 ≤ 200) (hf : 0 ≤ f ∧ f ≤ e1) (hc : e1.toNatClampNeg = f.toNatClampNeg + c) {h : Nat} : ∀ (k : Nat) (i p : Int32), 0 ≤ i → i ≤ m → m.toNatClampNeg = i.toNatClampNeg + k → (bq (ftB W T a f c k i p) h = true ↔ (bq p h = true ∨ ∃ b x : Int32, i ≤ b ∧ b < m ∧ f ≤ x ∧ x < e1 ∧ ¬ W b x.toNatClampNeg = a ∧ bq (T b x.toNatClampNeg) h = true)) := by
  intro k
  induction k with
  | zero =>
    intro i p h0 h1 h2
    have e : i = m := cl_inj h0 (Int32.le_trans h0 h1) (by omega)
    subst e
    refine ⟨fun q => Or.inl q, fun q => ?_⟩
    rcases q with q | ⟨b, x, x1, x2, -⟩
    · exact q
    · exact absurd (c_ll x2 x1) Int32.lt_irrefl
  | succ k ih =>
    intro i p h0 h1 h2
    have him : i < m := cl_lt2 h0 (Int32.le_trans h0 h1) (by omega)
    have ei : (i + 1).toNatClampNeg = i.toNatClampNeg + 1 := cl_up h0 (by clear ih h2 hc hf he; grind)
    unfold ftB
    rw [ih (i + 1) _ (by clear ih h2 ei hc hf he; grind) (by clear ih h2 ei hc hf he; grind) (by omega), bq_or, Bool.or_eq_true, stI_bit he c f 0 hf.1 hf.2 hc, bq_0]
    refine ⟨fun q => ?_, fun q => ?_⟩
    · rcases q with (q | q | ⟨x, x1, x2, x3⟩) | ⟨b, x, x1, x2, x3⟩
      · exact Or.inl q
      · exact absurd q Bool.false_ne_true
      · exact Or.inr ⟨i, x, Int32.le_refl i, him, x1, x2, x3⟩
      · exact Or.inr ⟨b, x, by clear ih h2 ei x3 hc hf he; grind, x2, x3⟩
    · rcases q with q | ⟨b, x, x1, x2, x3⟩
      · exact Or.inl (Or.inl q)
      · by_cases e : b = i
        · subst e
          exact Or.inl (Or.inr (Or.inr ⟨x, x3⟩))
        · exact Or.inr ⟨b, x, by clear ih h2 ei x3 hc hf he; grind, x2, x3⟩
/-- free hosts are the same by the class's rows and by the model's places -/
theorem busy_eq (hp : plP W T Y) (hl : ∀ j, 0 ≤ Y 10 j ∧ Y 10 j ≤ 4) (hn : 0 ≤ Y 0 17 ∧ Y 0 17 ≤ 30) (hb : 0 ≤ Y 0 6 ∧ Y 0 6 ≤ 6) {a s f e : Int32} (hfe : ∀ x : Int32, (0 ≤ x ∧ x ≤ 199 ∧ x - s ≤ Y 0 9 ∧ -(Y 0 9) ≤ x - s) ↔ (f ≤ x ∧ x ≤ e)) (hf : 0 ≤ f ∧ f ≤ e + 1) (he : e ≤ 199) {c : Nat} (hc : (e + 1).toNatClampNeg = f.toNatClampNeg + c) : ftB W T a f c (Y 0 6).toNatClampNeg 0 0 = fbO Y a s (Y 0 17).toNatClampNeg 0 0 := by
  refine bq_ext (fun h h32 => ?_)
  rw [Bool.eq_iff_iff, fbO_bit hn.2 hl _ 0 0 (by decide) hn.1 (by rw [show (0 : Int32).toNatClampNeg = 0 from rfl, Nat.zero_add]), ftB_bit hb.2 (e1 := e + 1) (by clear hp hl hfe hc; grind) hf hc _ 0 0 (by decide) hb.1 (by rw [show (0 : Int32).toNatClampNeg = 0 from rfl, Nat.zero_add]), busy_same hp hl hfe, bq_0]
  refine ⟨fun q => ?_, fun q => ?_⟩
  · rcases q with q | ⟨b, x, x1, x2, x3, x4, x5⟩
    · exact Or.inl q
    · exact Or.inr ⟨b, x, x1, x2, x3, by clear hp hl hfe hc x5; grind, x5⟩
  · rcases q with q | ⟨b, x, x1, x2, x3, x4, x5⟩
    · exact Or.inl q
    · exact Or.inr ⟨b, x, x1, x2, x3, by clear hp hl hfe hc x5; grind, x5⟩
theorem le_standing_6 {b : Nat} (hb : K b = 3) (hT : cT C K L I R) {f e a : Int32} (he : e ≤ 199) {V : Int32} (hP : P (some (.int V)) (n, t, K, L, I, R)) : ∀ x : Int32, x ≤ 200 → ∀ p, 0 ≤ x → x ≤ e + 1 → stI (I (R b 2)) (I (R b 3)) a ((e + 1).toNatClampNeg - x.toNatClampNeg) x p = V → a_at d (a_xm a_m109) 6 [some (a_rf b), some (.int f), some (.int e), some (.int a), some (.int p), some (.int x)] [] (n, t, K, L, I, R) P := by
  have hS := hT.s
  obtain ⟨b1, ⟨w1, w2, w3⟩, ⟨s1, s2, s3⟩, ⟨h1, h2, h3⟩, ⟨p1, p2, p3⟩, q1⟩ := hT.g_bnc b hb
  have b0 : (b = 0) = False := eq_false (by omega)
  have w0 : (R b 2 = 0) = False := eq_false (by omega)
  have s0 : (R b 3 = 0) = False := eq_false (by omega)
  have h0 : (R b 4 = 0) = False := eq_false (by omega)
  have p0 : (R b 5 = 0) = False := eq_false (by omega)
  refine up_ind 200 (fun x hk ih => ?_)
  intro p y0 y1 hV
  have hexit : e < x → P (some (.int p)) (n, t, K, L, I, R) := fun w => by
    have ex : x = e + 1 := by
      clear ih hP hV hT hS b0 w0 s0 h0 p0 w1 w2 w3 s1 s2 s3 h1 h2 h3 p1 p2 p3 q1
      grind
    rw [← ex, Nat.sub_self] at hV
    rw [← hV] at hP
    exact hP
  have hgo : ¬ e < x → ∀ z, z = (if I (R b 2) x.toNatClampNeg = a then p else p ||| I (R b 3) x.toNatClampNeg) → a_at d (a_xm a_m109) 6 [some (a_rf b), some (.int f), some (.int e), some (.int a), some (.int z), some (.int (x + 1))] [] (n, t, K, L, I, R) P := fun w z hz => by
    have x2 : x < 200 := by
      clear ih hP hV hT hS b0 w0 s0 h0 p0 w1 w2 w3 s1 s2 s3 h1 h2 h3 p1 p2 p3 q1 hz hexit
      grind
    have xe : x < e + 1 := by
      clear ih hP hV hT hS b0 w0 s0 h0 p0 w1 w2 w3 s1 s2 s3 h1 h2 h3 p1 p2 p3 q1 hz hexit
      grind
    have x3 := cl_lt y0 xe
    have ei : (x + 1).toNatClampNeg = x.toNatClampNeg + 1 := cl_up y0 (by
      clear ih hP hV hT hS b0 w0 s0 h0 p0 w1 w2 w3 s1 s2 s3 h1 h2 h3 p1 p2 p3 q1 hz hexit
      grind)
    refine ih x2 z ?_ ?_ ?_
    · clear ih hP hV hT hS b0 w0 s0 h0 p0 w1 w2 w3 s1 s2 s3 h1 h2 h3 p1 p2 p3 q1 hz hexit
      grind
    · clear ih hP hV hT hS b0 w0 s0 h0 p0 w1 w2 w3 s1 s2 s3 h1 h2 h3 p1 p2 p3 q1 hz hexit
      grind
    · rw [← hV, ei, show (e + 1).toNatClampNeg - x.toNatClampNeg = ((e + 1).toNatClampNeg - (x.toNatClampNeg + 1)) + 1 by omega, hz]
      rfl
  have x200 : ¬ e < x → 0 ≤ x ∧ x < 200 := fun w => by
    clear ih hP hV hT hS b0 w0 s0 h0 p0 w1 w2 w3 s1 s2 s3 h1 h2 h3 p1 p2 p3 q1 hexit hgo
    grind
  clear ih hP hV
  rw [q109_6]
  by_cases c : I (R b 2) x.toNatClampNeg = a
  · have hgo := fun w => hgo w p (by rw [if_pos c])
    simp only [q109_8, q109_9, q109_12, q109_13, q109_16, q109_18, q109_19, q109_20, q109_23, q109_25, q109_26, q109_29, q109_31, q109_32, q109_33, q109_35, q109_38, q109_41, q109_43, as_nil, as_i, as_r, Nat.reduceAdd, Nat.reduceLeDiff, z_eq0, z_eq1, z_or, z_em, Classical.not_not, not_false_eq_true, not_true_eq_false, true_and, and_true, false_and, and_false, and_self, true_implies, false_implies, implies_true, Option.toList_some, Option.toList_none, List.cons_append, List.nil_append, Nat.add_eq_zero_iff, a_nl_i, a_nl_r, a_nl_n, true_or, or_true, eq_self, a_isRA_22, a_isRA_24, a_isRA_32, a_isA_20, ok_4, ok_5, ok_6, ok_7, ok_9, ok_20, ok_21, ok_30, ok_50, ok_180, ok_192, ok_200, hb, b0, w0, w2, w3, s0, s2, s3, h0, h2, h3, p0, p2, c]
    clear hT hS
    grind
  · have hgo := fun w => hgo w (p ||| I (R b 3) x.toNatClampNeg) (by rw [if_neg c])
    simp only [q109_8, q109_9, q109_12, q109_13, q109_16, q109_18, q109_19, q109_20, q109_23, q109_25, q109_26, q109_29, q109_31, q109_32, q109_33, q109_35, q109_38, q109_41, q109_43, as_nil, as_i, as_r, Nat.reduceAdd, Nat.reduceLeDiff, z_eq0, z_eq1, z_or, z_em, Classical.not_not, not_false_eq_true, not_true_eq_false, true_and, and_true, false_and, and_false, and_self, true_implies, false_implies, implies_true, Option.toList_some, Option.toList_none, List.cons_append, List.nil_append, Nat.add_eq_zero_iff, a_nl_i, a_nl_r, a_nl_n, true_or, or_true, eq_self, a_isRA_22, a_isRA_24, a_isRA_32, a_isA_20, ok_4, ok_5, ok_6, ok_7, ok_9, ok_20, ok_21, ok_30, ok_50, ok_180, ok_192, ok_200, hb, b0, w0, w2, w3, s0, s2, s3, h0, h2, h3, p0, p2, c]
    clear hT hS
    grind
theorem ce_standing {b : Nat} (hb : K b = 3) (hT : cT C K L I R) {f e a : Int32} (hf : 0 ≤ f ∧ f ≤ e + 1) (he : e ≤ 199) (hP : P (some (.int (stI (I (R b 2)) (I (R b 3)) a ((e + 1).toNatClampNeg - f.toNatClampNeg) f 0))) (n, t, K, L, I, R)) : a_does (d + 1) 109 [a_rf b, .int f, .int e, .int a] (n, t, K, L, I, R) P := by
  have hl := le_standing_6 (d := d) (n := n) (t := t) (P := P) (f := f) hb hT he hP f (by clear hP hT hb; grind) 0 hf.1 hf.2 rfl
  clear hP
  rw [a_enter1 (M := a_m109) rfl (a_cat_rf (a_cat_int (a_cat_int (a_cat_int a_cat_nil)))) (show 4 ≤ 6 by decide)]
  show a_at _ (a_xm a_m109) 0 [some (a_rf b), some (.int f), some (.int e), some (.int a), none, none] [] _ _
  simp only [q109_0, q109_1, q109_3, q109_4, as_nil, as_i, as_r, Nat.reduceAdd, Nat.reduceLeDiff, z_eq0, z_eq1, z_or, z_em, Classical.not_not, not_false_eq_true, not_true_eq_false, true_and, and_true, false_and, and_false, and_self, true_implies, false_implies, implies_true, Option.toList_some, Option.toList_none, List.cons_append, List.nil_append, Nat.add_eq_zero_iff, a_nl_i, a_nl_r, a_nl_n, true_or, or_true, eq_self, a_isRA_22, a_isRA_24, a_isRA_32, a_isA_20, ok_4, ok_5, ok_6, ok_7, ok_9, ok_20, ok_21, ok_30, ok_50, ok_180, ok_192, ok_200]
  exact hl
end YM
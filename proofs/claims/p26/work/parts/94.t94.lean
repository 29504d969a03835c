/-! the reference's search for the best, just so -/
section Z94
variable {d n t M : Nat} {K L : Nat → Nat} {I I0 J J0 J1 J2 : Nat → Nat → Int32} {R : Nat → Nat → Nat} {P : Option Value → AH → Prop} {f : Nat → Int32} {e : Int32}
variable {Y Z W : Nat → Nat → Int32} {g : Nat → Int32} {f e : Int32} {pl m : Nat}
theorem io {n : Nat} (h : n < 1000) : (Int32.ofNat n).toInt = n ∧ (Int32.ofNat n).toNatClampNeg = n := ⟨(cl_on2 (by omega)).2, (cl_on2 (by omega)).1⟩
theorem io_lt {a b : Nat} (ha : a < 1000) (hb : b < 1000) : (Int32.ofNat a < Int32.ofNat b) = (a < b) := propext (by rw [Int32.lt_iff_toInt_lt, (io ha).1, (io hb).1]; omega)
theorem io_le {a b : Nat} (ha : a < 1000) (hb : b < 1000) : (Int32.ofNat a ≤ Int32.ofNat b) = (a ≤ b) := propext (by rw [Int32.le_iff_toInt_le, (io ha).1, (io hb).1]; omega)
theorem io_eq {a b : Nat} (ha : a < 1000) (hb : b < 1000) : (Int32.ofNat a = Int32.ofNat b) = (a = b) := propext ⟨fun q => by
  have := congrArg Int32.toInt q
  rw [(io ha).1, (io hb).1] at this
  omega, fun q => by rw [q]⟩
theorem io_0 {n : Nat} (h : n < 1000) : 0 ≤ Int32.ofNat n := by
  rw [Int32.le_iff_toInt_le, (io h).1]
  show (0 : Int) ≤ n
  omega
theorem io_s {n : Nat} (h : n < 900) : Int32.ofNat n + 1 = Int32.ofNat (n + 1) := by
  have c1 : (1 : Int32).toInt = 1 := rfl
  refine Int32.toInt_inj.mp ?_
  rw [ti_add (by rw [(io (n := n) (by omega)).1, c1]; omega), (io (n := n) (by omega)).1, (io (n := n + 1) (by omega)).1, c1]
  omega
theorem io_p {n : Nat} (h : n < 900) : Int32.ofNat (n + 1) + (-1) = Int32.ofNat n := by
  rw [← io_s h]
  ((try clear h))
  grind
theorem io_k {n k : Nat} (h : n < k) (hk : k < 1000) : 0 ≤ Int32.ofNat n ∧ Int32.ofNat n < Int32.ofNat k := ⟨io_0 (by omega), by rw [io_lt (by omega) hk]; exact h⟩
/-- a place fits an ASK, an ASK is put there, what it is worth -/
def bfi (Y : Nat → Nat → Int32) (f e : Int32) (g : Nat → Int32) (W : Nat → Nat → Int32) (k p : Nat) : Bool := decide ((f + Int32.ofNat p / Y 0 6) + Y 10 (g k).toNatClampNeg - 1 ≤ e ∧ ftY W (g k) (Int32.ofNat p - Int32.ofNat p / Y 0 6 * Y 0 6) (f + Int32.ofNat p / Y 0 6) = 0)
def bpu (Y : Nat → Nat → Int32) (f : Int32) (g : Nat → Int32) (W : Nat → Nat → Int32) (k p : Nat) : Nat → Nat → Int32 := puY W (g k) (Int32.ofNat p - Int32.ofNat p / Y 0 6 * Y 0 6) (f + Int32.ofNat p / Y 0 6)
def bwt (Y : Nat → Nat → Int32) (g : Nat → Int32) (k : Nat) : Int32 := if maY Y (g k) < 0 then 0 else maY Y (g k)
/-- the places there are -/
def plR (Y : Nat → Nat → Int32) (f e : Int32) (pl : Nat) : Prop := pl ≤ 48 ∧ (0 ≤ Y 0 6 ∧ Y 0 6 ≤ 6) ∧ (0 ≤ f ∧ f ≤ 199) ∧ e ≤ 199 ∧ ∀ p, p < pl → 0 < Y 0 6 ∧ (f + Int32.ofNat p / Y 0 6) ≤ e
theorem pl_rng (h : plR Y f e pl) {p : Nat} (hp : p < pl) : (0 ≤ (Int32.ofNat p - Int32.ofNat p / Y 0 6 * Y 0 6) ∧ (Int32.ofNat p - Int32.ofNat p / Y 0 6 * Y 0 6) < Y 0 6 ∧ (Int32.ofNat p - Int32.ofNat p / Y 0 6 * Y 0 6) ≤ 5) ∧ (0 ≤ (f + Int32.ofNat p / Y 0 6) ∧ (f + Int32.ofNat p / Y 0 6) ≤ 199) ∧ ¬ Y 0 6 = 0 := by
  obtain ⟨h1, h2, h3, h4, h5⟩ := h
  obtain ⟨q1, q2⟩ := h5 p hp
  have p0 : 0 ≤ Int32.ofNat p := io_0 (by omega)
  have p1 : Int32.ofNat p ≤ 1000 := by
    rw [Int32.le_iff_toInt_le, (io (n := p) (by omega)).1]
    show (p : Int) ≤ 1000
    omega
  have r := rem_rng p0 q1 p1 (by ((try clear h5); (try clear q2)); grind)
  have v := div_rng p0 q1
  have p48 : Int32.ofNat p ≤ 48 := by
    rw [Int32.le_iff_toInt_le, (io (n := p) (by omega)).1]
    show (p : Int) ≤ 48
    omega
  generalize Int32.ofNat p - Int32.ofNat p / Y 0 6 * Y 0 6 = x at r ⊢
  generalize Int32.ofNat p / Y 0 6 = y at v q2 ⊢
  ((try clear h5))
  refine ⟨⟨r.1, r.2, by grind⟩, ⟨by grind, by grind⟩, by grind⟩
/-- the next place that fits -/
theorem xb_166 (hS : m_S M K L R) (hpr : plR Y f e pl) (hm : moP M J0) (e6 : J0 M 6 = Y 0 6) {k : Nat} (hk : 0 ≤ (g k) ∧ (g k) < 30) (e10 : J0 (M + 10) (g k).toNatClampNeg = Y 10 (g k).toNatClampNeg) (hft : ∀ b s, ftY (yv M J0) (g k) b s = ftY W (g k) b s) {b i : Int32} {p0 : Nat} (hN : ∀ J q fd s, mC M J0 J → p0 ≤ q → q ≤ pl → (∀ x, p0 ≤ x → x < q → ¬ bfi Y f e g W k x = true) → (q < pl → bfi Y f e g W k q = true) → a_at (d + 10) (a_xm a_m243) 264 [some (a_rf M), some (.int f), some (.int e), some (.int (Int32.ofNat pl)), some (.int b), some (.int i), some (.int (g k)), some (.int (Int32.ofNat q)), some (.int fd), s] [] (n, t, K, L, J, R) P) (hN2 : ∀ J s, mC M J0 J → p0 = pl + 1 → a_at (d + 10) (a_xm a_m243) 264 [some (a_rf M), some (.int f), some (.int e), some (.int (Int32.ofNat pl)), some (.int b), some (.int i), some (.int (g k)), some (.int (Int32.ofNat (pl + 1))), some (.int 0), s] [] (n, t, K, L, J, R) P) : ∀ (dd p : Nat) (J : Nat → Nat → Int32) (s : Option Value), p + dd = pl + 1 → p0 ≤ p → (p0 = p ∨ p ≤ pl) → mC M J0 J → (∀ x, p0 ≤ x → x < p → ¬ bfi Y f e g W k x = true) → a_at (d + 10) (a_xm a_m243) 166 [some (a_rf M), some (.int f), some (.int e), some (.int (Int32.ofNat pl)), some (.int b), some (.int i), some (.int (g k)), some (.int (Int32.ofNat p)), some (.int 0), s] [] (n, t, K, L, J, R) P := by
  intro dd
  have h48 := hpr.1
  induction dd with
  | zero =>
    intro p J s h1 h2 h3 hC hx
    have e1 : p = pl + 1 := by omega
    have hlt : (Int32.ofNat pl < Int32.ofNat (pl + 1)) = True := by rw [io_lt (by omega) (by omega)]; exact eq_true (by omega)
    have hg := hN2 J s hC (by omega)
    subst e1
    ((try clear hN); (try clear hN2); (try clear hC); (try clear hx); (try clear hm))
    rw [q243_166]
    simp only [q243_168, q243_169, as_nil, as_i, as_r, Nat.reduceAdd, Nat.reduceLeDiff, z_eq0, z_eq1, z_or, z_em, Classical.not_not, not_false_eq_true, not_true_eq_false, true_and, and_true, false_and, and_false, and_self, true_implies, false_implies, implies_true, Option.toList_some, Option.toList_none, List.cons_append, List.nil_append, Nat.add_eq_zero_iff, a_nl_i, a_nl_r, a_nl_n, true_or, or_true, eq_self, ok_4, ok_5, ok_6, ok_7, ok_9, ok_10, ok_20, ok_21, ok_24, ok_30, ok_48, ok_50, ok_60, ok_80, ok_120, ok_180, ok_192, ok_200, ok_900, ok_1000, ok_84000, hlt]
    try simp only [true_and, and_true, true_implies, false_implies, implies_true, not_true_eq_false, not_false_eq_true]
    first
      | exact hg
      | grind
  | succ dd ih =>
    intro p J s h1 h2 h3 hC hx
    have hpp : p ≤ pl := by omega
    have hlt : (Int32.ofNat pl < Int32.ofNat p) = False := by rw [io_lt (by omega) (by omega)]; exact eq_false (by omega)
    have n10 : ¬ (1 : Int32) = 0 := by decide
    have hX : ∀ J2 s, mC M J0 J2 → (p < pl → bfi Y f e g W k p = true) → a_at (d + 10) (a_xm a_m243) 166 [some (a_rf M), some (.int f), some (.int e), some (.int (Int32.ofNat pl)), some (.int b), some (.int i), some (.int (g k)), some (.int (Int32.ofNat p)), some (.int 1), s] [] (n, t, K, L, J2, R) P := fun J2 s hC2 hfp => by
      have hg := hN J2 p 1 s hC2 h2 hpp hx hfp
      ((try clear hN); (try clear hN2); (try clear hC); (try clear hC2); (try clear hx); (try clear hm); (try clear ih); (try clear hfp))
      rw [q243_166]
      simp only [q243_168, q243_169, q243_172, q243_174, as_nil, as_i, as_r, Nat.reduceAdd, Nat.reduceLeDiff, z_eq0, z_eq1, z_or, z_em, Classical.not_not, not_false_eq_true, not_true_eq_false, true_and, and_true, false_and, and_false, and_self, true_implies, false_implies, implies_true, Option.toList_some, Option.toList_none, List.cons_append, List.nil_append, Nat.add_eq_zero_iff, a_nl_i, a_nl_r, a_nl_n, true_or, or_true, eq_self, ok_4, ok_5, ok_6, ok_7, ok_9, ok_10, ok_20, ok_21, ok_24, ok_30, ok_48, ok_50, ok_60, ok_80, ok_120, ok_180, ok_192, ok_200, ok_900, ok_1000, ok_84000, hlt, n10]
      try simp only [true_and, and_true, true_implies, false_implies, implies_true, not_true_eq_false, not_false_eq_true]
      first
        | exact hg
        | grind
    have b6 : J M 6 = Y 0 6 := (hC.2 _ _ (by unfold sC; omega)).trans e6
    have b10 : J (M + 10) (g k).toNatClampNeg = Y 10 (g k).toNatClampNeg := (hC.2 _ _ (by unfold sC; omega)).trans e10
    rw [q243_166]
    by_cases c : p = pl
    · have hg := fun s => hX J s hC (fun q => absurd q (by omega))
      have eqp : (Int32.ofNat p = Int32.ofNat pl) = True := eq_true (by rw [c])
      ((try clear hN); (try clear hN2); (try clear hX); (try clear hC); (try clear hx); (try clear hm); (try clear ih))
      by_cases c6 : Y 0 6 = 0
      · simp only [q243_168, q243_169, q243_172, q243_174, q243_177, q243_178, q243_181, q243_184, q243_185, q243_188, q243_189, q243_191, q243_192, q243_195, q243_196, q243_197, q243_199, q243_201, q243_202, q243_239, q243_240, q243_243, q243_244, q243_246, q243_248, q243_250, q243_253, q243_254, q243_257, q243_258, q243_259, q243_261, m_0 hS, m_K hS, as_nil, as_i, as_r, Nat.reduceAdd, Nat.reduceLeDiff, z_eq0, z_eq1, z_or, z_em, Classical.not_not, not_false_eq_true, not_true_eq_false, true_and, and_true, false_and, and_false, and_self, true_implies, false_implies, implies_true, Option.toList_some, Option.toList_none, List.cons_append, List.nil_append, Nat.add_eq_zero_iff, a_nl_i, a_nl_r, a_nl_n, true_or, or_true, eq_self, ok_4, ok_5, ok_6, ok_7, ok_9, ok_10, ok_20, ok_21, ok_24, ok_30, ok_48, ok_50, ok_60, ok_80, ok_120, ok_180, ok_192, ok_200, ok_900, ok_1000, ok_84000, hlt, b6, c6, eqp, n10, Int32.add_zero]
        try simp only [true_and, and_true, true_implies, false_implies, implies_true, not_true_eq_false, not_false_eq_true]
        first
          | exact hg _
          | grind
      · simp only [q243_168, q243_169, q243_172, q243_174, q243_177, q243_178, q243_181, q243_184, q243_185, q243_188, q243_189, q243_191, q243_192, q243_195, q243_196, q243_197, q243_199, q243_201, q243_202, q243_239, q243_240, q243_243, q243_244, q243_246, q243_248, q243_250, q243_253, q243_254, q243_257, q243_258, q243_259, q243_261, m_0 hS, m_K hS, as_nil, as_i, as_r, Nat.reduceAdd, Nat.reduceLeDiff, z_eq0, z_eq1, z_or, z_em, Classical.not_not, not_false_eq_true, not_true_eq_false, true_and, and_true, false_and, and_false, and_self, true_implies, false_implies, implies_true, Option.toList_some, Option.toList_none, List.cons_append, List.nil_append, Nat.add_eq_zero_iff, a_nl_i, a_nl_r, a_nl_n, true_or, or_true, eq_self, ok_4, ok_5, ok_6, ok_7, ok_9, ok_10, ok_20, ok_21, ok_24, ok_30, ok_48, ok_50, ok_60, ok_80, ok_120, ok_180, ok_192, ok_200, ok_900, ok_1000, ok_84000, hlt, b6, c6, eqp, n10, Int32.add_zero]
        try simp only [true_and, and_true, true_implies, false_implies, implies_true, not_true_eq_false, not_false_eq_true]
        first
          | exact hg _
          | grind
    · have hpl : p < pl := by omega
      obtain ⟨⟨r1, r2, r3⟩, r4, c6⟩ := pl_rng hpr hpl
      have eqp : (Int32.ofNat p = Int32.ofNat pl) = False := by rw [io_eq (by omega) (by omega)]; exact eq_false c
      have hnx : ∀ J2 s, mC M J0 J2 → ¬ bfi Y f e g W k p = true → a_at (d + 10) (a_xm a_m243) 166 [some (a_rf M), some (.int f), some (.int e), some (.int (Int32.ofNat pl)), some (.int b), some (.int i), some (.int (g k)), some (.int (Int32.ofNat p + 1)), some (.int 0), s] [] (n, t, K, L, J2, R) P := fun J2 s hC2 hn => by
        rw [io_s (by omega)]
        refine ih (p + 1) J2 s (by omega) (by omega) (Or.inr (by omega)) hC2 (fun x x0 x1 => ?_)
        by_cases ex : x = p
        · rw [ex]; exact hn
        · exact hx x x0 (by omega)
      have hcall : (f + Int32.ofNat p / Y 0 6) + Y 10 (g k).toNatClampNeg - 1 ≤ e → a_does (d + 10) 221 [a_rf M, .int (g k), .int (Int32.ofNat p - Int32.ofNat p / Y 0 6 * Y 0 6), .int (f + Int32.ofNat p / Y 0 6)] (n, t, K, L, J, R) (fun r h' => a_at (d + 10) (a_xm a_m243) 236 [some (a_rf M), some (.int f), some (.int e), some (.int (Int32.ofNat pl)), some (.int b), some (.int i), some (.int (g k)), some (.int (Int32.ofNat p)), some (.int 0), some (.int (f + Int32.ofNat p / Y 0 6))] (r.toList ++ []) h' P) := fun hle => by
        refine xt_fitOf (d := d) hS hm hC hk ⟨r1, r3⟩ r4 (fun J2 hC2 => ?_)
        rw [hft]
        by_cases cf : ftY W (g k) (Int32.ofNat p - Int32.ofNat p / Y 0 6 * Y 0 6) (f + Int32.ofNat p / Y 0 6) = 0
        · have hg := hX J2 (some (.int (f + Int32.ofNat p / Y 0 6))) hC2 (fun _ => decide_eq_true ⟨hle, cf⟩)
          ((try clear hN); (try clear hN2); (try clear hX); (try clear hnx); (try clear hC); (try clear hC2); (try clear hx); (try clear hm); (try clear ih))
          simp only [q243_236, q243_239, q243_240, q243_243, q243_244, q243_246, q243_248, q243_250, q243_253, q243_254, q243_257, q243_258, q243_259, q243_261, as_nil, as_i, as_r, Nat.reduceAdd, Nat.reduceLeDiff, z_eq0, z_eq1, z_or, z_em, Classical.not_not, not_false_eq_true, not_true_eq_false, true_and, and_true, false_and, and_false, and_self, true_implies, false_implies, implies_true, Option.toList_some, Option.toList_none, List.cons_append, List.nil_append, Nat.add_eq_zero_iff, a_nl_i, a_nl_r, a_nl_n, true_or, or_true, eq_self, ok_4, ok_5, ok_6, ok_7, ok_9, ok_10, ok_20, ok_21, ok_24, ok_30, ok_48, ok_50, ok_60, ok_80, ok_120, ok_180, ok_192, ok_200, ok_900, ok_1000, ok_84000, cf, n10, Int32.add_zero]
          try simp only [true_and, and_true, true_implies, false_implies, implies_true, not_true_eq_false, not_false_eq_true]
          first
            | exact hg
            | grind
        · have hg := hnx J2 (some (.int (f + Int32.ofNat p / Y 0 6))) hC2 (fun q => cf (of_decide_eq_true q).2)
          ((try clear hN); (try clear hN2); (try clear hX); (try clear hnx); (try clear hC); (try clear hC2); (try clear hx); (try clear hm); (try clear ih))
          simp only [q243_236, q243_239, q243_240, q243_243, q243_244, q243_246, q243_248, q243_250, q243_253, q243_254, q243_257, q243_258, q243_259, q243_261, as_nil, as_i, as_r, Nat.reduceAdd, Nat.reduceLeDiff, z_eq0, z_eq1, z_or, z_em, Classical.not_not, not_false_eq_true, not_true_eq_false, true_and, and_true, false_and, and_false, and_self, true_implies, false_implies, implies_true, Option.toList_some, Option.toList_none, List.cons_append, List.nil_append, Nat.add_eq_zero_iff, a_nl_i, a_nl_r, a_nl_n, true_or, or_true, eq_self, ok_4, ok_5, ok_6, ok_7, ok_9, ok_10, ok_20, ok_21, ok_24, ok_30, ok_48, ok_50, ok_60, ok_80, ok_120, ok_180, ok_192, ok_200, ok_900, ok_1000, ok_84000, cf]
          try simp only [true_and, and_true, true_implies, false_implies, implies_true, not_true_eq_false, not_false_eq_true]
          first
            | exact hg
            | grind
      by_cases ce : (f + Int32.ofNat p / Y 0 6) + Y 10 (g k).toNatClampNeg - 1 ≤ e
      · have hg := hcall ce
        have ce' : (e < (f + Int32.ofNat p / Y 0 6) + Y 10 (g k).toNatClampNeg - 1) = False := eq_false (Int32.not_lt.mpr ce)
        ((try clear hN); (try clear hN2); (try clear hX); (try clear hnx); (try clear hcall); (try clear hC); (try clear hx); (try clear hm); (try clear ih))
        simp only [q243_168, q243_169, q243_172, q243_174, q243_177, q243_178, q243_181, q243_184, q243_185, q243_188, q243_189, q243_191, q243_192, q243_195, q243_196, q243_197, q243_199, q243_201, q243_202, q243_205, q243_207, q243_208, q243_211, q243_213, q243_214, q243_215, q243_216, q243_217, q243_218, q243_221, q243_222, q243_224, q243_226, q243_227, q243_230, q243_231, q243_233, m_0 hS, m_K hS, mR_length hS, mK_length hS, mL_length hS, as_nil, as_i, as_r, Nat.reduceAdd, Nat.reduceLeDiff, z_eq0, z_eq1, z_or, z_em, Classical.not_not, not_false_eq_true, not_true_eq_false, true_and, and_true, false_and, and_false, and_self, true_implies, false_implies, implies_true, Option.toList_some, Option.toList_none, List.cons_append, List.nil_append, Nat.add_eq_zero_iff, a_nl_i, a_nl_r, a_nl_n, true_or, or_true, eq_self, ok_4, ok_5, ok_6, ok_7, ok_9, ok_10, ok_20, ok_21, ok_24, ok_30, ok_48, ok_50, ok_60, ok_80, ok_120, ok_180, ok_192, ok_200, ok_900, ok_1000, ok_84000, hlt, b6, b10, c6, eqp, ce', hk]
        try simp only [true_and, and_true, true_implies, false_implies, implies_true, not_true_eq_false, not_false_eq_true]
        first
          | exact hg
          | grind
      · have hg := hnx J (some (.int (f + Int32.ofNat p / Y 0 6))) hC (fun q => ce (of_decide_eq_true q).1)
        have ce' : (e < (f + Int32.ofNat p / Y 0 6) + Y 10 (g k).toNatClampNeg - 1) = True := eq_true (Int32.not_le.mp ce)
        ((try clear hN); (try clear hN2); (try clear hX); (try clear hnx); (try clear hcall); (try clear hC); (try clear hx); (try clear hm); (try clear ih))
        simp only [q243_168, q243_169, q243_172, q243_174, q243_177, q243_178, q243_181, q243_184, q243_185, q243_188, q243_189, q243_191, q243_192, q243_195, q243_196, q243_197, q243_199, q243_201, q243_202, q243_205, q243_207, q243_208, q243_211, q243_213, q243_214, q243_215, q243_216, q243_217, q243_218, q243_243, q243_244, q243_246, q243_248, q243_250, q243_253, q243_254, q243_257, q243_258, q243_259, q243_261, m_0 hS, m_K hS, mR_length hS, mK_length hS, mL_length hS, as_nil, as_i, as_r, Nat.reduceAdd, Nat.reduceLeDiff, z_eq0, z_eq1, z_or, z_em, Classical.not_not, not_false_eq_true, not_true_eq_false, true_and, and_true, false_and, and_false, and_self, true_implies, false_implies, implies_true, Option.toList_some, Option.toList_none, List.cons_append, List.nil_append, Nat.add_eq_zero_iff, a_nl_i, a_nl_r, a_nl_n, true_or, or_true, eq_self, ok_4, ok_5, ok_6, ok_7, ok_9, ok_10, ok_20, ok_21, ok_24, ok_30, ok_48, ok_50, ok_60, ok_80, ok_120, ok_180, ok_192, ok_200, ok_900, ok_1000, ok_84000, hlt, b6, b10, c6, eqp, ce', hk]
        try simp only [true_and, and_true, true_implies, false_implies, implies_true, not_true_eq_false, not_false_eq_true]
        first
          | exact hg
          | grind
/-- what an ASK is worth -/
theorem xt_markAt (hS : m_S M K L R) (hR : mR M I) (hm : mkP (yv M I)) {a : Int32} (ha : 0 ≤ a ∧ a < 30) (hP : P (some (.int (if maY (yv M I) a < 0 then 0 else maY (yv M I) a))) (n, t, K, L, I, R)) : a_does (d + 3) 244 [a_rf M, .int a] (n, t, K, L, I, R) P := by
  rw [a_enter1 (M := a_m244) rfl (a_cat_rf (a_cat_int a_cat_nil)) (show 2 ≤ 3 by decide)]
  show a_at _ (a_xm a_m244) 0 [some (a_rf M), some (.int a), none] [] _ _
  simp only [q244_0, q244_1, q244_2, m_0 hS, m_K hS, as_nil, as_i, as_r, Nat.reduceAdd, Nat.reduceLeDiff, z_eq0, z_eq1, z_or, z_em, Classical.not_not, not_false_eq_true, not_true_eq_false, true_and, and_true, false_and, and_false, and_self, true_implies, false_implies, implies_true, Option.toList_some, Option.toList_none, List.cons_append, List.nil_append, Nat.add_eq_zero_iff, a_nl_i, a_nl_r, a_nl_n, true_or, or_true, eq_self, ok_4, ok_5, ok_6, ok_7, ok_9, ok_10, ok_20, ok_21, ok_24, ok_30, ok_48, ok_50, ok_60, ok_80, ok_120, ok_180, ok_192, ok_200, ok_900, ok_1000, ok_84000]
  refine xt_markFor (d := d) hS hR hm ha ?_
  show a_at (d + 2) (a_xm a_m244) 5 [some (a_rf M), some (.int a), none] [.int (maY (yv M I) a)] (n, t, K, L, I, R) P
  generalize maY (yv M I) a = x at hP ⊢
  by_cases c : x < 0
  · rw [if_pos c] at hP
    have c' := Int32.not_le.mpr c
    ((try clear hm))
    simp only [q244_5, q244_6, q244_7, q244_10, q244_11, q244_14, q244_15, as_nil, as_i, as_r, Nat.reduceAdd, Nat.reduceLeDiff, z_eq0, z_eq1, z_or, z_em, Classical.not_not, not_false_eq_true, not_true_eq_false, true_and, and_true, false_and, and_false, and_self, true_implies, false_implies, implies_true, Option.toList_some, Option.toList_none, List.cons_append, List.nil_append, Nat.add_eq_zero_iff, a_nl_i, a_nl_r, a_nl_n, true_or, or_true, eq_self, ok_4, ok_5, ok_6, ok_7, ok_9, ok_10, ok_20, ok_21, ok_24, ok_30, ok_48, ok_50, ok_60, ok_80, ok_120, ok_180, ok_192, ok_200, ok_900, ok_1000, ok_84000, c, c']
    try simp only [true_and, and_true, true_implies, false_implies, implies_true, not_true_eq_false, not_false_eq_true]
    first
      | exact hP
      | grind
  · rw [if_neg c] at hP
    have c' := Int32.not_lt.mp c
    ((try clear hm))
    simp only [q244_5, q244_6, q244_7, q244_10, q244_11, q244_14, q244_15, as_nil, as_i, as_r, Nat.reduceAdd, Nat.reduceLeDiff, z_eq0, z_eq1, z_or, z_em, Classical.not_not, not_false_eq_true, not_true_eq_false, true_and, and_true, false_and, and_false, and_self, true_implies, false_implies, implies_true, Option.toList_some, Option.toList_none, List.cons_append, List.nil_append, Nat.add_eq_zero_iff, a_nl_i, a_nl_r, a_nl_n, true_or, or_true, eq_self, ok_4, ok_5, ok_6, ok_7, ok_9, ok_10, ok_20, ok_21, ok_24, ok_30, ok_48, ok_50, ok_60, ok_80, ok_120, ok_180, ok_192, ok_200, ok_900, ok_1000, ok_84000, c, c']
    try simp only [true_and, and_true, true_implies, false_implies, implies_true, not_true_eq_false, not_false_eq_true]
    first
      | exact hP
      | grind
/-- words when the levels below one are placed -/
theorem bW_sb (h : sbE Y W) {w : Nat → Int32} : ∀ k, sbE Y (bsW (bpu Y f g) pl W w k) := by
  intro k
  induction k with
  | zero => exact h
  | succ k ih =>
    unfold bsW
    split
    · exact sb_tr ih puY_b
    · exact ih
theorem bW_20 {w : Nat → Int32} {a : Nat} : ∀ k, (∀ j, j < k → ¬ (g j).toNatClampNeg = a) → bsW (bpu Y f g) pl W w k 20 a = W 20 a ∧ bsW (bpu Y f g) pl W w k 21 a = W 21 a := by
  intro k
  induction k with
  | zero => intro _; exact ⟨rfl, rfl⟩
  | succ k ih =>
    intro h
    have q := ih (fun j hj => h j (by omega))
    have hk := h k (by omega)
    unfold bsW
    split
    · unfold bpu puY
      rw [if_neg (fun e => hk e.2.symm), if_neg (by omega), if_neg (by omega), if_neg (by omega), if_neg (fun e => hk e.2.symm), if_neg (by omega)]
      exact q
    · exact q
/-- put there and taken away again -/
theorem unpu_p {a b s : Int32} (ha : 0 ≤ a ∧ a < 30) (hl : ∀ j, 0 ≤ W 10 j ∧ W 10 j ≤ 4) (h20 : W 20 a.toNatClampNeg = -9) (h21 : W 21 a.toNatClampNeg = -9) : psE W (unY (puY W a b s) a) := by
  refine ⟨fun k j p => ?_, fun o o0 o1 o2 i i0 i1 => ?_⟩
  · by_cases e : (k = 20 ∨ k = 21) ∧ j = a.toNatClampNeg
    · rcases e.1 with e1 | e1
      · rw [e1, e.2, un_a (Or.inl rfl), h20]
      · rw [e1, e.2, un_a (Or.inr rfl), h21]
    · rw [un_o (by omega)]
      unfold puY
      rw [if_neg (by omega), if_neg (by omega), if_neg (by unfold ps1 at p; omega)]
  · have ne : ¬ o.toNatClampNeg = a.toNatClampNeg := fun e => by
      rw [e, h20] at o2
      exact absurd o2 (by decide)
    rw [un_o (Or.inl (by omega)), pu_pp]
    exact pp_22o ha ⟨o0, o1⟩ ⟨i0, Int32.lt_of_lt_of_le i1 (hl _).2⟩ (hl _) (fun q => ne (by rw [q]))
/-- the words as the ASKS stand now -/
def cW (Y : Nat → Nat → Int32) (f : Int32) (g : Nat → Int32) (pl m : Nat) (W : Nat → Nat → Int32) (w : Nat → Int32) (i : Nat) : Nat → Nat → Int32 := if i < m ∧ ¬ w i = -1 ∧ (w i).toNatClampNeg < pl then bpu Y f g (bsW (bpu Y f g) pl W w i) i (w i).toNatClampNeg else bsW (bpu Y f g) pl W w i
/-- where the search stands -/
def rbJ (M : Nat) (I J : Nat → Nat → Int32) (X Y : Nat → Nat → Int32) (g : Nat → Int32) (pl m : Nat) (w : Nat → Int32) (i : Nat) (q : Nat → Int32) : Prop := gs M I J X ∧ (J M 66 = Int32.ofNat m ∧ ∀ k, k < m → J (M + 41) k = g k) ∧ (∀ k, k ≤ i → J (M + 42) k = w k) ∧ (∀ k, k ≤ i → J (M + 43) k = bsA (bwt Y g) pl w k) ∧ ∀ k, k < m → J (M + 44) k = q k
def wq (Y : Nat → Nat → Int32) (f : Int32) (g : Nat → Int32) (pl : Nat) (w : Nat → Int32) (k : Nat) : Prop := ∃ q, q ≤ pl ∧ w k = Int32.ofNat q ∧ (q < pl → (f + Int32.ofNat q / Y 0 6) + Y 10 (g k).toNatClampNeg ≤ 200)
def wOK (Y : Nat → Nat → Int32) (f : Int32) (g : Nat → Int32) (pl m : Nat) (w : Nat → Int32) (i : Nat) : Prop := (∀ k, k < i → wq Y f g pl w k) ∧ (w i = -1 ∨ wq Y f g pl w i)
def gOK (Y W : Nat → Nat → Int32) (g : Nat → Int32) (m : Nat) : Prop := m ≤ 4 ∧ (∀ k, k < m → 0 ≤ g k ∧ g k < 30) ∧ (∀ k j, k < m → j < m → (g k).toNatClampNeg = (g j).toNatClampNeg → k = j) ∧ ∀ k, k < m → W 20 (g k).toNatClampNeg = -9 ∧ W 21 (g k).toNatClampNeg = -9
theorem rbJ_fr {X : Nat → Nat → Int32} {w : Nat → Int32} {i : Nat} {q : Nat → Int32} (h : rbJ M I J X Y g pl m w i q) {X2 : Nat → Nat → Int32} (hg : gs M I J1 X2) (hf : ∀ x j, (x = M ∧ j = 66) ∨ x = M + 41 ∨ x = M + 42 ∨ x = M + 43 ∨ x = M + 44 → J1 x j = J x j) : rbJ M I J1 X2 Y g pl m w i q := by
  obtain ⟨-, ⟨h1, h2⟩, h3, h4, h5⟩ := h
  refine ⟨hg, ⟨by rw [hf _ _ (by omega)]; exact h1, fun k hk => by rw [hf _ _ (by omega)]; exact h2 k hk⟩, fun k hk => by rw [hf _ _ (by omega)]; exact h3 k hk, fun k hk => by rw [hf _ _ (by omega)]; exact h4 k hk, fun k hk => by rw [hf _ _ (by omega)]; exact h5 k hk⟩
theorem wn_0 {w : Nat → Int32} {i : Nat} (h : w i = -1) : (w i + 1).toNatClampNeg = 0 := by rw [h]; rfl
theorem wn_s {w : Nat → Int32} {i q : Nat} (hq : q < 900) (h : w i = Int32.ofNat q) : (w i + 1).toNatClampNeg = q + 1 ∧ (w i).toNatClampNeg = q := by
  rw [h, io_s hq]
  exact ⟨(io (by omega)).2, (io (by omega)).2⟩
/-- what the search goes on with -/
def xgo (d n t M : Nat) (K L : Nat → Nat) (R : Nat → Nat → Nat) (I Y W : Nat → Nat → Int32) (g : Nat → Int32) (f e : Int32) (pl m : Nat) (V : bB) (P : Option Value → AH → Prop) (z : Nat) : Prop := ∀ (J : Nat → Nat → Int32) (w : Nat → Int32) (i : Nat) (B : bB) (k p u v : Option Value), mu (Int32.ofNat pl) w (Int32.ofNat i) < z → i ≤ m → wOK Y f g pl m w i → rbJ M I J (cW Y f g pl m W w i) Y g pl m w i B.2 → bsH (bfi Y f e g) (bpu Y f g) (bwt Y g) pl m W w i B = V → a_at (d + 10) (a_xm a_m243) 31 [some (a_rf M), some (.int f), some (.int e), some (.int (Int32.ofNat pl)), some (.int (B.1)), some (.int (Int32.ofNat i)), k, p, u, v] [] (n, t, K, L, J, R) P
def xend (d n t M : Nat) (K L : Nat → Nat) (R : Nat → Nat → Nat) (Y : Nat → Nat → Int32) (g : Nat → Int32) (m : Nat) (V : bB) (P : Option Value → AH → Prop) : Prop := ∀ J : Nat → Nat → Int32, mR M J → (J M 66 = Int32.ofNat m ∧ ∀ k, k < m → J (M + 41) k = g k) → J M 6 = Y 0 6 → (∀ k, k < m → J (M + 44) k = V.2 k) → P (some (.int V.1)) (n, t, K, L, J, R)
/-- a level is through: back to the one below -/
theorem xb_back (hS : m_S M K L R) {V : bB} {z i : Nat} {w : Nat → Int32} {B : bB} (hP : xend d n t M K L R W g m V P) (ih : xgo d n t M K L R I Y W g f e pl m V P z) (hm4 : m ≤ 4) (hpl : pl ≤ 48) (him : i ≤ m) (hw : ∀ k, k < i → wq Y f g pl w k) (hz : 0 < i → mu (Int32.ofNat pl) w (Int32.ofNat (i - 1)) < z) (hb : rbJ M I J (bsW (bpu Y f g) pl W w i) Y g pl m w i B.2) (hV : bsC (bfi Y f e g) (bpu Y f g) (bwt Y g) pl m W w i B = V) {k p u v : Option Value} : a_at (d + 10) (a_xm a_m243) 31 [some (a_rf M), some (.int f), some (.int e), some (.int (Int32.ofNat pl)), some (.int (B.1)), some (.int (Int32.ofNat i + (-1))), k, p, u, v] [] (n, t, K, L, J, R) P := by
  cases i with
  | zero =>
    have e1 : Int32.ofNat 0 + (-1) = -1 := rfl
    have hV2 : B = V := hV
    have hp := hP J hb.1.1 hb.2.1 (hb.1.2.2.1 0 6 (by unfold ps1; omega)) (by rw [← hV2]; exact hb.2.2.2.2)
    rw [← hV2] at hp
    have n1 : (-1 : Int32) < 0 := by decide
    ((try clear ih); (try clear hP); (try clear hb); (try clear hV); (try clear hz))
    rw [e1, q243_31]
    simp only [q243_33, q243_360, q243_362, as_nil, as_i, as_r, Nat.reduceAdd, Nat.reduceLeDiff, z_eq0, z_eq1, z_or, z_em, Classical.not_not, not_false_eq_true, not_true_eq_false, true_and, and_true, false_and, and_false, and_self, true_implies, false_implies, implies_true, Option.toList_some, Option.toList_none, List.cons_append, List.nil_append, Nat.add_eq_zero_iff, a_nl_i, a_nl_r, a_nl_n, true_or, or_true, eq_self, ok_4, ok_5, ok_6, ok_7, ok_9, ok_10, ok_20, ok_21, ok_24, ok_30, ok_48, ok_50, ok_60, ok_80, ok_120, ok_180, ok_192, ok_200, ok_900, ok_1000, ok_84000, n1]
    try simp only [true_and, and_true, true_implies, false_implies, implies_true, not_true_eq_false, not_false_eq_true]
    first
      | exact hp
      | grind
  | succ i =>
    rw [io_p (by omega)]
    obtain ⟨q, q1, q2, q3⟩ := hw i (by omega)
    have qn := (io (n := q) (by omega)).2
    have wn := (wn_s (w := w) (by omega) q2).2
    have hn1 : ¬ w i = -1 := fun c => by
      rw [q2] at c
      have := congrArg Int32.toInt c
      rw [(io (n := q) (by omega)).1] at this
      have c1 : (-1 : Int32).toInt = -1 := rfl
      rw [c1] at this
      omega
    have hc : cW Y f g pl m W w i = bsW (bpu Y f g) pl W w (i + 1) := by
      unfold cW
      conv => rhs; unfold bsW
      by_cases c : (w i).toNatClampNeg < pl
      · rw [if_pos ⟨by omega, hn1, c⟩, if_pos c]
      · rw [if_neg (fun x => c x.2.2), if_neg c]
    refine ih J w i B k p u v (hz (by omega)) (by omega) ⟨fun k hk => hw k (by omega), Or.inr ⟨q, q1, q2, q3⟩⟩ ?_ ?_
    · rw [hc]
      exact ⟨hb.1, hb.2.1, fun k hk => hb.2.2.1 k (by omega), fun k hk => hb.2.2.2.1 k (by omega), hb.2.2.2.2⟩
    · unfold bsH
      rw [if_neg (by omega)]
      exact hV
/-- all are placed or left out: the best is kept -/
theorem xb_69 (hS : m_S M K L R) (hpl : pl ≤ 48) (hm4 : m ≤ 4) {X : Nat → Nat → Int32} {w : Nat → Int32} (hw : ∀ k, k < m → wq Y f g pl w k) {b : Int32} {p u v : Option Value} (hN : ∀ J k, rbJ M I J X Y g pl m w m w → a_at (d + 10) (a_xm a_m243) 98 [some (a_rf M), some (.int f), some (.int e), some (.int (Int32.ofNat pl)), some (.int b), some (.int (Int32.ofNat m)), k, p, u, v] [] (n, t, K, L, J, R) P) : ∀ (dd k : Nat) (J : Nat → Nat → Int32), k + dd = m → (∃ q : Nat → Int32, (∀ x, x < k → q x = w x) ∧ rbJ M I J X Y g pl m w m q) → a_at (d + 10) (a_xm a_m243) 69 [some (a_rf M), some (.int f), some (.int e), some (.int (Int32.ofNat pl)), some (.int b), some (.int (Int32.ofNat m)), some (.int (Int32.ofNat k)), p, u, v] [] (n, t, K, L, J, R) P := by
  intro dd
  induction dd with
  | zero =>
    intro k J h1 hq
    obtain ⟨q, hq1, hb⟩ := hq
    have ek : k = m := by omega
    have hg := hN J (some (.int (Int32.ofNat k))) ⟨hb.1, hb.2.1, hb.2.2.1, hb.2.2.2.1, fun x hx => by rw [hb.2.2.2.2 x hx]; exact hq1 x (by omega)⟩
    have e66 := hb.2.1.1
    have hlt : (Int32.ofNat k < Int32.ofNat m) = False := by rw [io_lt (by omega) (by omega)]; exact eq_false (by omega)
    have hle : (Int32.ofNat m ≤ Int32.ofNat k) = True := by rw [io_le (by omega) (by omega)]; exact eq_true (by omega)
    ((try clear hN); (try clear hb); (try clear hq1); (try clear hw))
    rw [q243_69]
    simp only [q243_71, q243_72, q243_75, m_0 hS, m_K hS, as_nil, as_i, as_r, Nat.reduceAdd, Nat.reduceLeDiff, z_eq0, z_eq1, z_or, z_em, Classical.not_not, not_false_eq_true, not_true_eq_false, true_and, and_true, false_and, and_false, and_self, true_implies, false_implies, implies_true, Option.toList_some, Option.toList_none, List.cons_append, List.nil_append, Nat.add_eq_zero_iff, a_nl_i, a_nl_r, a_nl_n, true_or, or_true, eq_self, ok_4, ok_5, ok_6, ok_7, ok_9, ok_10, ok_20, ok_21, ok_24, ok_30, ok_48, ok_50, ok_60, ok_80, ok_120, ok_180, ok_192, ok_200, ok_900, ok_1000, ok_84000, e66, hlt, hle]
    try simp only [true_and, and_true, true_implies, false_implies, implies_true, not_true_eq_false, not_false_eq_true]
    first
      | exact hg
      | grind
  | succ dd ih =>
    intro k J h1 hq
    obtain ⟨q, hq1, hb⟩ := hq
    have hkm : k < m := by omega
    obtain ⟨x, x1, x2, -⟩ := hw k hkm
    have e66 := hb.2.1.1
    have ewk := hb.2.2.1 k (by omega)
    have kn := (io (n := k) (by omega)).2
    have k4 := io_k (n := k) (k := 4) (by omega) (by omega)
    have k5 := io_k (n := k) (k := 5) (by omega) (by omega)
    have hlt : (Int32.ofNat k < Int32.ofNat m) = True := by rw [io_lt (by omega) (by omega)]; exact eq_true (by omega)
    have hle : (Int32.ofNat m ≤ Int32.ofNat k) = False := by rw [io_le (by omega) (by omega)]; exact eq_false (by omega)
    have hR2 : mR M (a_ui J (M + 44) k (w k)) := sR_bestWay hb.1.1 (by
      rw [x2]
      refine ⟨io_0 (by omega), ?_⟩
      rw [Int32.le_iff_toInt_le, (io (n := x) (by omega)).1]
      show (x : Int) ≤ 48
      omega)
    have hg := ih (k + 1) (a_ui J (M + 44) k (w k)) (by omega) ⟨fun y => if y = k then w k else q y, fun y hy => by
      show (if y = k then w k else q y) = w y
      by_cases c : y = k
      · rw [if_pos c, c]
      · rw [if_neg c]; exact hq1 y (by omega), ⟨gs_ui hb.1 hR2 (by omega) ⟨by unfold ps1; omega, by omega⟩, ⟨by rw [ui_ap, if_neg (by omega)]; exact hb.2.1.1, fun y hy => by rw [ui_ap, if_neg (by omega)]; exact hb.2.1.2 y hy⟩, fun y hy => by rw [ui_ap, if_neg (by omega)]; exact hb.2.2.1 y hy, fun y hy => by rw [ui_ap, if_neg (by omega)]; exact hb.2.2.2.1 y hy, fun y hy => by
      show _ = (if y = k then w k else q y)
      rw [ui_ap]
      by_cases c : y = k
      · rw [if_pos ⟨rfl, c⟩, if_pos c]
      · rw [if_neg (fun z => c z.2), if_neg c]; exact hb.2.2.2.2 y hy⟩⟩
    rw [← io_s (by omega)] at hg
    ((try clear hN); (try clear hb); (try clear hq1); (try clear hw); (try clear ih); (try clear hR2))
    rw [q243_69]
    simp only [q243_71, q243_72, q243_75, q243_78, q243_79, q243_82, q243_84, q243_85, q243_88, q243_90, q243_91, q243_92, q243_95, m_0 hS, m_K hS, mR_bestWay hS, mK_bestWay hS, mL_bestWay hS, mR_way hS, mK_way hS, mL_way hS, as_nil, as_i, as_r, Nat.reduceAdd, Nat.reduceLeDiff, z_eq0, z_eq1, z_or, z_em, Classical.not_not, not_false_eq_true, not_true_eq_false, true_and, and_true, false_and, and_false, and_self, true_implies, false_implies, implies_true, Option.toList_some, Option.toList_none, List.cons_append, List.nil_append, Nat.add_eq_zero_iff, a_nl_i, a_nl_r, a_nl_n, true_or, or_true, eq_self, ok_4, ok_5, ok_6, ok_7, ok_9, ok_10, ok_20, ok_21, ok_24, ok_30, ok_48, ok_50, ok_60, ok_80, ok_120, ok_180, ok_192, ok_200, ok_900, ok_1000, ok_84000, e66, hlt, hle, kn, ewk, k4, k5]
    try simp only [true_and, and_true, true_implies, false_implies, implies_true, not_true_eq_false, not_false_eq_true]
    first
      | exact hg
      | grind
/-- the way is on: the next level -/
theorem xb_345 (hS : m_S M K L R) {V : bB} {z i q : Nat} {w : Nat → Int32} {B : bB} (ih : xgo d n t M K L R I Y W g f e pl m V P z) (hm4 : m ≤ 4) (hpl : pl ≤ 48) (him : i < m) (hw : wOK Y f g pl m w i) (hz : mu (Int32.ofNat pl) w (Int32.ofNat i) < z + 1) (hq : q ≤ pl) (hlen : q < pl → (f + Int32.ofNat q / Y 0 6) + Y 10 (g i).toNatClampNeg ≤ 200) (hq0 : (w i + 1).toNatClampNeg ≤ q) (hn : ∀ x, (w i + 1).toNatClampNeg ≤ x → x < q → ¬ bfi Y f e g (bsW (bpu Y f g) pl W w i) i x = true) (hf : q < pl → bfi Y f e g (bsW (bpu Y f g) pl W w i) i q = true) (hV : bsH (bfi Y f e g) (bpu Y f g) (bwt Y g) pl m W w i B = V) (hg : gs M I J (if q < pl then bpu Y f g (bsW (bpu Y f g) pl W w i) i q else bsW (bpu Y f g) pl W w i)) (h41 : J M 66 = Int32.ofNat m ∧ ∀ k, k < m → J (M + 41) k = g k) (h42 : ∀ k, k < i → J (M + 42) k = w k) (h42i : J (M + 42) i = Int32.ofNat q) (h43 : ∀ k, k ≤ i → J (M + 43) k = bsA (bwt Y g) pl w k) (h44 : ∀ k, k < m → J (M + 44) k = B.2 k) {a p : Int32} {fd s : Option Value} : a_at (d + 10) (a_xm a_m243) 345 [some (a_rf M), some (.int f), some (.int e), some (.int (Int32.ofNat pl)), some (.int (B.1)), some (.int (Int32.ofNat i)), some (.int a), some (.int p), fd, s] [.int (bsA (bwt Y g) pl w i + (if q < pl then bwt Y g i else 0)), .int (Int32.ofNat i + 1), a_rf (M + 43)] (n, t, K, L, J, R) P := by
  let w' : Nat → Int32 := fun k => if k < i then w k else if k = i then Int32.ofNat q else -1
  have w1 : ∀ k, k < i → w' k = w k := fun k hk => if_pos hk
  have w2 : w' i = Int32.ofNat q := by show (if i < i then w i else if i = i then Int32.ofNat q else -1) = _; rw [if_neg (by omega), if_pos rfl]
  have w3 : w' (i + 1) = -1 := by show (if i + 1 < i then w (i + 1) else if i + 1 = i then Int32.ofNat q else -1) = _; rw [if_neg (by omega), if_neg (by omega)]
  have qn := (io (n := q) (by omega)).2
  have hA : bsA (bwt Y g) pl w' (i + 1) = bsA (bwt Y g) pl w i + (if q < pl then bwt Y g i else 0) := by
    conv => lhs; unfold bsA
    rw [w2, qn, bsA_eq i w1]
  have hcW : cW Y f g pl m W w' (i + 1) = (if q < pl then bpu Y f g (bsW (bpu Y f g) pl W w i) i q else bsW (bpu Y f g) pl W w i) := by
    unfold cW
    rw [if_neg (fun x => x.2.1 w3)]
    conv => lhs; unfold bsW
    rw [w2, qn, bsW_eq i w1]
  have s1 := io_s (n := i) (by omega)
  have ni := (io (n := i) (by omega)).2
  have ni1 := (io (n := i + 1) (by omega)).2
  have ok5 := io_k (n := i + 1) (k := 5) (by omega) (by omega)
  have hR : mR M (a_ui (a_ui J (M + 43) (i + 1) (bsA (bwt Y g) pl w' (i + 1))) (M + 42) (i + 1) (-1)) := sR_way (sR_sumTo hg.1)
  have hmu : mu (Int32.ofNat pl) w' (Int32.ofNat (i + 1)) < z := by
    have i0 := io_0 (n := i) (by omega)
    have p0 := io_0 (n := pl) (by omega)
    have i4 : Int32.ofNat i < 4 := by rw [Int32.lt_iff_toInt_lt, (io (n := i) (by omega)).1]; show (i : Int) < 4; omega
    have p48 : Int32.ofNat pl ≤ 48 := by rw [Int32.le_iff_toInt_le, (io (n := pl) (by omega)).1]; show (pl : Int) ≤ 48; omega
    have wi : -1 ≤ w i ∧ w i < Int32.ofNat q := by
      rcases hw.2 with c | ⟨x, x1, x2, -⟩
      · rw [c]
        refine ⟨by decide, ?_⟩
        have := io_0 (n := q) (by omega)
        exact Int32.lt_of_lt_of_le (by decide) this
      · have := (wn_s (w := w) (by omega) x2).1
        rw [x2]
        have x0 := io_0 (n := x) (by omega)
        exact ⟨Int32.le_trans (by decide) x0, by rw [io_lt (by omega) (by omega)]; omega⟩
    have h := mu_on (p := Int32.ofNat pl) (i := Int32.ofNat i) (w := w) (w' := w') i0 i4 ⟨p0, p48⟩ (by rw [ni, w2]; exact ⟨wi.1, wi.2, by rw [io_le (by omega) (by omega)]; exact hq⟩) (fun k hk => by rw [ni] at hk; exact w1 k hk) (by rw [s1, ni1]; exact w3)
    rw [s1] at h
    omega
  have hgo := ih (a_ui (a_ui J (M + 43) (i + 1) (bsA (bwt Y g) pl w' (i + 1))) (M + 42) (i + 1) (-1)) w' (i + 1) B (some (.int a)) (some (.int p)) fd s hmu (by omega) ⟨fun k hk => by
    by_cases c : k = i
    · rw [c]; exact ⟨q, hq, w2, hlen⟩
    · obtain ⟨x, x1, x2, x3⟩ := hw.1 k (by omega)
      exact ⟨x, x1, (w1 k (by omega)).trans x2, x3⟩, Or.inl w3⟩ (by
    rw [hcW]
    refine ⟨gs_ui (gs_ui hg (sR_sumTo hg.1) (by omega) ⟨by unfold ps1; omega, by omega⟩) hR (by omega) ⟨by unfold ps1; omega, by omega⟩, ⟨by rw [ui_ap, if_neg (by omega), ui_ap, if_neg (by omega)]; exact h41.1, fun k hk => by rw [ui_ap, if_neg (by omega), ui_ap, if_neg (by omega)]; exact h41.2 k hk⟩, fun k hk => ?_, fun k hk => ?_, fun k hk => by rw [ui_ap, if_neg (by omega), ui_ap, if_neg (by omega)]; exact h44 k hk⟩
    · rw [ui_ap]
      by_cases c : k = i + 1
      · rw [if_pos ⟨rfl, c⟩, c, w3]
      · rw [if_neg (fun y => c y.2), ui_ap, if_neg (by omega)]
        by_cases c2 : k = i
        · rw [c2, w2]; exact h42i
        · rw [w1 k (by omega)]; exact h42 k (by omega)
    · rw [ui_ap, if_neg (by omega), ui_ap]
      by_cases c : k = i + 1
      · rw [if_pos ⟨rfl, c⟩, c]
      · rw [if_neg (fun y => c y.2), bsA_eq k (fun j hj => w1 j (by omega))]
        exact h43 k (by omega)) (by
    rw [← bsH_on (B := B) (w := w) (w' := w') him hq0 hq (by omega) hn hf w1 w2 w3]
    exact hV)
  rw [hA] at hgo
  ((try clear ih); (try clear hV); (try clear hg); (try clear h41); (try clear h42); (try clear h42i); (try clear h43); (try clear h44); (try clear hR); (try clear hmu); (try clear hn); (try clear hf); (try clear hw); (try clear hA); (try clear hcW); (try clear w1); (try clear w2); (try clear w3))
  simp only [q243_345, q243_346, q243_349, q243_350, q243_353, q243_355, q243_356, q243_357, m_0 hS, m_K hS, mR_way hS, mK_way hS, mL_way hS, as_nil, as_i, as_r, Nat.reduceAdd, Nat.reduceLeDiff, z_eq0, z_eq1, z_or, z_em, Classical.not_not, not_false_eq_true, not_true_eq_false, true_and, and_true, false_and, and_false, and_self, true_implies, false_implies, implies_true, Option.toList_some, Option.toList_none, List.cons_append, List.nil_append, Nat.add_eq_zero_iff, a_nl_i, a_nl_r, a_nl_n, true_or, or_true, eq_self, ok_4, ok_5, ok_6, ok_7, ok_9, ok_10, ok_20, ok_21, ok_24, ok_30, ok_48, ok_50, ok_60, ok_80, ok_120, ok_180, ok_192, ok_200, ok_900, ok_1000, ok_84000, mK_sumTo hS, mL_sumTo hS, s1, ni, ni1, ok5]
  try simp only [true_and, and_true, true_implies, false_implies, implies_true, not_true_eq_false, not_false_eq_true]
  first
    | exact hgo
    | grind
end Z94

section
/-! what was had: the class's past -/
/-- the row of the past that holds for a SHIFT on an hour -/
def rwM (f : Nat → Int32) (s k : Int32) (i : Nat) : Prop := f (5 * i + 1) ≤ s ∧ s ≤ f (5 * i + 2) ∧ f (5 * i + 3) ≤ k ∧ k < f (5 * i + 4)
def pqF (f : Nat → Int32) (s k : Int32) : Nat → Nat → Int32
  | 0, _ => -9
  | m + 1, i => if f (5 * i + 1) ≤ s ∧ s ≤ f (5 * i + 2) ∧ f (5 * i + 3) ≤ k ∧ k < f (5 * i + 4) then f (5 * i) else pqF f s k m (i + 1)
section HE0
variable {f g : Nat → Int32} {s k : Int32}
theorem pq_s {m i : Nat} : pqF f s k (m + 1) i = if f (5 * i + 1) ≤ s ∧ s ≤ f (5 * i + 2) ∧ f (5 * i + 3) ≤ k ∧ k < f (5 * i + 4) then f (5 * i) else pqF f s k m (i + 1) := rfl
theorem pq_cg : ∀ (m i : Nat), (∀ j, j < 5 * (i + m) → g j = f j) → pqF g s k m i = pqF f s k m i := by
  intro m
  induction m with
  | zero => intro i _; rfl
  | succ m ih =>
    intro i h
    rw [pq_s, pq_s, h (5 * i + 1) (by omega), h (5 * i + 2) (by omega), h (5 * i + 3) (by omega), h (5 * i + 4) (by omega), h (5 * i) (by omega), ih (i + 1) (fun j hj => h j (by omega))]
/-- no row holds -/
theorem pq_no : ∀ (m i : Nat), (∀ x, i ≤ x → x < i + m → ¬ rwM f s k x) → pqF f s k m i = -9 := by
  intro m
  induction m with
  | zero => intro i _; rfl
  | succ m ih =>
    intro i h
    have c : ¬ (f (5 * i + 1) ≤ s ∧ s ≤ f (5 * i + 2) ∧ f (5 * i + 3) ≤ k ∧ k < f (5 * i + 4)) := h i (Nat.le_refl _) (by omega)
    rw [pq_s, if_neg c]
    exact ih (i + 1) (fun x h1 h2 => h x (by omega) (by omega))
/-- one row more -/
theorem pq_a : ∀ (m i : Nat), (∃ x, i ≤ x ∧ x < i + m ∧ rwM f s k x) → pqF f s k (m + 1) i = pqF f s k m i := by
  intro m
  induction m with
  | zero => intro i ⟨x, h1, h2, _⟩; omega
  | succ m ih =>
    intro i h
    rw [pq_s (m := m + 1) (i := i), pq_s (m := m) (i := i)]
    by_cases c : f (5 * i + 1) ≤ s ∧ s ≤ f (5 * i + 2) ∧ f (5 * i + 3) ≤ k ∧ k < f (5 * i + 4)
    · rw [if_pos c, if_pos c]
    · rw [if_neg c, if_neg c]
      refine ih (i + 1) ?_
      obtain ⟨x, h1, h2, h3⟩ := h
      refine ⟨x, ?_, by omega, h3⟩
      by_cases q : x = i
      · rw [q] at h3
        exact absurd h3 c
      · omega
theorem pq_b : ∀ (m i : Nat), (¬ ∃ x, i ≤ x ∧ x < i + m ∧ rwM f s k x) → rwM f s k (i + m) → pqF f s k (m + 1) i = f (5 * (i + m)) := by
  intro m
  induction m with
  | zero =>
    intro i _ h
    have c : f (5 * i + 1) ≤ s ∧ s ≤ f (5 * i + 2) ∧ f (5 * i + 3) ≤ k ∧ k < f (5 * i + 4) := h
    rw [pq_s, if_pos c]
    rfl
  | succ m ih =>
    intro i h h2
    have c : ¬ (f (5 * i + 1) ≤ s ∧ s ≤ f (5 * i + 2) ∧ f (5 * i + 3) ≤ k ∧ k < f (5 * i + 4)) := fun q => h ⟨i, Nat.le_refl _, by omega, q⟩
    rw [pq_s, if_neg c]
    have := ih (i + 1) (fun ⟨x, x1, x2, x3⟩ => h ⟨x, by omega, by omega, x3⟩) (by rw [show i + 1 + m = i + (m + 1) by omega]; exact h2)
    rw [this, show i + 1 + m = i + (m + 1) by omega]
end HE0
/-- a BENCH's rows: when each SHIFT was changed, the past, how long it is -/
def chC (C : Nat) (I : Nat → Nat → Int32) (R : Nat → Nat → Nat) (c : Int32) : Nat → Int32 := I (R (R (C + 16) c.toNatClampNeg) 4)
def paC (C : Nat) (I : Nat → Nat → Int32) (R : Nat → Nat → Nat) (c : Int32) : Nat → Int32 := I (R (R (C + 16) c.toNatClampNeg) 5)
def pcC (C : Nat) (I : Nat → Nat → Int32) (R : Nat → Nat → Nat) (c : Int32) : Nat := (I (R (C + 16) c.toNatClampNeg) 6).toNatClampNeg
/-- the class's history -/
def hdC (C : Nat) (I : Nat → Nat → Int32) (R : Nat → Nat → Nat) : Int32 → Int32 → Int32 → Int32 := fun c t k => if chC C I R c t.toNatClampNeg ≤ k then whC C I R c t.toNatClampNeg else pqF (paC C I R c) t k (pcC C I R c) 0
def ldC (C : Nat) (I : Nat → Nat → Int32) (R : Nat → Nat → Nat) : Int32 → Int32 → Int32 := fun c t => chC C I R c t.toNatClampNeg
section HE1
variable {d n t C c : Nat} {K L : Nat → Nat} {I I0 J J0 J1 J2 : Nat → Nat → Int32} {R : Nat → Nat → Nat} {P : Option Value → AH → Prop}
variable {Y Z : Nat → Nat → Int32}
theorem ch_hasRoom {b : Nat} (hb : K b = 3) (hH : cH C c (n + 1) t K L I R) (hj : ∃ j, j < 6 ∧ R (C + 16) j = b) (hpc : I b 6 < 16384) (hP : ∀ n' t' K' L' J R', cH C c (n' + 1) t' K' L' J R' → dQ C (n + 1) K L I R (n' + 1) K' L' J R' → (∀ x j, x < n + 1 → J x j = I x j) → rmP (n + 1) b I R J R' → I b 6 < 16384 → 5 * (I b 6 + 1).toNatClampNeg ≤ L' (R' b 5) → (∀ j, j < L (R b 5) → J (R' b 5) j = I (R b 5) j) → P (some (.int 1)) (n' + 1, t', K', L', J, R')) : a_does (d + 1) 48 [a_rf b] (n + 1, t, K, L, I, R) P := by
  have hT := hH.1
  have hS := hT.s
  obtain ⟨b1, ⟨w1, w2, w3⟩, ⟨s1, s2, s3⟩, ⟨h1, h2, h3⟩, ⟨p1, p2, p3⟩, q1⟩ := hT.g_bnc b hb
  have b0 : (b = 0) = False := eq_false (by omega)
  have w0 : (R b 2 = 0) = False := eq_false (by omega)
  have s0 : (R b 3 = 0) = False := eq_false (by omega)
  have h0 : (R b 4 = 0) = False := eq_false (by omega)
  have p0 : (R b 5 = 0) = False := eq_false (by omega)
  obtain ⟨m, m1, m2, m3⟩ := p3
  have fr := hH.2.1
  have bl : b < n + 1 := kn_lt fr hb (by decide)
  have pl : R b 5 < n + 1 := kn_lt fr p2 (by decide)
  have pn : ¬ R b 5 = n + 1 := by omega
  have bn : ¬ b = n + 1 := by omega
  rw [a_enter1 (M := a_m48) rfl (a_cat_rf a_cat_nil) (show 1 ≤ 2 by decide)]
  show a_at _ (a_xm a_m48) 0 [some (a_rf b), none] [] _ _
  simp only [q48_0, q48_1, q48_4, q48_7, q48_10, q48_11, q48_12, q48_13, q48_16, q48_17, q48_18, q48_19, q48_20, q48_21, q48_24, q48_25, as_nil, as_i, as_r, Nat.reduceAdd, Nat.reduceLeDiff, z_eq0, z_eq1, z_or, z_em, Classical.not_not, not_false_eq_true, not_true_eq_false, true_and, and_true, false_and, and_false, and_self, true_implies, false_implies, implies_true, Option.toList_some, Option.toList_none, List.cons_append, List.nil_append, Nat.add_eq_zero_iff, a_nl_i, a_nl_r, a_nl_n, true_or, or_true, eq_self, a_isRA_22, a_isRA_24, a_isRA_32, a_isA_20, ok_4, ok_5, ok_6, ok_7, ok_9, ok_20, ok_21, ok_30, ok_50, ok_180, ok_192, ok_200, hb, b0, w0, w2, w3, s0, s2, s3, h0, h2, h3, p0, p2]
  refine ⟨fun c1 => ?_, fun c1 => ?_⟩
  · have hm := mul5 q1.1 c1 (show L (R b 5) ≤ 163840 by omega)
    refine ⟨fun c2 => ?_, fun c2 => ?_⟩
    · simp only [q48_58, q48_59, as_nil, as_i, as_r, Nat.reduceAdd, Nat.reduceLeDiff, z_eq0, z_eq1, z_or, z_em, Classical.not_not, not_false_eq_true, not_true_eq_false, true_and, and_true, false_and, and_false, and_self, true_implies, false_implies, implies_true, Option.toList_some, Option.toList_none, List.cons_append, List.nil_append, Nat.add_eq_zero_iff, a_nl_i, a_nl_r, a_nl_n, true_or, or_true, eq_self, a_isRA_22, a_isRA_24, a_isRA_32, a_isA_20, ok_4, ok_5, ok_6, ok_7, ok_9, ok_20, ok_21, ok_30, ok_50, ok_180, ok_192, ok_200, hb, b0, w0, w2, w3, s0, s2, s3, h0, h2, h3, p0, p2]
      exact hP n t K L I R hH dQ_refl (fun _ _ _ => rfl) ⟨fun _ _ _ _ => rfl, Or.inl rfl, fun _ _ _ _ _ => rfl⟩ c1 (hm.mp c2) (fun _ _ => rfl)
    · have c3 : ¬ 5 * (I b 6 + 1).toNatClampNeg ≤ L (R b 5) := fun q => c2 (hm.mpr q)
      have ep : (I b 6 + 1).toNatClampNeg = (I b 6).toNatClampNeg + 1 := by
        have e0 := Int32.le_iff_toInt_le.mp q1.1
        have e1 := Int32.lt_iff_toInt_lt.mp c1
        have c1 : (16384 : Int32).toInt = 16384 := rfl
        simp at e0
        have e2 : (I b 6 + 1).toInt = (I b 6).toInt + 1 := by
          rw [Int32.toInt_add]
          simp [Int.bmod_def]
          omega
        show (I b 6 + 1).toInt.toNat = (I b 6).toInt.toNat + 1
        rw [e2]
        omega
      have el : (I b 6).toNatClampNeg < 16384 := by
        have e0 := Int32.le_iff_toInt_le.mp q1.1
        have e1 := Int32.lt_iff_toInt_lt.mp c1
        have c1 : (16384 : Int32).toInt = 16384 := rfl
        simp at e0
        show (I b 6).toInt.toNat < 16384
        omega
      obtain ⟨d1, d2, d3, d4⟩ := dbl (show L (R b 5) ≤ 81920 by omega)
      have f1 : a_up K (n + 1) 20 (R b 5) = 20 := by rw [up_ne pn]; exact p2
      have f2 : a_up K (n + 1) 20 b = 3 := by rw [up_ne bn]; exact hb
      have f3 : a_zr R (n + 1) b 5 = R b 5 := zr_ne bn
      have f4 : a_up L (n + 1) (2 * L (R b 5)) (R b 5) = L (R b 5) := up_ne pn
      have f5 : a_up K (n + 1) 20 (n + 1) = 20 := up_eq
      have f6 : a_up L (n + 1) (2 * L (R b 5)) (n + 1) = 2 * L (R b 5) := up_eq
      have f7 : (n + 1 = 0) = False := eq_false (by omega)
      simp only [q48_28, q48_29, q48_32, q48_33, q48_34, q48_35, q48_37, q48_38, q48_39, q48_42, q48_43, q48_44, q48_45, q48_46, q48_49, q48_50, q48_53, q48_54, q48_55, q48_58, q48_59, as_nil, as_i, as_r, Nat.reduceAdd, Nat.reduceLeDiff, z_eq0, z_eq1, z_or, z_em, Classical.not_not, not_false_eq_true, not_true_eq_false, true_and, and_true, false_and, and_false, and_self, true_implies, false_implies, implies_true, Option.toList_some, Option.toList_none, List.cons_append, List.nil_append, Nat.add_eq_zero_iff, a_nl_i, a_nl_r, a_nl_n, true_or, or_true, eq_self, a_isRA_22, a_isRA_24, a_isRA_32, a_isA_20, ok_4, ok_5, ok_6, ok_7, ok_9, ok_20, ok_21, ok_30, ok_50, ok_180, ok_192, ok_200, hb, b0, w0, w2, w3, s0, s2, s3, h0, h2, h3, p0, p2, d1, d2, d3, d4, f1, f2, f3, f4, f5, f6, f7, a_copy_eq, a_kd_eq, a_ln_eq, cn00, lt00, Nat.zero_add]
      have e9 : 2 * L (R b 5) = 160 * m := by omega
      have hJJ : ∀ x j, x < n + 1 → a_ci (a_zi I (n + 1)) (R b 5) (n + 1) 0 0 (L (R b 5)) x j = I x j := fun x j hx => by rw [ci_ne (by omega), zi_ne (by omega)]
      have hf := hP (n + 1) (t + 160 * m) (a_up K (n + 1) 20) (a_up L (n + 1) (160 * m)) (a_ci (a_zi I (n + 1)) (R b 5) (n + 1) 0 0 (L (R b 5))) (a_ur (a_zr R (n + 1)) b 5 (n + 1)) (cH_past hH hb m1 m2 (by omega) hj hJJ) ⟨by omega, fun x hx => up_ne (by omega), fun x hx => up_ne (by omega), fun x j hx hk => by rw [ur_ap, if_neg (fun e => hk (by rw [e.1]; exact hb)), zr_ne (by omega)], fun x j hx _ _ _ => hJJ x j hx⟩ hJJ ⟨fun x j hx hk => by rw [ur_ap, if_neg hk, zr_ne (by omega)], Or.inr (by rw [ur_ap, if_pos ⟨rfl, rfl⟩]), fun x j hx _ _ => hJJ x j hx⟩ c1 (by rw [ur_ap, if_pos ⟨rfl, rfl⟩, up_eq]; omega) (fun j hj => by
        rw [ur_ap, if_pos ⟨rfl, rfl⟩]
        unfold a_ci va_cpy
        rw [if_pos rfl, if_pos ⟨by omega, by omega⟩, zi_ne (by omega)]
        congr 1
        omega)
      rw [e9]
      try simp only [not_false_eq_true, true_and, and_true]
      repeat' first
        | with_reducible apply And.intro
        | exact hf
        | decide
        | omega
  · try simp only [q48_10, q48_11, as_nil, as_i, as_r, Nat.reduceAdd, Nat.reduceLeDiff, z_eq0, z_eq1, z_or, z_em, Classical.not_not, not_false_eq_true, not_true_eq_false, true_and, and_true, false_and, and_false, and_self, true_implies, false_implies, implies_true, Option.toList_some, Option.toList_none, List.cons_append, List.nil_append, Nat.add_eq_zero_iff, a_nl_i, a_nl_r, a_nl_n, true_or, or_true, eq_self, a_isRA_22, a_isRA_24, a_isRA_32, a_isA_20, ok_4, ok_5, ok_6, ok_7, ok_9, ok_20, ok_21, ok_30, ok_50, ok_180, ok_192, ok_200, hb, b0, w0, w2, w3, s0, s2, s3, h0, h2, h3, p0, p2]
    first
      | exact absurd hpc c1
      | exact absurd hpc (Int32.not_lt.mpr c1)
      | grind
theorem past5 {m : Int32} (h0 : 0 ≤ m) (h1 : m < 16384) : (m * 5).toNatClampNeg = 5 * m.toNatClampNeg ∧ ∀ e : Int32, 0 ≤ e → e ≤ 4 → (m * 5 + e).toNatClampNeg = 5 * m.toNatClampNeg + e.toNatClampNeg := by
  have z0 : (0 : Int32).toInt = 0 := rfl
  have z4 : (4 : Int32).toInt = 4 := rfl
  have z5 : (5 : Int32).toInt = 5 := rfl
  have zm : (16384 : Int32).toInt = 16384 := rfl
  have e0 := Int32.le_iff_toInt_le.mp h0
  have e1 := Int32.lt_iff_toInt_lt.mp h1
  have m5 : (m * 5).toInt = m.toInt * 5 := by
    rw [Int32.toInt_mul, z5]
    simp only [Int.bmod_def]
    omega
  refine ⟨?_, fun e a0 a1 => ?_⟩
  · show (m * 5).toInt.toNat = 5 * m.toInt.toNat
    rw [m5]
    omega
  · have b0 := Int32.le_iff_toInt_le.mp a0
    have b1 := Int32.le_iff_toInt_le.mp a1
    show (m * 5 + e).toInt.toNat = 5 * m.toInt.toNat + e.toInt.toNat
    rw [ti_add (by rw [m5]; omega), m5]
    omega
/-- a row that is written -/
def rowU (f : Nat → Int32) (m a p q g w : Int32) : Nat → Int32 := up1 (up1 (up1 (up1 (up1 f (m * 5).toNatClampNeg a) (m * 5 + 1).toNatClampNeg p) (m * 5 + 2).toNatClampNeg q) (m * 5 + 3).toNatClampNeg g) (m * 5 + 4).toNatClampNeg w
theorem rowU_is {f : Nat → Int32} {m a p q g w : Int32} (h0 : 0 ≤ m) (h1 : m < 16384) : (∀ j, j < 5 * m.toNatClampNeg → rowU f m a p q g w j = f j) ∧ rowU f m a p q g w (5 * m.toNatClampNeg) = a ∧ rowU f m a p q g w (5 * m.toNatClampNeg + 1) = p ∧ rowU f m a p q g w (5 * m.toNatClampNeg + 2) = q ∧ rowU f m a p q g w (5 * m.toNatClampNeg + 3) = g ∧ rowU f m a p q g w (5 * m.toNatClampNeg + 4) = w := by
  obtain ⟨x0, x⟩ := past5 h0 h1
  have x1 := x 1 (by decide) (by decide)
  have x2 := x 2 (by decide) (by decide)
  have x3 := x 3 (by decide) (by decide)
  have x4 := x 4 (by decide) (by decide)
  rw [show (1 : Int32).toNatClampNeg = 1 from rfl] at x1
  rw [show (2 : Int32).toNatClampNeg = 2 from rfl] at x2
  rw [show (3 : Int32).toNatClampNeg = 3 from rfl] at x3
  rw [show (4 : Int32).toNatClampNeg = 4 from rfl] at x4
  unfold rowU up1
  rw [x0, x1, x2, x3, x4]
  generalize m.toNatClampNeg = z
  refine ⟨fun j hj => ?_, ?_, ?_, ?_, ?_, ?_⟩
  · rw [if_neg (by omega), if_neg (by omega), if_neg (by omega), if_neg (by omega), if_neg (by omega)]
  · rw [if_neg (by omega), if_neg (by omega), if_neg (by omega), if_neg (by omega), if_pos rfl]
  · rw [if_neg (by omega), if_neg (by omega), if_neg (by omega), if_pos rfl]
  · rw [if_neg (by omega), if_neg (by omega), if_pos rfl]
  · rw [if_neg (by omega), if_pos rfl]
  · rw [if_pos rfl]
theorem ch_remember {a b : Nat} (hb : K b = 3) (ha : K a = 1) (hH : cH C c (n + 1) t K L I R) (hj : ∃ j, j < 6 ∧ R (C + 16) j = b) (hs : 0 ≤ I a 14 ∧ I a 14 < 200) {w : Int32} (hpc : I b 6 < 16384) (hP0 : I (R b 4) (I a 14).toNatClampNeg = w → P none (n + 1, t, K, L, I, R)) (hP : ¬ I (R b 4) (I a 14).toNatClampNeg = w → ∀ n' t' K' L' J R', cH C c (n' + 1) t' K' L' J R' → dQ C (n + 1) K L I R (n' + 1) K' L' J R' → rmP (n + 1) b I R J R' → J b 6 = I b 6 + 1 → (∀ j, j < 5 * (I b 6).toNatClampNeg → J (R' b 5) j = I (R b 5) j) → (J (R' b 5) (5 * (I b 6).toNatClampNeg) = I a 4 ∧ J (R' b 5) (5 * (I b 6).toNatClampNeg + 1) = I a 14 ∧ J (R' b 5) (5 * (I b 6).toNatClampNeg + 2) = I a 14 + I a 2 - 1 ∧ J (R' b 5) (5 * (I b 6).toNatClampNeg + 3) = I (R b 4) (I a 14).toNatClampNeg ∧ J (R' b 5) (5 * (I b 6).toNatClampNeg + 4) = w) → P none (n' + 1, t', K', L', J, R')) : a_does (d + 2) 47 [a_rf b, a_rf a, .int w] (n + 1, t, K, L, I, R) P := by
  have hT := hH.1
  have hS := hT.s
  obtain ⟨b1, ⟨w1, w2, w3⟩, ⟨s1, s2, s3⟩, ⟨h1, h2, h3⟩, ⟨p1, p2, p3⟩, q1⟩ := hT.g_bnc b hb
  have b0 : (b = 0) = False := eq_false (by omega)
  have w0 : (R b 2 = 0) = False := eq_false (by omega)
  have s0 : (R b 3 = 0) = False := eq_false (by omega)
  have h0 : (R b 4 = 0) = False := eq_false (by omega)
  have p0 : (R b 5 = 0) = False := eq_false (by omega)
  obtain ⟨a1, a2, a4, a3⟩ := hT.g_ask a ha
  have a0 : (a = 0) = False := eq_false (by omega)
  have fr := hH.2.1
  have bl : b < n + 1 := kn_lt fr hb (by decide)
  have al : a < n + 1 := kn_lt fr ha (by decide)
  rw [a_enter1 (M := a_m47) rfl (a_cat_rf (a_cat_rf (a_cat_int a_cat_nil))) (show 3 ≤ 5 by decide)]
  show a_at _ (a_xm a_m47) 0 [some (a_rf b), some (a_rf a), some (.int w), none, none] [] _ _
  simp only [q47_0, q47_1, q47_4, q47_5, q47_8, q47_9, q47_10, q47_11, q47_12, q47_15, q47_16, as_nil, as_i, as_r, Nat.reduceAdd, Nat.reduceLeDiff, z_eq0, z_eq1, z_or, z_em, Classical.not_not, not_false_eq_true, not_true_eq_false, true_and, and_true, false_and, and_false, and_self, true_implies, false_implies, implies_true, Option.toList_some, Option.toList_none, List.cons_append, List.nil_append, Nat.add_eq_zero_iff, a_nl_i, a_nl_r, a_nl_n, true_or, or_true, eq_self, a_isRA_22, a_isRA_24, a_isRA_32, a_isA_20, ok_4, ok_5, ok_6, ok_7, ok_9, ok_20, ok_21, ok_30, ok_50, ok_180, ok_192, ok_200, hb, b0, w0, w2, w3, s0, s2, s3, h0, h2, h3, p0, p2, ha, a0]
  refine ⟨hs, fun c1 => ?_, fun c1 => ?_⟩
  · simp only [q47_22, as_nil, as_i, as_r, Nat.reduceAdd, Nat.reduceLeDiff, z_eq0, z_eq1, z_or, z_em, Classical.not_not, not_false_eq_true, not_true_eq_false, true_and, and_true, false_and, and_false, and_self, true_implies, false_implies, implies_true, Option.toList_some, Option.toList_none, List.cons_append, List.nil_append, Nat.add_eq_zero_iff, a_nl_i, a_nl_r, a_nl_n, true_or, or_true, eq_self, a_isRA_22, a_isRA_24, a_isRA_32, a_isA_20, ok_4, ok_5, ok_6, ok_7, ok_9, ok_20, ok_21, ok_30, ok_50, ok_180, ok_192, ok_200]
    exact hP0 c1
  · have hP := hP c1
    refine ch_hasRoom hb hH hj hpc (fun n' t' K' L' J R' hH' hQ hJ hrm hp hl hcp => ?_)
    · have pz := q1.1
      have pl0 := q1.2.2
      have hb' : K' b = 3 := by rw [hQ.2.1 b bl]; exact hb
      have ha' : K' a = 1 := by rw [hQ.2.1 a al]; exact ha
      have hT' := hH'.1
      have e6 := hJ b 6 bl
      obtain ⟨-, -, -, -, ⟨r1, r2, -⟩, r6⟩ := hT'.g_bnc b hb'
      have p0' : (R' b 5 = 0) = False := eq_false (by omega)
      rw [← e6] at hp
      rw [← e6] at hl
      have hi : J b 6 < J b 6 + 1 := by ((try clear hP); (try clear hT); (try clear hT'); (try clear hH); (try clear hH'); (try clear hQ); (try clear hJ); (try clear hrm)); grind
      have hi2 : J b 6 + 1 ≤ 16384 := by ((try clear hP); (try clear hT); (try clear hT'); (try clear hH); (try clear hH'); (try clear hQ); (try clear hJ); (try clear hrm)); grind
      have m0 := past_ok0 r6.1 hi hi2 hl
      have m1 := past_ok (e := 1) r6.1 hi hi2 hl (by decide)
      have m2 := past_ok (e := 2) r6.1 hi hi2 hl (by decide)
      have m3 := past_ok (e := 3) r6.1 hi hi2 hl (by decide)
      have m4 := past_ok (e := 4) r6.1 hi hi2 hl (by decide)
      have n1 : ¬ b = R' b 5 := fun e => by rw [← e, hb'] at r2; cases r2
      have n2 : ¬ a = R' b 5 := fun e => by rw [← e, ha'] at r2; cases r2
      have n1b : ¬ R' b 5 = b := fun e => n1 e.symm
      have n3 : ¬ a = b := fun e => by rw [e, hb] at ha; cases ha
      simp only [q47_19, q47_22, q47_23, q47_24, q47_27, q47_28, q47_29, q47_31, q47_32, q47_35, q47_37, q47_38, q47_41, q47_42, q47_43, q47_46, q47_48, q47_49, q47_50, q47_51, q47_54, q47_55, q47_56, q47_59, q47_61, q47_62, q47_63, q47_64, q47_67, q47_68, q47_69, q47_72, q47_74, q47_75, q47_76, q47_77, q47_78, q47_79, q47_82, q47_84, q47_85, q47_86, q47_87, q47_88, q47_89, q47_90, q47_93, q47_94, q47_95, q47_98, sp_last, as_nil, as_i, as_r, Nat.reduceAdd, Nat.reduceLeDiff, z_eq0, z_eq1, z_or, z_em, Classical.not_not, not_false_eq_true, not_true_eq_false, true_and, and_true, false_and, and_false, and_self, true_implies, false_implies, implies_true, Option.toList_some, Option.toList_none, List.cons_append, List.nil_append, Nat.add_eq_zero_iff, a_nl_i, a_nl_r, a_nl_n, true_or, or_true, eq_self, a_isRA_22, a_isRA_24, a_isRA_32, a_isA_20, ok_4, ok_5, ok_6, ok_7, ok_9, ok_20, ok_21, ok_30, ok_50, ok_180, ok_192, ok_200, ui_ap, cc_ne, cc_n0, cc_0n, Nat.reduceEqDiff, reduceIte, if_true, if_false, hb', ha', b0, a0, p0', r2, n1, n2, n3, m0, m1, m2, m3, m4]
      have z : 0 ≤ J b 6 + 1 := by ((try clear hP); (try clear hT); (try clear hT'); (try clear hH); (try clear hH'); (try clear hQ); (try clear hJ); (try clear hrm)); grind
      have ea : ∀ x, J a x = I a x := fun x => hJ a x al
      have hqq : ∀ J2, cT C K' L' J2 R' → dQ C (n' + 1) K' L' J R' (n' + 1) K' L' J2 R' → (∀ x j, ¬ (x = b ∧ j = 6) → ¬ x = R' b 5 → J2 x j = J x j) → J2 b 6 = J b 6 + 1 → (∀ j, J2 (R' b 5) j = rowU (J (R' b 5)) (J b 6) (J a 4) (J a 14) (J a 14 + J a 2 - 1) (I (R b 4) (I a 14).toNatClampNeg) w j) → P none (n' + 1, t', K', L', J2, R') := fun J2 q1 q2 q3 q4 q5 => by
        have hm := rowU_is (f := J (R' b 5)) (a := J a 4) (p := J a 14) (q := J a 14 + J a 2 - 1) (g := I (R b 4) (I a 14).toNatClampNeg) (w := w) (m := J b 6) (by rw [e6]; exact pz) hp
        refine hP n' t' K' L' J2 R' (cH_J hH' q1) (dQ_Q hQ q2) ⟨hrm.1, hrm.2.1, fun x j hx p1 p2 => (q3 x j p1 (fun e => by rcases hrm.2.1 with q | q <;> omega)).trans (hrm.2.2 x j hx p1 p2)⟩ (by rw [q4, e6]) (fun j hj => ?_) ?_
        · rw [q5, hm.1 j (by rw [e6]; exact hj)]
          exact hcp j (by omega)
        · rw [← e6]
          refine ⟨(q5 _).trans (hm.2.1.trans (ea 4)), (q5 _).trans (hm.2.2.1.trans (ea 14)), (q5 _).trans (hm.2.2.2.1.trans (by rw [ea, ea])), (q5 _).trans hm.2.2.2.2.1, (q5 _).trans hm.2.2.2.2.2⟩
      ((try clear hP))
      repeat' first
        | with_reducible apply And.intro
        | (intro hz0; exact absurd hz0 (by decide))
        | with_reducible assumption
        | with_reducible apply hqq
        | (intro x j p1 p2; simp only [ui_ap, p2, false_and, if_false]; rw [if_neg p1]; done)
        | (intro j; simp only [ui_ap, n1b, false_and, true_and, if_false]; rfl)
        | with_reducible intro _
        | with_reducible apply sT_past
        | with_reducible apply sT_arr
        | with_reducible apply dQ_3 (h1 := b1) (h2 := hb')
        | with_reducible apply dQ_20 (h1 := r1) (h2 := r2)
        | with_reducible exact dQ_refl
        | (simp only [ui_ap, and_self, if_true]; done)
        | (simp only [ui_ap, n1, n2, n3, false_and, if_false, b0]; done)
        | (simp only [ui_ap, n1, n2, n3, false_and, if_false, b0, and_self, if_true]; done)
/-- date, told exactly -/
theorem ch_date {b : Nat} (hb : K b = 3) (hT0 : cT C K L I R) {f l w : Int32} (hf : 0 ≤ f ∧ f ≤ 200) (hl : 0 ≤ l ∧ l ≤ 4) (hfl : f + l ≤ 200) (hP : ∀ J, dL C K L R I J → (∀ y j, ¬ y = R b 4 → J y j = I y j) → (∀ j, J (R b 4) j = if f.toNatClampNeg ≤ j ∧ j < f.toNatClampNeg + l.toNatClampNeg then w else I (R b 4) j) → P none (n, t, K, L, J, R)) : a_does (d + 1) 50 [a_rf b, .int f, .int (f + l - 1), .int w] (n, t, K, L, I, R) P := by
  have key : ∀ x : Int32, x ≤ 4 → ∀ J y, 0 ≤ x → x ≤ l → y = f + x → dL C K L R I J → (∀ y j, ¬ y = R b 4 → J y j = I y j) → (∀ j, J (R b 4) j = if f.toNatClampNeg ≤ j ∧ j < f.toNatClampNeg + x.toNatClampNeg then w else I (R b 4) j) → a_at d (a_xm a_m50) 3 [some (a_rf b), some (.int f), some (.int (f + l - 1)), some (.int w), some (.int y)] [] (n, t, K, L, J, R) P := by
    refine up_ind 4 (fun x hk ih => ?_)
    intro J y y0 y1 ey hL hJ hd
    have hT := hL.1
    have hS := hT.s
    obtain ⟨b1, ⟨w1, w2, w3⟩, ⟨s1, s2, s3⟩, ⟨h1, h2, h3⟩, ⟨p1, p2, p3⟩, q1⟩ := hT.g_bnc b hb
    have b0 : (b = 0) = False := eq_false (by omega)
    have w0 : (R b 2 = 0) = False := eq_false (by omega)
    have s0 : (R b 3 = 0) = False := eq_false (by omega)
    have h0 : (R b 4 = 0) = False := eq_false (by omega)
    have p0 : (R b 5 = 0) = False := eq_false (by omega)
    have hexit : ¬ y ≤ f + l - 1 → P none (n, t, K, L, J, R) := fun c => by
      have e : x = l := by (try clear ih); (try clear hP); (try clear hd); grind
      rw [e] at hd
      exact hP J hL hJ hd
    have hgo : y ≤ f + l - 1 → (0 ≤ y ∧ y < 200) ∧ a_at d (a_xm a_m50) 3 [some (a_rf b), some (.int f), some (.int (f + l - 1)), some (.int w), some (.int (y + 1))] [] (n, t, K, L, (a_ui J (R b 4) y.toNatClampNeg w), R) P := fun c => by
      have xl : x < l := by (try clear ih); (try clear hP); (try clear hd); (try clear hexit); grind
      obtain ⟨t1, t2, t3, t4⟩ := lp_st y0 xl
      obtain ⟨s1, s2, s3⟩ := sh_at hf.1 hf.2 ⟨y0, hk⟩
      refine ⟨by rw [ey]; exact ((sh_lt hf hl hfl ⟨y0, y1⟩).1 xl).1, ih (Int32.lt_of_lt_of_le xl hl.2) _ _ t2 t3 (by rw [ey]; (try clear ih); (try clear hP); (try clear hd); (try clear hexit); grind) (dL_arr hL h1 h2) (fun z j q => by rw [ui_ap, if_neg (fun r => q r.1)]; exact hJ z j q) (fun j => ?_)⟩
      rw [ui_ap, hd, ey, s1, t4]
      by_cases e : j = f.toNatClampNeg + x.toNatClampNeg
      · rw [if_pos ⟨rfl, e⟩, if_pos ⟨by omega, by omega⟩]
      · rw [if_neg (fun r => e r.2)]
        by_cases e2 : f.toNatClampNeg ≤ j ∧ j < f.toNatClampNeg + x.toNatClampNeg
        · rw [if_pos e2, if_pos ⟨e2.1, by omega⟩]
        · rw [if_neg e2, if_neg (fun r => e2 ⟨r.1, by omega⟩)]
    have hlt : y ≤ f + l - 1 → y < 200 := fun c => (hgo c).1.2
    rw [q50_3]
    by_cases c : y ≤ f + l - 1
    · obtain ⟨g1, g2⟩ := hgo c
      have c' : ¬ f + l - 1 < y := Int32.not_lt.mpr c
      have c2 : ¬ 200 ≤ y := Int32.not_le.mpr g1.2
      ((try clear ih); (try clear hP); (try clear hexit); (try clear hgo); (try clear hd))
      simp only [q50_5, q50_6, q50_9, q50_11, q50_14, q50_17, q50_18, q50_21, q50_23, q50_24, q50_25, q50_28, q50_31, as_nil, as_i, as_r, Nat.reduceAdd, Nat.reduceLeDiff, z_eq0, z_eq1, z_or, z_em, Classical.not_not, not_false_eq_true, not_true_eq_false, true_and, and_true, false_and, and_false, and_self, true_implies, false_implies, implies_true, Option.toList_some, Option.toList_none, List.cons_append, List.nil_append, Nat.add_eq_zero_iff, a_nl_i, a_nl_r, a_nl_n, true_or, or_true, eq_self, a_isRA_22, a_isRA_24, a_isRA_32, a_isA_20, ok_4, ok_5, ok_6, ok_7, ok_9, ok_20, ok_21, ok_30, ok_50, ok_180, ok_192, ok_200, hb, b0, w0, w2, w3, s0, s2, s3, h0, h2, h3, p0, p2, c, c', c2, g1]
      try simp only [true_and, and_true, true_implies, false_implies, implies_true, not_true_eq_false, not_false_eq_true]
      first
        | exact g2
        | grind
    · have hp := hexit c
      have c' : f + l - 1 < y := Int32.not_le.mp c
      ((try clear ih); (try clear hP); (try clear hexit); (try clear hgo); (try clear hd))
      simp only [q50_5, q50_6, q50_9, q50_11, q50_14, q50_17, q50_18, q50_21, q50_23, q50_24, q50_25, q50_28, q50_31, as_nil, as_i, as_r, Nat.reduceAdd, Nat.reduceLeDiff, z_eq0, z_eq1, z_or, z_em, Classical.not_not, not_false_eq_true, not_true_eq_false, true_and, and_true, false_and, and_false, and_self, true_implies, false_implies, implies_true, Option.toList_some, Option.toList_none, List.cons_append, List.nil_append, Nat.add_eq_zero_iff, a_nl_i, a_nl_r, a_nl_n, true_or, or_true, eq_self, a_isRA_22, a_isRA_24, a_isRA_32, a_isA_20, ok_4, ok_5, ok_6, ok_7, ok_9, ok_20, ok_21, ok_30, ok_50, ok_180, ok_192, ok_200, hb, b0, w0, w2, w3, s0, s2, s3, h0, h2, h3, p0, p2, c, c']
      try simp only [true_and, and_true, true_implies, false_implies, implies_true, not_true_eq_false, not_false_eq_true]
      first
        | exact hp
        | grind
  have hS := hT0.s
  have hk := key 0 (by decide) I f (by decide) hl.1 (Int32.add_zero _).symm (dL_refl hT0) (fun _ _ _ => rfl) (fun j => by rw [show (0 : Int32).toNatClampNeg = 0 from rfl, if_neg (by omega)])
  ((try clear key); (try clear hP))
  rw [a_enter1 (M := a_m50) rfl (a_cat_rf (a_cat_int (a_cat_int (a_cat_int a_cat_nil)))) (show 4 ≤ 5 by decide)]
  show a_at _ (a_xm a_m50) 0 [some (a_rf b), some (.int f), some (.int (f + l - 1)), some (.int w), none] [] _ _
  simp only [q50_0, q50_1, as_nil, as_i, as_r, Nat.reduceAdd, Nat.reduceLeDiff, z_eq0, z_eq1, z_or, z_em, Classical.not_not, not_false_eq_true, not_true_eq_false, true_and, and_true, false_and, and_false, and_self, true_implies, false_implies, implies_true, Option.toList_some, Option.toList_none, List.cons_append, List.nil_append, Nat.add_eq_zero_iff, a_nl_i, a_nl_r, a_nl_n, true_or, or_true, eq_self, a_isRA_22, a_isRA_24, a_isRA_32, a_isA_20, ok_4, ok_5, ok_6, ok_7, ok_9, ok_20, ok_21, ok_30, ok_50, ok_180, ok_192, ok_200]
  exact hk
theorem ch_place (hT : cT C K L I R) (hc : cpP C K L I R Y) (hse : seP C R Y) {a : Nat} {i : Int32} (ap : aaP C K I Y i a) (haa : (R (C + 15) i.toNatClampNeg) = a) {b s : Int32} (hb : 0 ≤ b ∧ b < Y 0 6) (hs : 0 ≤ s ∧ s ≤ 199) (hsl : s + Y 10 i.toNatClampNeg ≤ 200) (un : ¬ 0 ≤ Y 20 i.toNatClampNeg) (fr : ∀ z : Int32, 0 ≤ z → z < Y 10 i.toNatClampNeg → whC C I R b (s + z).toNatClampNeg = -9) (hP : ∀ J, dL C K L R I J → cpP C K L J R (puY Y i b s) → aZ K a I J → (∀ x j, C + 96 < x → K x = 20 → ¬ x = (R (C + 16) b.toNatClampNeg) + 1 → ¬ x = (R (C + 16) b.toNatClampNeg) + 2 → ¬ x = (R (C + 16) b.toNatClampNeg) + 3 → J x j = I x j) → (∀ j, J ((R (C + 16) b.toNatClampNeg) + 3) j = if s.toNatClampNeg ≤ j ∧ j < s.toNatClampNeg + (Y 10 i.toNatClampNeg).toNatClampNeg then I (C + 1) 6 else I ((R (C + 16) b.toNatClampNeg) + 3) j) → P none (n, t, K, L, J, R)) : a_does (d + 6) 113 [a_rf (C + 14), a_rf a, .int b, .int s] (n, t, K, L, I, R) P := by
  have hS := hT.s
  obtain ⟨ai, ⟨ha, an0, a4n⟩, am, al⟩ := id ap
  obtain ⟨a1, a2, a4, a3⟩ := hT.g_ask a ha
  have a0 : (a = 0) = False := eq_false an0
  have gA := hT.g_asksR
  have gB := hT.g_benchesR
  have gX := hT.g_textsR
  have hy := hc.2.2.2.2
  obtain ⟨kb, kb0, kb5, kb6⟩ := hc.2.1.2.2.1 b hb.1 hb.2
  have b6 : b < 6 := Int32.lt_of_lt_of_le hb.2 hy.2.2.2.2.2.1.2
  obtain ⟨eB2, eB3, eB4⟩ := hse.1 b hb.1 hb.2
  rw [a_enter1 (M := a_m113) rfl (a_cat_rf (a_cat_rf (a_cat_int (a_cat_int a_cat_nil)))) (show 4 ≤ 5 by decide)]
  show a_at _ (a_xm a_m113) 0 [some (a_rf (C + 14)), some (a_rf a), some (.int b), some (.int s), none] [] _ _
  simp only [q113_0, q113_1, q113_2, q113_3, q113_4, q113_5, q113_6, q113_7, q113_8, k_14 hS, z_14, as_nil, as_i, as_r, Nat.reduceAdd, Nat.reduceLeDiff, z_eq0, z_eq1, z_or, z_em, Classical.not_not, not_false_eq_true, not_true_eq_false, true_and, and_true, false_and, and_false, and_self, true_implies, false_implies, implies_true, Option.toList_some, Option.toList_none, List.cons_append, List.nil_append, Nat.add_eq_zero_iff, a_nl_i, a_nl_r, a_nl_n, true_or, or_true, eq_self, a_isRA_22, a_isRA_24, a_isRA_32, a_isA_20, ok_4, ok_5, ok_6, ok_7, ok_9, ok_20, ok_21, ok_30, ok_50, ok_180, ok_192, ok_200, ha, a0]
  try simp only [true_and, and_true, true_implies, false_implies, implies_true, not_true_eq_false, not_false_eq_true]
  refine ce_watchOf (d := d) hT hc ap hs hsl (fun w J hJ hw => ?_)
  have hT1 := hJ.1
  have hS1 := hT1.s
  have hc1 := cpP_C hT hc hJ
  have ap1 := aaP_C hT ap hJ
  simp only [q113_11, k_14 hS, z_14, as_nil, as_i, as_r, Nat.reduceAdd, Nat.reduceLeDiff, z_eq0, z_eq1, z_or, z_em, Classical.not_not, not_false_eq_true, not_true_eq_false, true_and, and_true, false_and, and_false, and_self, true_implies, false_implies, implies_true, Option.toList_some, Option.toList_none, List.cons_append, List.nil_append, Nat.add_eq_zero_iff, a_nl_i, a_nl_r, a_nl_n, true_or, or_true, eq_self, a_isRA_22, a_isRA_24, a_isRA_32, a_isA_20, ok_4, ok_5, ok_6, ok_7, ok_9, ok_20, ok_21, ok_30, ok_50, ok_180, ok_192, ok_200, ha, a0]
  try simp only [true_and, and_true, true_implies, false_implies, implies_true, not_true_eq_false, not_false_eq_true]
  have fr1 : ∀ z : Int32, 0 ≤ z → z < Y 10 i.toNatClampNeg → whC C J R b (s + z).toNatClampNeg = -9 := fun z z0 z1 => by
    rw [← fr z z0 z1]
    have g := (hT.g_bnc _ kb).2.1.1
    exact hJ.2 _ _ (by omega) (by omega)
  refine ce_lay (d := d + 1) hT1 hc1 hse ap1 haa hb hs hsl un fr1 hw (fun J2 hJ2 hc2 f20 ha2 => ?_)
  have hT2 := hJ2.1
  have hS2 := hT2.s
  have hL2 := dL_L (dL_C (dL_refl hT) hJ) hJ2
  have e2 : J2 a 2 = I a 2 := dL_at hL2 hT ha 2 (by decide) (by decide)
  have hbc : 0 ≤ b ∧ b < J2 (C + 14) 5 ∧ b < 6 := ⟨hb.1, by rw [hc2.2.1.1, puY_b 0 6 (by unfold sb; omega)]; exact hb.2, b6⟩
  have a0 : (a = 0) = False := eq_false an0
  have el2 : J2 a 2 = Y 10 i.toNatClampNeg := e2.trans al.1.2.2.1
  have en2 : J2 (C + 1) 6 = I (C + 1) 6 := hL2.2 _ _ (by omega) (by omega) (by omega)
  have hfin : a_does (d + 5) 50 [a_rf (R (C + 16) b.toNatClampNeg), .int s, .int (s + J2 a 2 - 1), .int (J2 (C + 1) 6)] (n, t, K, L, J2, R) (fun r h' => a_at (d + 5) (a_xm a_m113) 47 [some (a_rf (C + 14)), some (a_rf a), some (.int b), some (.int s), some (a_rf (R (C + 16) b.toNatClampNeg))] (r.toList ++ []) h' P) := by
    rw [el2]
    refine ch_date (d := d + 4) kb hT2 ⟨hs.1, Int32.le_trans hs.2 (by decide)⟩ (hy.2.1 _) hsl (fun J3 hJ3 hd hdx => ?_)
    have hp := hP J3 (dL_L hL2 hJ3) (cp_fr hT2 hc2 (fun k j hk => hd _ _ (by rw [eB4]; have := (hT.g_bnc _ kb).1; omega)) (fun x j kx => hd _ _ (fun e => by rw [e, ((hT.g_bnc _ kb).2.2.2.1).2.1] at kx; cases kx)) (fun x j kx _ => hd _ _ (fun e => by rw [e, ((hT.g_bnc _ kb).2.2.2.1).2.1] at kx; cases kx)) (fun x j kx => hd _ _ (fun e => by rw [e, ((hT.g_bnc _ kb).2.2.2.1).2.1] at kx; cases kx)) (fun k k0 k1 j => hd _ _ (by
      rw [puY_b 0 41 (by unfold sb; omega)] at k1
      have q := (hse.2.2.1 k b k0 k1 hb.1 hb.2).1
      rw [eB4]
      omega)) (fun o o0 o1 j => by
      rw [puY_b 0 6 (by unfold sb; omega)] at o1
      obtain ⟨d2, d3, d4⟩ := hse.1 o o0 o1
      rw [d2, d3]
      by_cases e : o = b
      · subst e
        exact ⟨hd _ _ (by rw [eB4]; omega), hd _ _ (by rw [eB4]; omega)⟩
      · have := se_ne hT hc hse ⟨o0, o1⟩ hb e
        exact ⟨hd _ _ (by rw [eB4]; omega), hd _ _ (by rw [eB4]; omega)⟩)) (fun x j kx hx => by
      have g1 := (hT.g_ask x kx).1
      rw [hd x j (fun e => by rw [e, ((hT.g_bnc _ kb).2.2.2.1).2.1] at kx; cases kx), ha2 x j kx hx]
      exact hJ.2 x j (by omega) (by omega)) (fun x j hx kx n1 n2 n3 => by
      rw [hd x j (by rw [eB4]; exact n3), f20 x j kx n1 n2]
      exact hJ.2 x j (by omega) (by omega)) (fun j => by
      have h3 := hdx j
      rw [eB4] at h3
      rw [h3, en2]
      have b96 := (hT.g_bnc _ kb).1
      have k3 : K ((R (C + 16) b.toNatClampNeg) + 3) = 20 := by rw [← eB4]; exact ((hT.g_bnc _ kb).2.2.2.1).2.1
      rw [f20 _ j k3 (by omega) (by omega), hJ.2 _ j (by omega) (by omega)])
    ((try clear hP); (try clear hc); (try clear hc1); (try clear hc2); (try clear ap); (try clear ap1); (try clear al); (try clear am); (try clear hw); (try clear fr); (try clear fr1); (try clear hse); (try clear f20); (try clear hd))
    simp only [q113_47, as_nil, as_i, as_r, Nat.reduceAdd, Nat.reduceLeDiff, z_eq0, z_eq1, z_or, z_em, Classical.not_not, not_false_eq_true, not_true_eq_false, true_and, and_true, false_and, and_false, and_self, true_implies, false_implies, implies_true, Option.toList_some, Option.toList_none, List.cons_append, List.nil_append, Nat.add_eq_zero_iff, a_nl_i, a_nl_r, a_nl_n, true_or, or_true, eq_self, a_isRA_22, a_isRA_24, a_isRA_32, a_isA_20, ok_4, ok_5, ok_6, ok_7, ok_9, ok_20, ok_21, ok_30, ok_50, ok_180, ok_192, ok_200, ha, a0]
    exact hp
  ((try clear hP); (try clear hc); (try clear hc1); (try clear ap); (try clear ap1); (try clear al); (try clear am); (try clear hw); (try clear fr); (try clear fr1); (try clear hse); (try clear f20))
  simp only [q113_14, q113_15, q113_16, q113_19, q113_21, q113_23, q113_26, q113_28, q113_29, q113_30, q113_31, q113_34, q113_35, q113_36, q113_37, q113_38, q113_41, q113_44, k_14 hS, z_14, r_14_0 hS, k_1 hS, z_1, sp_benchAt hS gB, as_nil, as_i, as_r, Nat.reduceAdd, Nat.reduceLeDiff, z_eq0, z_eq1, z_or, z_em, Classical.not_not, not_false_eq_true, not_true_eq_false, true_and, and_true, false_and, and_false, and_self, true_implies, false_implies, implies_true, Option.toList_some, Option.toList_none, List.cons_append, List.nil_append, Nat.add_eq_zero_iff, a_nl_i, a_nl_r, a_nl_n, true_or, or_true, eq_self, a_isRA_22, a_isRA_24, a_isRA_32, a_isA_20, ok_4, ok_5, ok_6, ok_7, ok_9, ok_20, ok_21, ok_30, ok_50, ok_180, ok_192, ok_200, ha, a0, hbc, kb, kb0]
  try simp only [true_and, and_true, true_implies, false_implies, implies_true, not_true_eq_false, not_false_eq_true]
  exact hfin
theorem ch_rem1 {a b : Nat} (hb : K b = 3) (ha : K a = 1) (hH : cH C c (n + 1) t K L I R) (hj : ∃ j, j < 6 ∧ R (C + 16) j = b) (hs : 0 ≤ I a 14 ∧ I a 14 < 200) {w : Int32} (hpc : I b 6 < 16384) (hP : ∀ n' t' K' L' J R', cH C c (n' + 1) t' K' L' J R' → dQ C (n + 1) K L I R (n' + 1) K' L' J R' → rmP (n + 1) b I R J R' → ((I (R b 4) (I a 14).toNatClampNeg = w ∧ R' b 5 = R b 5 ∧ J b 6 = I b 6 ∧ ∀ j, J (R' b 5) j = I (R b 5) j) ∨ (¬ I (R b 4) (I a 14).toNatClampNeg = w ∧ J b 6 = I b 6 + 1 ∧ (∀ j, j < 5 * (I b 6).toNatClampNeg → J (R' b 5) j = I (R b 5) j) ∧ (J (R' b 5) (5 * (I b 6).toNatClampNeg) = I a 4 ∧ J (R' b 5) (5 * (I b 6).toNatClampNeg + 1) = I a 14 ∧ J (R' b 5) (5 * (I b 6).toNatClampNeg + 2) = I a 14 + I a 2 - 1 ∧ J (R' b 5) (5 * (I b 6).toNatClampNeg + 3) = I (R b 4) (I a 14).toNatClampNeg ∧ J (R' b 5) (5 * (I b 6).toNatClampNeg + 4) = w))) → P none (n' + 1, t', K', L', J, R')) : a_does (d + 2) 47 [a_rf b, a_rf a, .int w] (n + 1, t, K, L, I, R) P :=
  ch_remember hb ha hH hj hs hpc (fun e => hP n t K L I R hH dQ_refl ⟨fun _ _ _ _ => rfl, Or.inl rfl, fun _ _ _ _ _ => rfl⟩ (Or.inl ⟨e, rfl, rfl, fun _ => rfl⟩)) (fun e n' t' K' L' J R' q1 q2 q3 q4 q5 q6 => hP n' t' K' L' J R' q1 q2 q3 (Or.inr ⟨e, q4, q5, q6⟩))
theorem ch_clear (hH : cH C c (n + 1) t K L I R) (hc : cpP C K L I R Y) (hse : seP C R Y) {a : Nat} {i : Int32} (ap : aaP C K I Y i a) (haa : (R (C + 15) i.toNatClampNeg) = a) (hpc : I (R (C + 16) (Y 20 i.toNatClampNeg).toNatClampNeg) 6 < 16384) (hP : ∀ n' t' K' L' J R', cH C c (n' + 1) t' K' L' J R' → dQ C (n + 1) K L I R (n' + 1) K' L' J R' → cpP C K' L' J R' (unY Y i) → seP C R' Y → (∀ j, R' (C + 15) j = R (C + 15) j) → aZ K a I J → (∀ x j, C + 96 < x → x < n + 1 → K x = 20 → ¬ x = (R (C + 16) (Y 20 i.toNatClampNeg).toNatClampNeg) + 1 → ¬ x = (R (C + 16) (Y 20 i.toNatClampNeg).toNatClampNeg) + 2 → ¬ x = (R (C + 16) (Y 20 i.toNatClampNeg).toNatClampNeg) + 3 → ¬ x = R (R (C + 16) (Y 20 i.toNatClampNeg).toNatClampNeg) 5 → J x j = I x j) → (∀ x j, x < n + 1 → ¬ (x = (R (C + 16) (Y 20 i.toNatClampNeg).toNatClampNeg) ∧ j = 5) → R' x j = R x j) → (R' (R (C + 16) (Y 20 i.toNatClampNeg).toNatClampNeg) 5 = R (R (C + 16) (Y 20 i.toNatClampNeg).toNatClampNeg) 5 ∨ R' (R (C + 16) (Y 20 i.toNatClampNeg).toNatClampNeg) 5 = n + 1) → (∀ x j, K x = 3 → ¬ (x = (R (C + 16) (Y 20 i.toNatClampNeg).toNatClampNeg) ∧ j = 6) → J x j = I x j) → (∀ j, J ((R (C + 16) (Y 20 i.toNatClampNeg).toNatClampNeg) + 3) j = if (Y 21 i.toNatClampNeg).toNatClampNeg ≤ j ∧ j < (Y 21 i.toNatClampNeg).toNatClampNeg + (Y 10 i.toNatClampNeg).toNatClampNeg then I (C + 1) 6 else I ((R (C + 16) (Y 20 i.toNatClampNeg).toNatClampNeg) + 3) j) → ((I ((R (C + 16) (Y 20 i.toNatClampNeg).toNatClampNeg) + 3) (Y 21 i.toNatClampNeg).toNatClampNeg = I (C + 1) 6 ∧ R' (R (C + 16) (Y 20 i.toNatClampNeg).toNatClampNeg) 5 = R (R (C + 16) (Y 20 i.toNatClampNeg).toNatClampNeg) 5 ∧ J (R (C + 16) (Y 20 i.toNatClampNeg).toNatClampNeg) 6 = I (R (C + 16) (Y 20 i.toNatClampNeg).toNatClampNeg) 6 ∧ ∀ j, J (R' (R (C + 16) (Y 20 i.toNatClampNeg).toNatClampNeg) 5) j = I (R (R (C + 16) (Y 20 i.toNatClampNeg).toNatClampNeg) 5) j) ∨ (¬ I ((R (C + 16) (Y 20 i.toNatClampNeg).toNatClampNeg) + 3) (Y 21 i.toNatClampNeg).toNatClampNeg = I (C + 1) 6 ∧ J (R (C + 16) (Y 20 i.toNatClampNeg).toNatClampNeg) 6 = I (R (C + 16) (Y 20 i.toNatClampNeg).toNatClampNeg) 6 + 1 ∧ (∀ j, j < 5 * (I (R (C + 16) (Y 20 i.toNatClampNeg).toNatClampNeg) 6).toNatClampNeg → J (R' (R (C + 16) (Y 20 i.toNatClampNeg).toNatClampNeg) 5) j = I (R (R (C + 16) (Y 20 i.toNatClampNeg).toNatClampNeg) 5) j) ∧ (J (R' (R (C + 16) (Y 20 i.toNatClampNeg).toNatClampNeg) 5) (5 * (I (R (C + 16) (Y 20 i.toNatClampNeg).toNatClampNeg) 6).toNatClampNeg) = i ∧ J (R' (R (C + 16) (Y 20 i.toNatClampNeg).toNatClampNeg) 5) (5 * (I (R (C + 16) (Y 20 i.toNatClampNeg).toNatClampNeg) 6).toNatClampNeg + 1) = Y 21 i.toNatClampNeg ∧ J (R' (R (C + 16) (Y 20 i.toNatClampNeg).toNatClampNeg) 5) (5 * (I (R (C + 16) (Y 20 i.toNatClampNeg).toNatClampNeg) 6).toNatClampNeg + 2) = Y 21 i.toNatClampNeg + Y 10 i.toNatClampNeg - 1 ∧ J (R' (R (C + 16) (Y 20 i.toNatClampNeg).toNatClampNeg) 5) (5 * (I (R (C + 16) (Y 20 i.toNatClampNeg).toNatClampNeg) 6).toNatClampNeg + 3) = I ((R (C + 16) (Y 20 i.toNatClampNeg).toNatClampNeg) + 3) (Y 21 i.toNatClampNeg).toNatClampNeg ∧ J (R' (R (C + 16) (Y 20 i.toNatClampNeg).toNatClampNeg) 5) (5 * (I (R (C + 16) (Y 20 i.toNatClampNeg).toNatClampNeg) 6).toNatClampNeg + 4) = I (C + 1) 6))) → P none (n' + 1, t', K', L', J, R')) (pa : 0 ≤ Y 20 i.toNatClampNeg) : a_does (d + 5) 45 [a_rf (C + 14), a_rf a] (n + 1, t, K, L, I, R) P := by
  have hT := hH.1
  have hS := hT.s
  obtain ⟨ai, ⟨ha, an0, a4n⟩, am, al⟩ := id ap
  obtain ⟨a1, a2, a4, a3⟩ := hT.g_ask a ha
  have a0 : (a = 0) = False := eq_false an0
  have gA := hT.g_asksR
  have gB := hT.g_benchesR
  have gX := hT.g_textsR
  have fr := hH.2.1
  have al0 : a < n + 1 := kn_lt fr ha (by decide)
  have hy := hc.2.2.2.2
  have y10 := hy.2.1 i.toNatClampNeg
  have e13 : I a 13 = Y 20 i.toNatClampNeg := al.2.2.2.1.1
  have e14 : I a 14 = Y 21 i.toNatClampNeg := al.2.2.2.1.2
  have i30 : i.toNatClampNeg < 30 := a_lt30 ⟨ai.1, Int32.lt_of_lt_of_le ai.2 hy.2.2.2.2.1.2⟩
  obtain ⟨⟨p21, p200, psl⟩, p5⟩ := hy.2.2.2.2.2.2.1 _ i30 pa
  have p6 : Y 20 i.toNatClampNeg < Y 0 6 := (hc.2.1.2.2.2.1 i ai.1 ai.2 pa).1
  have ps : 0 ≤ Y 21 i.toNatClampNeg ∧ Y 21 i.toNatClampNeg ≤ 199 ∧ Y 21 i.toNatClampNeg ≤ 200 := by
    have := hy.2.2.1 i ai.1 ai.2
    ((try clear hP); (try clear hse); (try clear gA); (try clear gB); (try clear gX))
    grind
  obtain ⟨kb, kb0, kb5, kb6⟩ := hc.2.1.2.2.1 _ pa p6
  obtain ⟨eB2, eB3, eB4⟩ := hse.1 _ pa p6
  obtain ⟨bB, ⟨w1, w2, w3⟩, ⟨s1, s2, s3⟩, ⟨h1', h2', h3'⟩, ⟨pp1, pp2, -⟩, -⟩ := hT.g_bnc _ kb
  have b6 : Y 20 i.toNatClampNeg < 6 := Int32.lt_of_lt_of_le p6 hy.2.2.2.2.2.1.2
  have hbc : 0 ≤ Y 20 i.toNatClampNeg ∧ Y 20 i.toNatClampNeg < I (C + 14) 5 ∧ Y 20 i.toNatClampNeg < 6 := ⟨pa, by rw [hc.2.1.1]; exact p6, b6⟩
  have hj : ∃ j, j < 6 ∧ R (C + 16) j = (R (C + 16) (Y 20 i.toNatClampNeg).toNatClampNeg) := ⟨_, show (Y 20 i.toNatClampNeg).toNatClampNeg < (6 : Int32).toNatClampNeg from cl_lt pa b6, rfl⟩
  have bl := kn_lt fr kb (by decide)
  have kz : ∀ x, ¬ K x = 0 → x < n + 1 := fun x hx => Classical.byContradiction (fun q => hx (fr x (by omega)))
  rw [a_enter1 (M := a_m45) rfl (a_cat_rf (a_cat_rf a_cat_nil)) (show 2 ≤ 3 by decide)]
  show a_at _ (a_xm a_m45) 0 [some (a_rf (C + 14)), some (a_rf a), none] [] _ _
  simp only [q45_0, q45_1, q45_2, q45_5, q45_8, q45_9, q45_10, q45_13, q45_14, q45_15, q45_16, q45_19, q45_22, k_14 hS, z_14, r_14_0 hS, k_1 hS, z_1, sp_benchAt hS gB, as_nil, as_i, as_r, Nat.reduceAdd, Nat.reduceLeDiff, z_eq0, z_eq1, z_or, z_em, Classical.not_not, not_false_eq_true, not_true_eq_false, true_and, and_true, false_and, and_false, and_self, true_implies, false_implies, implies_true, Option.toList_some, Option.toList_none, List.cons_append, List.nil_append, Nat.add_eq_zero_iff, a_nl_i, a_nl_r, a_nl_n, true_or, or_true, eq_self, a_isRA_22, a_isRA_24, a_isRA_32, a_isA_20, ok_4, ok_5, ok_6, ok_7, ok_9, ok_20, ok_21, ok_30, ok_50, ok_180, ok_192, ok_200, ha, a0, e13, hbc, kb, kb0]
  try simp only [true_and, and_true, true_implies, false_implies, implies_true, not_true_eq_false, not_false_eq_true]
  refine ch_rem1 (d := d + 2) kb ha hH hj (by rw [e14]; exact ⟨ps.1, by ((try clear hP); (try clear hse); (try clear gA); (try clear gB); (try clear gX)); grind⟩) hpc (fun n' t' K' L' J R' hH' hQ hrm hrd => ?_)
  have a4i : I a 4 = i := a4n
  rw [eB4, e14, a4i, al.1.2.2.1] at hrd
  have se4 := hse.2.2.2
  obtain ⟨rm1, rm2, rm3⟩ := hrm
  have kk : ∀ x, ¬ K x = 0 → K' x = K x ∧ L' x = L x := fun x hx => ⟨hQ.2.1 x (kz x hx), hQ.2.2.1 x (kz x hx)⟩
  have ha' : K' a = 1 := by rw [(kk a (by rw [ha]; decide)).1]; exact ha
  have hb' : K' (R (C + 16) (Y 20 i.toNatClampNeg).toNatClampNeg) = 3 := by rw [(kk _ (by rw [kb]; decide)).1]; exact kb
  have hT' := hH'.1
  have hS' := hT'.s
  have n5 : ∀ x, ¬ K x = 20 → ¬ x = R (R (C + 16) (Y 20 i.toNatClampNeg).toNatClampNeg) 5 := fun x hx e => hx (by rw [e]; exact pp2)
  have jJ : ∀ x j, ¬ K x = 0 → ¬ K x = 20 → ¬ (K x = 3 ∧ j = 6) → J x j = I x j := fun x j k0 k20 k3 => rm3 x j (kz x k0) (fun q => k3 (by rw [q.1]; exact ⟨kb, q.2⟩)) (n5 x k20)
  have R16 : ∀ j, R' (C + 16) j = R (C + 16) j := fun j => rm1 _ _ (by have := hH.2.2.1; omega) (by omega)
  have hc1 : cpP C K' L' J R' Y := by
    refine cp_mk hT hc (fun _ _ _ => rfl) hy.2.2.2.2.2.2.1 kk (fun x j k0 k3 _ _ _ => rm1 x j (kz x k0) (fun q => k3 (by rw [q.1]; exact ⟨kb, q.2⟩))) (fun k j hk => rm3 _ _ (by have := hH.2.2.1; omega) (by omega) (by omega)) (fun x j kx _ _ => jJ x j (by rw [kx]; decide) (by rw [kx]; decide) (by rw [kx]; omega)) (fun x j kx k6 => jJ x j (by rw [kx]; decide) (by rw [kx]; decide) (by omega)) (fun x j kx => jJ x j (by rw [kx]; decide) (by rw [kx]; decide) (by rw [kx]; omega)) (fun k k0 k1 j => ?_) (fun o o0 o1 => ?_) (plP_eq hc.2.1.2.2.2 (fun b b0 b1 => ?_) (fun b b0 b1 => ?_))
    · have hk := (hc.2.2.2.1.2 k k0 k1).1
      have h20 := (hT.g_txt _ hk).2.2.1
      obtain ⟨-, q⟩ := hse.2.2.1 k _ k0 k1 pa p6
      exact rm3 _ _ (kz _ (by rw [h20]; decide)) (fun e => by rw [e.1, kb] at h20; cases h20) q
    · have ao := hc.2.2.1.2.1 o o0 o1
      rw [jJ _ _ (by rw [ao.1]; decide) (by rw [ao.1]; decide) (by rw [ao.1]; omega), jJ _ _ (by rw [ao.1]; decide) (by rw [ao.1]; decide) (by rw [ao.1]; omega)]
      exact (hc.2.2.1.2.2.2 o o0 o1).2.2.2.1
    · obtain ⟨d2, d3, d4⟩ := hse.1 b b0 b1
      have k1 := (hc.2.1.2.2.1 b b0 b1).1
      have h20 := (hT.g_bnc _ k1).2.1.2.1
      have q := hse.2.2.2 _ b pa p6 b0 b1
      unfold whC
      funext j
      refine rm3 _ _ (kz _ (by rw [h20]; decide)) (fun e => by rw [e.1, kb] at h20; cases h20) (by rw [d2]; omega)
    · obtain ⟨d2, d3, d4⟩ := hse.1 b b0 b1
      have k1 := (hc.2.1.2.2.1 b b0 b1).1
      have h20 := (hT.g_bnc _ k1).2.2.1.2.1
      have q := hse.2.2.2 _ b pa p6 b0 b1
      unfold snC
      funext j
      refine rm3 _ _ (kz _ (by rw [h20]; decide)) (fun e => by rw [e.1, kb] at h20; cases h20) (by rw [d3]; omega)
  have hse1 : seP C R' Y := by
    have rB : ∀ b : Int32, 0 ≤ b → b < Y 0 6 → ∀ j, ¬ j = 5 → R' (R (C + 16) b.toNatClampNeg) j = R (R (C + 16) b.toNatClampNeg) j := fun b b0 b1 j hj => rm1 _ _ (kz _ (by rw [(hc.2.1.2.2.1 b b0 b1).1]; decide)) (fun q => hj q.2)
    have rB5 : ∀ b : Int32, 0 ≤ b → b < Y 0 6 → R' (R (C + 16) b.toNatClampNeg) 5 = R (R (C + 16) b.toNatClampNeg) 5 ∨ R' (R (C + 16) b.toNatClampNeg) 5 = n + 1 := fun b b0 b1 => by
      by_cases e : (R (C + 16) b.toNatClampNeg) = (R (C + 16) (Y 20 i.toNatClampNeg).toNatClampNeg)
      · rw [e]
        exact rm2
      · exact Or.inl (rm1 _ _ (kz _ (by rw [(hc.2.1.2.2.1 b b0 b1).1]; decide)) (fun q => e q.1))
    have rX : ∀ k : Int32, 0 ≤ k → k < Y 0 41 → R' (C + 8) k.toNatClampNeg = (R (C + 8) k.toNatClampNeg) ∧ R' (R (C + 8) k.toNatClampNeg) 2 = R (R (C + 8) k.toNatClampNeg) 2 ∧ R (R (C + 8) k.toNatClampNeg) 2 < n + 1 := fun k k0 k1 => by
      have hk := (hc.2.2.2.1.2 k k0 k1).1
      have h20 := (hT.g_txt _ hk).2.2.1
      exact ⟨rm1 _ _ (by have := hH.2.2.1; omega) (by omega), rm1 _ _ (kz _ (by rw [hk]; decide)) (by omega), kz _ (by rw [h20]; decide)⟩
    have low : ∀ b : Int32, 0 ≤ b → b < Y 0 6 → (R (C + 16) b.toNatClampNeg) + 3 < n + 1 := fun b b0 b1 => by
      have k1 := (hc.2.1.2.2.1 b b0 b1).1
      have h20 := (hT.g_bnc _ k1).2.2.2.1.2.1
      rw [(hse.1 b b0 b1).2.2] at h20
      exact kz _ (by rw [h20]; decide)
    refine ⟨fun b b0 b1 => ?_, fun b c b0 b1 c0 c1 e => ?_, fun k b k0 k1 b0 b1 => ?_, fun b c b0 b1 c0 c1 => ?_⟩
    · rw [R16, rB b b0 b1 2 (by omega), rB b b0 b1 3 (by omega), rB b b0 b1 4 (by omega)]
      exact hse.1 b b0 b1
    · rw [R16, R16] at e
      exact hse.2.1 b c b0 b1 c0 c1 e
    · obtain ⟨x1, x2, x3⟩ := rX k k0 k1
      rw [x1, x2, R16]
      obtain ⟨q1, q2⟩ := hse.2.2.1 k b k0 k1 b0 b1
      refine ⟨q1, fun e => ?_⟩
      rcases rB5 b b0 b1 with q | q
      · rw [q] at e
        exact q2 e
      · omega
    · rw [R16, R16]
      have := low c c0 c1
      rcases rB5 b b0 b1 with q | q
      · rw [q]
        exact hse.2.2.2 b c b0 b1 c0 c1
      · omega
  have ap1 : aaP C K' J Y i a := by
    have ao := aa_of hc1 ai.1 ai.2
    rw [rm1 _ _ (by have := hH.2.2.1; omega) (by omega), haa] at ao
    exact ao
  have R15 : ∀ j, R' (C + 15) j = R (C + 15) j := fun j => rm1 _ _ (by have := hH.2.2.1; omega) (by omega)
  have f14 : J a 14 = Y 21 i.toNatClampNeg := ap1.2.2.2.2.2.2.1.2
  have hlift : ∀ J2, dL C K' L' R' J J2 → (∀ x j, K x = 1 → J2 x j = J x j) → (∀ y j, ¬ y = (R (C + 16) (Y 20 i.toNatClampNeg).toNatClampNeg) + 3 → J2 y j = J y j) → (∀ j, J2 ((R (C + 16) (Y 20 i.toNatClampNeg).toNatClampNeg) + 3) j = if (Y 21 i.toNatClampNeg).toNatClampNeg ≤ j ∧ j < (Y 21 i.toNatClampNeg).toNatClampNeg + (Y 10 i.toNatClampNeg).toNatClampNeg then J (C + 1) 6 else J ((R (C + 16) (Y 20 i.toNatClampNeg).toNatClampNeg) + 3) j) → cpP C K' L' J2 R' Y → a_does (d + 4) 51 [a_rf (C + 14), a_rf a] (n' + 1, t', K', L', J2, R') (fun r h' => a_at (d + 4) (a_xm a_m45) 49 [some (a_rf (C + 14)), some (a_rf a), some (a_rf (R (C + 16) (Y 20 i.toNatClampNeg).toNatClampNeg))] (r.toList ++ []) h' P) := fun J2 hJ2 hk2 hdJ hdx hc2 => by
    have ap2 : aaP C K' J2 Y i a := by
      have ao := aa_of hc2 ai.1 ai.2
      rw [R15, haa] at ao
      exact ao
    refine ce_lift (d := d) hJ2.1 hc2 hse1 ap2 (by rw [R15]; exact haa) pa (fun J3 hJ3 hc3 f20 haz => ?_)
    have k3 : K ((R (C + 16) (Y 20 i.toNatClampNeg).toNatClampNeg) + 3) = 20 := by rw [← eB4]; exact h2'
    have b3n : (R (C + 16) (Y 20 i.toNatClampNeg).toNatClampNeg) + 3 < n + 1 := kz _ (by rw [k3]; decide)
    have hpp := se4 _ _ pa p6 pa p6
    have g20 : ∀ x j, K' x = 20 → ¬ x = (R (C + 16) (Y 20 i.toNatClampNeg).toNatClampNeg) + 1 → ¬ x = (R (C + 16) (Y 20 i.toNatClampNeg).toNatClampNeg) + 2 → J3 x j = J2 x j := fun x j kx n1 n2 => f20 x j kx (by rw [R16]; exact n1) (by rw [R16]; exact n2)
    have hA : ∀ x j, C + 96 < x → x < n + 1 → K x = 20 → ¬ x = (R (C + 16) (Y 20 i.toNatClampNeg).toNatClampNeg) + 1 → ¬ x = (R (C + 16) (Y 20 i.toNatClampNeg).toNatClampNeg) + 2 → ¬ x = (R (C + 16) (Y 20 i.toNatClampNeg).toNatClampNeg) + 3 → ¬ x = R (R (C + 16) (Y 20 i.toNatClampNeg).toNatClampNeg) 5 → J3 x j = I x j := fun x j hx hn kx n1 n2 n3 n4 => by
      rw [g20 x j (by rw [(kk x (by rw [kx]; decide)).1]; exact kx) n1 n2, hdJ x j n3]
      exact rm3 x j hn (fun e => by rw [e.1, kb] at kx; cases kx) n4
    have hK3 : ∀ x j, K x = 3 → ¬ (x = (R (C + 16) (Y 20 i.toNatClampNeg).toNatClampNeg) ∧ j = 6) → J3 x j = I x j := fun x j kx hq => by
      have kx' : K' x = 3 := by rw [(kk x (by rw [kx]; decide)).1]; exact kx
      have x96 := (hT.g_bnc x kx).1
      rw [hJ3.2 x j (by omega) (by omega) (by rw [kx']; omega), hdJ x j (fun e => by rw [e, k3] at kx; cases kx)]
      exact rm3 x j (kz x (by rw [kx]; decide)) hq (fun e => by rw [e, pp2] at kx; cases kx)
    have enow : J (C + 1) 6 = I (C + 1) 6 := rm3 _ _ (by have := hH.2.2.1; omega) (by omega) (by omega)
    have hD : ∀ j, J3 ((R (C + 16) (Y 20 i.toNatClampNeg).toNatClampNeg) + 3) j = if (Y 21 i.toNatClampNeg).toNatClampNeg ≤ j ∧ j < (Y 21 i.toNatClampNeg).toNatClampNeg + (Y 10 i.toNatClampNeg).toNatClampNeg then I (C + 1) 6 else I ((R (C + 16) (Y 20 i.toNatClampNeg).toNatClampNeg) + 3) j := fun j => by
      rw [g20 _ j (by rw [(kk _ (by rw [k3]; decide)).1]; exact k3) (by omega) (by omega), hdx j, enow, rm3 _ j b3n (by omega) (by omega)]
    have b6' : J3 (R (C + 16) (Y 20 i.toNatClampNeg).toNatClampNeg) 6 = J (R (C + 16) (Y 20 i.toNatClampNeg).toNatClampNeg) 6 := by
      have kx' : K' (R (C + 16) (Y 20 i.toNatClampNeg).toNatClampNeg) = 3 := hb'
      rw [hJ3.2 _ 6 (by omega) (by omega) (by rw [kx']; omega), hdJ _ 6 (by omega)]
    have hpast : ∀ j, J3 (R' (R (C + 16) (Y 20 i.toNatClampNeg).toNatClampNeg) 5) j = J (R' (R (C + 16) (Y 20 i.toNatClampNeg).toNatClampNeg) 5) j := fun j => by
      have kp : K' (R' (R (C + 16) (Y 20 i.toNatClampNeg).toNatClampNeg) 5) = 20 := (hT'.g_bnc _ hb').2.2.2.2.1.2.1
      have np : R' (R (C + 16) (Y 20 i.toNatClampNeg).toNatClampNeg) 5 < (R (C + 16) (Y 20 i.toNatClampNeg).toNatClampNeg) + 1 ∨ (R (C + 16) (Y 20 i.toNatClampNeg).toNatClampNeg) + 3 < R' (R (C + 16) (Y 20 i.toNatClampNeg).toNatClampNeg) 5 := by rcases rm2 with q | q <;> omega
      rw [g20 _ j kp (by omega) (by omega), hdJ _ j (by omega)]
    have hE : (I ((R (C + 16) (Y 20 i.toNatClampNeg).toNatClampNeg) + 3) (Y 21 i.toNatClampNeg).toNatClampNeg = I (C + 1) 6 ∧ R' (R (C + 16) (Y 20 i.toNatClampNeg).toNatClampNeg) 5 = R (R (C + 16) (Y 20 i.toNatClampNeg).toNatClampNeg) 5 ∧ J3 (R (C + 16) (Y 20 i.toNatClampNeg).toNatClampNeg) 6 = I (R (C + 16) (Y 20 i.toNatClampNeg).toNatClampNeg) 6 ∧ ∀ j, J3 (R' (R (C + 16) (Y 20 i.toNatClampNeg).toNatClampNeg) 5) j = I (R (R (C + 16) (Y 20 i.toNatClampNeg).toNatClampNeg) 5) j) ∨ (¬ I ((R (C + 16) (Y 20 i.toNatClampNeg).toNatClampNeg) + 3) (Y 21 i.toNatClampNeg).toNatClampNeg = I (C + 1) 6 ∧ J3 (R (C + 16) (Y 20 i.toNatClampNeg).toNatClampNeg) 6 = I (R (C + 16) (Y 20 i.toNatClampNeg).toNatClampNeg) 6 + 1 ∧ (∀ j, j < 5 * (I (R (C + 16) (Y 20 i.toNatClampNeg).toNatClampNeg) 6).toNatClampNeg → J3 (R' (R (C + 16) (Y 20 i.toNatClampNeg).toNatClampNeg) 5) j = I (R (R (C + 16) (Y 20 i.toNatClampNeg).toNatClampNeg) 5) j) ∧ (J3 (R' (R (C + 16) (Y 20 i.toNatClampNeg).toNatClampNeg) 5) (5 * (I (R (C + 16) (Y 20 i.toNatClampNeg).toNatClampNeg) 6).toNatClampNeg) = i ∧ J3 (R' (R (C + 16) (Y 20 i.toNatClampNeg).toNatClampNeg) 5) (5 * (I (R (C + 16) (Y 20 i.toNatClampNeg).toNatClampNeg) 6).toNatClampNeg + 1) = Y 21 i.toNatClampNeg ∧ J3 (R' (R (C + 16) (Y 20 i.toNatClampNeg).toNatClampNeg) 5) (5 * (I (R (C + 16) (Y 20 i.toNatClampNeg).toNatClampNeg) 6).toNatClampNeg + 2) = Y 21 i.toNatClampNeg + Y 10 i.toNatClampNeg - 1 ∧ J3 (R' (R (C + 16) (Y 20 i.toNatClampNeg).toNatClampNeg) 5) (5 * (I (R (C + 16) (Y 20 i.toNatClampNeg).toNatClampNeg) 6).toNatClampNeg + 3) = I ((R (C + 16) (Y 20 i.toNatClampNeg).toNatClampNeg) + 3) (Y 21 i.toNatClampNeg).toNatClampNeg ∧ J3 (R' (R (C + 16) (Y 20 i.toNatClampNeg).toNatClampNeg) 5) (5 * (I (R (C + 16) (Y 20 i.toNatClampNeg).toNatClampNeg) 6).toNatClampNeg + 4) = I (C + 1) 6)) := by
      rw [b6']
      simp only [hpast]
      exact hrd
    have hp := hP n' t' K' L' J3 R' (cH_J hH' hJ3.1) (dQ_Q hQ (dQ_L (dL_L hJ2 hJ3))) hc3 hse1 R15 (fun x j kx hx => by
      have k2 := (kk x (by rw [kx]; decide)).1
      rw [haz x j (by rw [k2]; exact kx) hx, hk2 x j kx]
      exact jJ x j (by rw [kx]; decide) (by rw [kx]; decide) (by rw [kx]; omega)) hA (fun x j hx hq => rm1 x j hx hq) rm2 hK3 hD hE
    ((try clear hP); (try clear hc); (try clear hc1); (try clear hc2); (try clear hc3); (try clear ap); (try clear ap1); (try clear ap2); (try clear al); (try clear am); (try clear hse); (try clear hse1))
    simp only [q45_49, as_nil, as_i, as_r, Nat.reduceAdd, Nat.reduceLeDiff, z_eq0, z_eq1, z_or, z_em, Classical.not_not, not_false_eq_true, not_true_eq_false, true_and, and_true, false_and, and_false, and_self, true_implies, false_implies, implies_true, Option.toList_some, Option.toList_none, List.cons_append, List.nil_append, Nat.add_eq_zero_iff, a_nl_i, a_nl_r, a_nl_n, true_or, or_true, eq_self, a_isRA_22, a_isRA_24, a_isRA_32, a_isA_20, ok_4, ok_5, ok_6, ok_7, ok_9, ok_20, ok_21, ok_30, ok_50, ok_180, ok_192, ok_200]
    exact hp
  have hdate : a_does (d + 4) 50 [a_rf (R (C + 16) (Y 20 i.toNatClampNeg).toNatClampNeg), .int (J a 14), .int (J a 14 + J a 2 - 1), .int (J (C + 1) 6)] (n' + 1, t', K', L', J, R') (fun r h' => a_at (d + 4) (a_xm a_m45) 44 [some (a_rf (C + 14)), some (a_rf a), some (a_rf (R (C + 16) (Y 20 i.toNatClampNeg).toNatClampNeg))] (r.toList ++ []) h' P) := by
    have f2 : J a 2 = Y 10 i.toNatClampNeg := ap1.2.2.2.1.2.2.1
    rw [f14, f2]
    refine ch_date (d := d + 3) hb' hT' ⟨ps.1, ps.2.2⟩ (hy.2.1 _) psl (fun J2 hJ2 hd hdx => ?_)
    have e4 : R' (R (C + 16) (Y 20 i.toNatClampNeg).toNatClampNeg) 4 = (R (C + 16) (Y 20 i.toNatClampNeg).toNatClampNeg) + 3 := by rw [rm1 _ _ bl (by omega)]; exact eB4
    have k4 : K' ((R (C + 16) (Y 20 i.toNatClampNeg).toNatClampNeg) + 3) = 20 := by rw [← e4]; exact (hT'.g_bnc _ hb').2.2.2.1.2.1
    have hl := hlift J2 hJ2 (fun x j kx => hd _ _ (fun e => by
      have k2 := (kk x (by rw [kx]; decide)).1
      rw [kx, e, e4, k4] at k2
      cases k2)) (fun y j hy2 => hd y j (by rw [e4]; exact hy2)) (fun j => by rw [← e4]; exact hdx j) (cp_fr hT' hc1 (fun k j hk => hd _ _ (by rw [e4]; omega)) (fun x j kx => hd _ _ (fun e => by rw [e, e4, k4] at kx; cases kx)) (fun x j kx _ => hd _ _ (fun e => by rw [e, e4, k4] at kx; cases kx)) (fun x j kx => hd _ _ (fun e => by rw [e, e4, k4] at kx; cases kx)) (fun k k0 k1 j => hd _ _ (by
      have q := (hse1.2.2.1 k _ k0 k1 pa p6).1
      rw [R16] at q
      rw [e4]
      omega)) (fun o o0 o1 j => by
      obtain ⟨d2, d3, d4⟩ := hse1.1 o o0 o1
      rw [d2, d3]
      by_cases e : o = Y 20 i.toNatClampNeg
      · subst e
        rw [R16]
        exact ⟨hd _ _ (by rw [e4]; omega), hd _ _ (by rw [e4]; omega)⟩
      · have := se_ne hT' hc1 hse1 ⟨o0, o1⟩ ⟨pa, p6⟩ e
        rw [R16, R16] at this
        rw [R16]
        exact ⟨hd _ _ (by rw [e4]; omega), hd _ _ (by rw [e4]; omega)⟩))
    ((try clear hP); (try clear hc); (try clear hc1); (try clear ap); (try clear ap1); (try clear al); (try clear am); (try clear hse); (try clear hse1); (try clear hlift); (try clear hd))
    have hS2 := hJ2.1.s
    simp only [q45_44, q45_45, q45_46, k_14 hS, z_14, as_nil, as_i, as_r, Nat.reduceAdd, Nat.reduceLeDiff, z_eq0, z_eq1, z_or, z_em, Classical.not_not, not_false_eq_true, not_true_eq_false, true_and, and_true, false_and, and_false, and_self, true_implies, false_implies, implies_true, Option.toList_some, Option.toList_none, List.cons_append, List.nil_append, Nat.add_eq_zero_iff, a_nl_i, a_nl_r, a_nl_n, true_or, or_true, eq_self, a_isRA_22, a_isRA_24, a_isRA_32, a_isA_20, ok_4, ok_5, ok_6, ok_7, ok_9, ok_20, ok_21, ok_30, ok_50, ok_180, ok_192, ok_200, ha', a0]
    try simp only [true_and, and_true, true_implies, false_implies, implies_true, not_true_eq_false, not_false_eq_true]
    first
      | exact hl
      | exact ⟨k_14 hS2, hl⟩
  ((try clear hP); (try clear hc); (try clear hc1); (try clear ap); (try clear ap1); (try clear al); (try clear am); (try clear hse); (try clear hse1); (try clear hlift); (try clear hS))
  simp only [q45_25, q45_26, q45_27, q45_30, q45_31, q45_34, q45_35, q45_38, q45_41, k_14 hS', z_14, r_14_0 hS', k_1 hS', z_1, sp_last, as_nil, as_i, as_r, Nat.reduceAdd, Nat.reduceLeDiff, z_eq0, z_eq1, z_or, z_em, Classical.not_not, not_false_eq_true, not_true_eq_false, true_and, and_true, false_and, and_false, and_self, true_implies, false_implies, implies_true, Option.toList_some, Option.toList_none, List.cons_append, List.nil_append, Nat.add_eq_zero_iff, a_nl_i, a_nl_r, a_nl_n, true_or, or_true, eq_self, a_isRA_22, a_isRA_24, a_isRA_32, a_isA_20, ok_4, ok_5, ok_6, ok_7, ok_9, ok_20, ok_21, ok_30, ok_50, ok_180, ok_192, ok_200, ha', a0, hb', kb0]
  try simp only [true_and, and_true, true_implies, false_implies, implies_true, not_true_eq_false, not_false_eq_true]
  exact hdate
end HE1
end
section
/-! what was had: the class's steps -/
/-- the class's rows: no change is behind now; what is past was taken back at the latest change or before; a place was changed as a whole; no two benches have one past -/
def ciP (C : Nat) (I : Nat → Nat → Int32) (R : Nat → Nat → Nat) (Y : Nat → Nat → Int32) (m : Nat) : Prop := (∀ c : Int32, 0 ≤ c → c < Y 0 6 → (∀ t : Int32, 0 ≤ t → t < 200 → chC C I R c t.toNatClampNeg ≤ I (C + 1) 6) ∧ (∀ x : Nat, x < pcC C I R c → ∀ t : Int32, 0 ≤ t → t < 200 → paC C I R c (5 * x + 1) ≤ t → t ≤ paC C I R c (5 * x + 2) → paC C I R c (5 * x + 4) ≤ chC C I R c t.toNatClampNeg) ∧ pcC C I R c ≤ m) ∧ (∀ x : Int32, 0 ≤ x → x < Y 0 17 → ∀ t : Int32, (0 ≤ t ∧ t < 200) → hoY Y x (Y 20 x.toNatClampNeg) t → chC C I R (Y 20 x.toNatClampNeg) t.toNatClampNeg = chC C I R (Y 20 x.toNatClampNeg) (Y 21 x.toNatClampNeg).toNatClampNeg) ∧ ∀ b c : Int32, 0 ≤ b → b < Y 0 6 → 0 ≤ c → c < Y 0 6 → R (R (C + 16) b.toNatClampNeg) 5 = R (R (C + 16) c.toNatClampNeg) 5 → b = c
section HF0
variable {d n t C c : Nat} {K L : Nat → Nat} {I I0 J J0 J1 J2 : Nat → Nat → Int32} {R : Nat → Nat → Nat} {P : Option Value → AH → Prop}
variable {Y Z W : Nat → Nat → Int32} {V T V' T' : Int32 → Nat → Int32} {R' : Nat → Nat → Nat} {K' L' : Nat → Nat}
theorem wh_ho (hp : plP V T Y) (hl : ∀ j, 0 ≤ Y 10 j ∧ Y 10 j ≤ 4) {x c t : Int32} (x0 : 0 ≤ x) (x1 : x < Y 0 17) (h : hoY Y x c t) : V c t.toNatClampNeg = x := by
  obtain ⟨h0, h1, h2, h3⟩ := h
  obtain ⟨p1, p2, p3, p4⟩ := hp.1 x x0 x1 h0
  obtain ⟨i, i0, i1, i2⟩ := (sh_in p2.1 p3 (hl _) p2.2).mp ⟨h2, h3⟩
  rw [← h1, i2]
  exact (p4 i i0 i1).1
theorem wh_no (hp : plP V T Y) (hl : ∀ j, 0 ≤ Y 10 j ∧ Y 10 j ≤ 4) {c t : Int32} (hc : 0 ≤ c ∧ c < Y 0 6) (ht : 0 ≤ t ∧ t < 200) (h : ∀ x : Int32, 0 ≤ x → x < Y 0 17 → ¬ hoY Y x c t) : V c t.toNatClampNeg = -9 := by
  rcases hp.2 c t hc.1 hc.2 ht.1 ht.2 with q | ⟨o, i, o0, o1, o2, i0, i1, i2⟩
  · exact q.1
  · have pa : 0 ≤ Y 20 o.toNatClampNeg := by rw [o2]; exact hc.1
    obtain ⟨p1, p2, p3, p4⟩ := hp.1 o o0 o1 pa
    have := (sh_in (s := t) p2.1 p3 (hl _) p2.2).mpr ⟨i, i0, i1, i2⟩
    exact absurd ⟨pa, o2, this.1, this.2⟩ (h o o0 o1)
/-- alike who stands, alike the row of who stands -/
theorem wh_eq (hp : plP V T Y) (hp' : plP V' T' Z) (hl : ∀ j, 0 ≤ Y 10 j ∧ Y 10 j ≤ 4) (hl' : ∀ j, 0 ≤ Z 10 j ∧ Z 10 j ≤ 4) (e17 : Z 0 17 = Y 0 17) (e6 : Z 0 6 = Y 0 6) {c t : Int32} (hc : 0 ≤ c ∧ c < Y 0 6) (ht : 0 ≤ t ∧ t < 200) (h : ∀ x : Int32, 0 ≤ x → x < Y 0 17 → (hoY Z x c t ↔ hoY Y x c t)) : V' c t.toNatClampNeg = V c t.toNatClampNeg := by
  by_cases q : ∃ x : Int32, 0 ≤ x ∧ x < Y 0 17 ∧ hoY Y x c t
  · obtain ⟨x, x0, x1, x2⟩ := q
    rw [wh_ho hp hl x0 x1 x2, wh_ho hp' hl' x0 (by rw [e17]; exact x1) ((h x x0 x1).mpr x2)]
  · rw [wh_no hp hl hc ht (fun x x0 x1 x2 => q ⟨x, x0, x1, x2⟩), wh_no hp' hl' (by rw [e6]; exact hc) ht (fun x x0 x1 x2 => q ⟨x, x0, by rw [← e17]; exact x1, (h x x0 (by rw [← e17]; exact x1)).mp x2⟩)]
theorem ci_n {s l t : Int32} (hs : 0 ≤ s ∧ s ≤ 200) (hl : 0 ≤ l ∧ l ≤ 4) (hsl : s + l ≤ 200) (ht : 0 ≤ t ∧ t < 200) : (s.toNatClampNeg ≤ t.toNatClampNeg ∧ t.toNatClampNeg < s.toNatClampNeg + l.toNatClampNeg) ↔ (s ≤ t ∧ t < s + l) := (in_rg hs.1 hs.2 hl ht).trans (sh_in hs.1 hsl hl hs.2).symm
theorem hd_N {m : Nat} (hc : cpP C K L I R Y) (hi : ciP C I R Y m) : hsN (Y 0 6) (I (C + 1) 6) (hdC C I R) Y := by
  intro c t hb ht
  have hl := hc.2.2.2.2.2.1
  have hp := hc.2.1.2.2.2
  have h0 := (hi.1 c hb.1 hb.2).1 t ht.1 ht.2
  refine ⟨fun x x0 x1 x2 k hk => ?_, fun h k hk => ?_⟩
  · unfold hdC
    rw [if_pos (Int32.le_trans h0 hk)]
    exact wh_ho hp hl x0 x1 x2
  · unfold hdC
    rw [if_pos (Int32.le_trans h0 hk)]
    exact wh_no hp hl hb ht h
theorem cs_S {nb n0 b s l v : Int32} {hd hd' : Int32 → Int32 → Int32 → Int32} {ld ld' : Int32 → Int32 → Int32} (hN : hsN nb n0 hd W) (hN' : hsN nb n0 hd' Z) (e17 : Z 0 17 = W 0 17) (hf : ∀ c t : Int32, (0 ≤ c ∧ c < nb) → (0 ≤ t ∧ t < 200) → ∀ k, ¬ n0 ≤ k → hd' c t k = hd c t k) (hl : ∀ c t : Int32, (0 ≤ c ∧ c < nb) → (0 ≤ t ∧ t < 200) → ((c = b ∧ s ≤ t ∧ t < s + l) → ld' c t = n0) ∧ (¬ (c = b ∧ s ≤ t ∧ t < s + l) → ld' c t = ld c t)) (ho : ∀ c t : Int32, ¬ (c = b ∧ s ≤ t ∧ t < s + l) → ∀ x : Int32, 0 ≤ x → x < W 0 17 → (hoY Z x c t ↔ hoY W x c t)) (hv : ∀ c t : Int32, (0 ≤ c ∧ c < nb) → (0 ≤ t ∧ t < 200) → (c = b ∧ s ≤ t ∧ t < s + l) → ∀ k, n0 ≤ k → hd' c t k = v) : hsS nb n0 hd ld hd' ld' b s l v := by
  intro c t hc ht
  refine ⟨hf c t hc ht, fun ci => ⟨hv c t hc ht ci, (hl c t hc ht).1 ci⟩, fun ci => ⟨fun k => ?_, (hl c t hc ht).2 ci⟩⟩
  by_cases hk : n0 ≤ k
  · obtain ⟨n1, n2⟩ := hN c t hc ht
    obtain ⟨m1, m2⟩ := hN' c t hc ht
    by_cases q : ∃ x : Int32, 0 ≤ x ∧ x < W 0 17 ∧ hoY W x c t
    · obtain ⟨x, x0, x1, x2⟩ := q
      rw [n1 x x0 x1 x2 k hk, m1 x x0 (by rw [e17]; exact x1) ((ho c t ci x x0 x1).mpr x2) k hk]
    · rw [n2 (fun x x0 x1 x2 => q ⟨x, x0, x1, x2⟩) k hk, m2 (fun x x0 x1 x2 => q ⟨x, x0, by rw [← e17]; exact x1, (ho c t ci x x0 (by rw [← e17]; exact x1)).mp x2⟩) k hk]
  · exact hf c t hc ht k hk
/-- a place given -/
theorem pv_put {m : Nat} {a b s : Int32} (hc : cpP C K L I R W) (hc' : cpP C K' L' J R (puY W a b s)) (hi : ciP C I R W m) (ha : 0 ≤ a ∧ a < W 0 17) (un : ¬ 0 ≤ W 20 a.toNatClampNeg) (hb : 0 ≤ b ∧ b < W 0 6) (hs : 0 ≤ s ∧ s ≤ 199) (hsl : s + W 10 a.toNatClampNeg ≤ 200) (fr : ∀ z : Int32, 0 ≤ z → z < W 10 a.toNatClampNeg → whC C I R b (s + z).toNatClampNeg = -9) (en : J (C + 1) 6 = I (C + 1) 6) (hV : ∀ c : Int32, 0 ≤ c → c < W 0 6 → (∀ j, chC C J R c j = if c = b ∧ s.toNatClampNeg ≤ j ∧ j < s.toNatClampNeg + (W 10 a.toNatClampNeg).toNatClampNeg then I (C + 1) 6 else chC C I R c j) ∧ (∀ j, paC C J R c j = paC C I R c j) ∧ pcC C J R c = pcC C I R c) : ciP C J R (puY W a b s) m ∧ hsS (W 0 6) (I (C + 1) 6) (hdC C I R) (ldC C I R) (hdC C J R) (ldC C J R) b s (W 10 a.toNatClampNeg) a := by
  have hl := hc.2.2.2.2.2.1
  have hp := hc.2.1.2.2.2
  have s200 : 0 ≤ s ∧ s ≤ 200 := ⟨hs.1, Int32.le_trans hs.2 (by decide)⟩
  have e17 : puY W a b s 0 17 = W 0 17 := pu_ow (by omega)
  have e6 : puY W a b s 0 6 = W 0 6 := pu_ow (by omega)
  have l1 := hc.2.2.2.2.2.2.1 a ha.1 ha.2
  have hci : ∀ c t : Int32, (0 ≤ c ∧ c < W 0 6) → (0 ≤ t ∧ t < 200) → ((c = b ∧ s ≤ t ∧ t < s + W 10 a.toNatClampNeg) → chC C J R c t.toNatClampNeg = I (C + 1) 6) ∧ (¬ (c = b ∧ s ≤ t ∧ t < s + W 10 a.toNatClampNeg) → chC C J R c t.toNatClampNeg = chC C I R c t.toNatClampNeg) := fun c t hcb ht => by
    have e := (hV c hcb.1 hcb.2).1 t.toNatClampNeg
    have q := ci_n s200 (hl a.toNatClampNeg) hsl ht
    refine ⟨fun ci => ?_, fun ci => ?_⟩
    · rw [e, if_pos ⟨ci.1, q.mpr ci.2⟩]
    · rw [e, if_neg (fun z => ci ⟨z.1, q.mp z.2⟩)]
  have hfree : ∀ c t : Int32, (c = b ∧ s ≤ t ∧ t < s + W 10 a.toNatClampNeg) → whC C I R c t.toNatClampNeg = -9 := fun c t ci => by
    obtain ⟨z, z0, z1, z2⟩ := (sh_in s200.1 hsl (hl _) s200.2).mp ci.2
    rw [ci.1, z2]
    exact fr z z0 z1
  have hno : ∀ c t : Int32, (c = b ∧ s ≤ t ∧ t < s + W 10 a.toNatClampNeg) → ∀ x : Int32, 0 ≤ x → x < W 0 17 → ¬ hoY W x c t := fun c t ci x x0 x1 x2 => by
    have := wh_ho hp hl x0 x1 x2
    rw [show whC C I R c t.toNatClampNeg = -9 from hfree c t ci] at this
    rw [← this] at x0
    exact absurd x0 (by decide)
  have ho : ∀ c t : Int32, ¬ (c = b ∧ s ≤ t ∧ t < s + W 10 a.toNatClampNeg) → ∀ x : Int32, 0 ≤ x → x < W 0 17 → (hoY (puY W a b s) x c t ↔ hoY W x c t) := fun c t ci x x0 x1 => by
    rw [ho_pu ha.1 x0]
    refine ⟨fun q => q.elim (fun z => absurd ⟨z.2.2.1.symm, z.2.2.2⟩ ci) (fun z => z.2), fun q => Or.inr ⟨fun e => un (by rw [← e]; exact q.1), q⟩⟩
  have hI : ciP C J R (puY W a b s) m := by
    refine ⟨fun c c0 c1 => ?_, fun x x0 x1 t ht x2 => ?_, by rw [e6]; exact hi.2.2⟩
    · rw [e6] at c1
      obtain ⟨i0, i1, i2⟩ := hi.1 c c0 c1
      obtain ⟨v1, v2, v3⟩ := hV c c0 c1
      refine ⟨fun t t0 t1 => ?_, fun x hx t t0 t1 q1 q2 => ?_, by rw [v3]; exact i2⟩
      · rw [en]
        by_cases ci : c = b ∧ s ≤ t ∧ t < s + W 10 a.toNatClampNeg
        · rw [(hci c t ⟨c0, c1⟩ ⟨t0, t1⟩).1 ci]
          exact Int32.le_refl _
        · rw [(hci c t ⟨c0, c1⟩ ⟨t0, t1⟩).2 ci]
          exact i0 t t0 t1
      · rw [v3] at hx
        rw [v2] at q1 q2 ⊢
        have i3 := i1 x hx t t0 t1 q1 q2
        by_cases ci : c = b ∧ s ≤ t ∧ t < s + W 10 a.toNatClampNeg
        · rw [(hci c t ⟨c0, c1⟩ ⟨t0, t1⟩).1 ci]
          exact Int32.le_trans i3 (i0 t t0 t1)
        · rw [(hci c t ⟨c0, c1⟩ ⟨t0, t1⟩).2 ci]
          exact i3
    · rw [e17] at x1
      by_cases xa : x = a
      · subst xa
        rw [pu_at20] at x2 ⊢
        rw [pu_at21]
        rcases (ho_pu ha.1 x0).mp x2 with q | q
        · rw [(hci b t hb ht).1 ⟨rfl, q.2.2.2⟩, (hci b s hb ⟨hs.1, Int32.lt_of_le_of_lt hs.2 (by decide)⟩).1 ⟨rfl, Int32.le_refl _, by (try clear hV hci hfree hno ho q); grind⟩]
        · exact absurd rfl q.1
      · have hn : ¬ x.toNatClampNeg = a.toNatClampNeg := fun q => xa (cl_inj x0 ha.1 q)
        rw [pu_ne hn (Or.inl rfl)] at x2 ⊢
        rw [pu_ne hn (Or.inr rfl)]
        rcases (ho_pu ha.1 x0).mp x2 with q | q
        · exact absurd q.1 xa
        · have pa := q.2.1
          obtain ⟨p1, p2, p3, p4⟩ := hp.1 x x0 x1 pa
          have lx := hc.2.2.2.2.2.2.1 x x0 x1
          have t0 : 0 ≤ W 21 x.toNatClampNeg ∧ W 21 x.toNatClampNeg < 200 := ⟨p2.1, by have := (hl x.toNatClampNeg).2; (try clear hV hci hfree hno ho q p4 hi hp hc hc'); grind⟩
          have q0 : hoY W x (W 20 x.toNatClampNeg) (W 21 x.toNatClampNeg) := ⟨pa, rfl, Int32.le_refl _, by have := (hl x.toNatClampNeg).2; (try clear hV hci hfree hno ho q p4 hi hp hc hc'); grind⟩
          rw [(hci _ t ⟨pa, p1⟩ ht).2 (fun ci => hno _ t ci x x0 x1 q.2), (hci _ _ ⟨pa, p1⟩ t0).2 (fun ci => hno _ _ ci x x0 x1 q0)]
          exact hi.2.1 x x0 x1 t ht q.2
  refine ⟨hI, ?_⟩
  have hN := hd_N hc hi
  have hN' := hd_N hc' hI
  rw [e6, en] at hN'
  refine cs_S hN hN' e17 (fun c t hcb ht k hk => ?_) (fun c t hcb ht => ⟨fun ci => (hci c t hcb ht).1 ci, fun ci => (hci c t hcb ht).2 ci⟩) ho (fun c t hcb ht ci k hk => (hN' c t hcb ht).1 a ha.1 (by rw [e17]; exact ha.2) ((ho_pu ha.1 ha.1).mpr (Or.inl ⟨rfl, hb.1, ci.1.symm, ci.2⟩)) k hk)
  obtain ⟨i0, i1, i2⟩ := hi.1 c hcb.1 hcb.2
  obtain ⟨v1, v2, v3⟩ := hV c hcb.1 hcb.2
  unfold hdC
  rw [v3, show paC C J R c = paC C I R c from funext v2]
  by_cases ci : c = b ∧ s ≤ t ∧ t < s + W 10 a.toNatClampNeg
  · rw [(hci c t hcb ht).1 ci, if_neg hk, hfree c t ci]
    by_cases hq : chC C I R c t.toNatClampNeg ≤ k
    · rw [if_pos hq]
      refine pq_no _ _ (fun x _ hx q => ?_)
      have := i1 x (by omega) t ht.1 ht.2 q.1 q.2.1
      exact absurd (Int32.lt_of_lt_of_le q.2.2.2 (Int32.le_trans this hq)) Int32.lt_irrefl
    · rw [if_neg hq]
  · rw [(hci c t hcb ht).2 ci, wh_eq hp hc'.2.1.2.2.2 hl hc'.2.2.2.2.2.1 e17 e6 hcb ht (ho c t ci)]
/-- a place taken back -/
theorem pv_un {m : Nat} {a : Int32} (hc : cpP C K L I R W) (hc' : cpP C K' L' J R' (unY W a)) (hi : ciP C I R W m) (ha : 0 ≤ a ∧ a < W 0 17) (pa : 0 ≤ W 20 a.toNatClampNeg) (en : J (C + 1) 6 = I (C + 1) 6) (hR5 : ∀ b c : Int32, 0 ≤ b → b < W 0 6 → 0 ≤ c → c < W 0 6 → R' (R' (C + 16) b.toNatClampNeg) 5 = R' (R' (C + 16) c.toNatClampNeg) 5 → b = c) (hV : ∀ c : Int32, 0 ≤ c → c < W 0 6 → (∀ j, chC C J R' c j = if c = W 20 a.toNatClampNeg ∧ (W 21 a.toNatClampNeg).toNatClampNeg ≤ j ∧ j < (W 21 a.toNatClampNeg).toNatClampNeg + (W 10 a.toNatClampNeg).toNatClampNeg then I (C + 1) 6 else chC C I R c j) ∧ (¬ c = W 20 a.toNatClampNeg → (∀ j, paC C J R' c j = paC C I R c j) ∧ pcC C J R' c = pcC C I R c)) (hD : (chC C I R (W 20 a.toNatClampNeg) (W 21 a.toNatClampNeg).toNatClampNeg = I (C + 1) 6 ∧ pcC C J R' (W 20 a.toNatClampNeg) = pcC C I R (W 20 a.toNatClampNeg) ∧ ∀ j, paC C J R' (W 20 a.toNatClampNeg) j = paC C I R (W 20 a.toNatClampNeg) j) ∨ (¬ chC C I R (W 20 a.toNatClampNeg) (W 21 a.toNatClampNeg).toNatClampNeg = I (C + 1) 6 ∧ pcC C J R' (W 20 a.toNatClampNeg) = pcC C I R (W 20 a.toNatClampNeg) + 1 ∧ (∀ j, j < 5 * pcC C I R (W 20 a.toNatClampNeg) → paC C J R' (W 20 a.toNatClampNeg) j = paC C I R (W 20 a.toNatClampNeg) j) ∧ paC C J R' (W 20 a.toNatClampNeg) (5 * pcC C I R (W 20 a.toNatClampNeg)) = a ∧ paC C J R' (W 20 a.toNatClampNeg) (5 * pcC C I R (W 20 a.toNatClampNeg) + 1) = W 21 a.toNatClampNeg ∧ paC C J R' (W 20 a.toNatClampNeg) (5 * pcC C I R (W 20 a.toNatClampNeg) + 2) = W 21 a.toNatClampNeg + W 10 a.toNatClampNeg - 1 ∧ paC C J R' (W 20 a.toNatClampNeg) (5 * pcC C I R (W 20 a.toNatClampNeg) + 3) = chC C I R (W 20 a.toNatClampNeg) (W 21 a.toNatClampNeg).toNatClampNeg ∧ paC C J R' (W 20 a.toNatClampNeg) (5 * pcC C I R (W 20 a.toNatClampNeg) + 4) = I (C + 1) 6)) : ciP C J R' (unY W a) (m + 1) ∧ hsS (W 0 6) (I (C + 1) 6) (hdC C I R) (ldC C I R) (hdC C J R') (ldC C J R') (W 20 a.toNatClampNeg) (W 21 a.toNatClampNeg) (W 10 a.toNatClampNeg) (-9) := by
  have hl := hc.2.2.2.2.2.1
  have hp := hc.2.1.2.2.2
  have l1 := hc.2.2.2.2.2.2.1 a ha.1 ha.2
  obtain ⟨pb, ps, psl, -⟩ := hp.1 a ha.1 ha.2 pa
  have e17 : unY W a 0 17 = W 0 17 := un_o (Or.inl (by omega))
  have e6 : unY W a 0 6 = W 0 6 := un_o (Or.inl (by omega))
  have hoa : ∀ c t : Int32, (c = W 20 a.toNatClampNeg ∧ W 21 a.toNatClampNeg ≤ t ∧ t < W 21 a.toNatClampNeg + W 10 a.toNatClampNeg) ↔ hoY W a c t := fun c t => ⟨fun q => ⟨pa, q.1.symm, q.2⟩, fun q => ⟨q.2.1.symm, q.2.2⟩⟩
  have hI2 := fun t ht q => hi.2.1 a ha.1 ha.2 t ht q
  generalize eb : W 20 a.toNatClampNeg = b at *
  generalize es : W 21 a.toNatClampNeg = s at *
  generalize el : W 10 a.toNatClampNeg = l at *
  have hla : 0 ≤ l ∧ l ≤ 4 := by rw [← el]; exact hl _
  have hci : ∀ c t : Int32, (0 ≤ c ∧ c < W 0 6) → (0 ≤ t ∧ t < 200) → ((c = b ∧ s ≤ t ∧ t < s + l) → chC C J R' c t.toNatClampNeg = I (C + 1) 6) ∧ (¬ (c = b ∧ s ≤ t ∧ t < s + l) → chC C J R' c t.toNatClampNeg = chC C I R c t.toNatClampNeg) := fun c t hcb ht => by
    have e := (hV c hcb.1 hcb.2).1 t.toNatClampNeg
    have q := ci_n ps hla psl ht
    refine ⟨fun ci => ?_, fun ci => ?_⟩
    · rw [e, if_pos ⟨ci.1, q.mpr ci.2⟩]
    · rw [e, if_neg (fun z => ci ⟨z.1, q.mp z.2⟩)]
  have one : ∀ c t : Int32, (c = b ∧ s ≤ t ∧ t < s + l) → ∀ x : Int32, 0 ≤ x → x < W 0 17 → hoY W x c t → x = a := fun c t ci x x0 x1 x2 => (wh_ho hp hl x0 x1 x2).symm.trans (wh_ho hp hl ha.1 ha.2 ((hoa c t).mp ci))
  have ho : ∀ c t : Int32, ¬ (c = b ∧ s ≤ t ∧ t < s + l) → ∀ x : Int32, 0 ≤ x → x < W 0 17 → (hoY (unY W a) x c t ↔ hoY W x c t) := fun c t ci x x0 x1 => by
    rw [ho_un ha.1 x0]
    exact ⟨fun q => q.2, fun q => ⟨fun e => ci ((hoa c t).mpr (by rw [← e]; exact q)), q⟩⟩
  have hle : ∀ t : Int32, (s ≤ t ∧ t ≤ s + l - 1) → (s ≤ t ∧ t < s + l) := fun t q => ⟨q.1, by have := q.2; (try clear hV hci one ho hI2 hoa hp hl hD hi hc hc' hR5); grind⟩
  have hle2 : ∀ t : Int32, (s ≤ t ∧ t < s + l) → t ≤ s + l - 1 := fun t q => by have := q.2; have := q.1; (try clear hV hci one ho hI2 hoa hp hl hD hi hc hc' hR5 hle); grind
  have hI : ciP C J R' (unY W a) (m + 1) := by
    refine ⟨fun c c0 c1 => ?_, fun x x0 x1 t ht x2 => ?_, by rw [e6]; exact hR5⟩
    · rw [e6] at c1
      obtain ⟨i0, i1, i2⟩ := hi.1 c c0 c1
      obtain ⟨v1, v2⟩ := hV c c0 c1
      have h0 : ∀ t : Int32, 0 ≤ t → t < 200 → chC C J R' c t.toNatClampNeg ≤ J (C + 1) 6 := fun t t0 t1 => by
        rw [en]
        by_cases ci : c = b ∧ s ≤ t ∧ t < s + l
        · rw [(hci c t ⟨c0, c1⟩ ⟨t0, t1⟩).1 ci]
          exact Int32.le_refl _
        · rw [(hci c t ⟨c0, c1⟩ ⟨t0, t1⟩).2 ci]
          exact i0 t t0 t1
      have hup : ∀ t : Int32, 0 ≤ t → t < 200 → chC C I R c t.toNatClampNeg ≤ chC C J R' c t.toNatClampNeg := fun t t0 t1 => by
        by_cases ci : c = b ∧ s ≤ t ∧ t < s + l
        · rw [(hci c t ⟨c0, c1⟩ ⟨t0, t1⟩).1 ci]
          exact i0 t t0 t1
        · rw [(hci c t ⟨c0, c1⟩ ⟨t0, t1⟩).2 ci]
          exact Int32.le_refl _
      by_cases cb : c = b
      · subst cb
        rcases hD with ⟨d1, d2, d3⟩ | ⟨d1, d2, d3, d4, d5, d6, d7, d8⟩
        · refine ⟨h0, fun x hx t t0 t1 q1 q2 => ?_, by rw [d2]; omega⟩
          rw [d2] at hx
          rw [d3] at q1 q2 ⊢
          exact Int32.le_trans (i1 x hx t t0 t1 q1 q2) (hup t t0 t1)
        · refine ⟨h0, fun x hx t t0 t1 q1 q2 => ?_, by rw [d2]; omega⟩
          rw [d2] at hx
          by_cases xe : x = pcC C I R c
          · subst xe
            rw [d5] at q1
            rw [d6] at q2
            rw [d8, (hci c t ⟨c0, c1⟩ ⟨t0, t1⟩).1 ⟨rfl, hle t ⟨q1, q2⟩⟩]
            exact Int32.le_refl _
          · rw [d3 _ (by omega)] at q1 q2 ⊢
            exact Int32.le_trans (i1 x (by omega) t t0 t1 q1 q2) (hup t t0 t1)
      · obtain ⟨v3, v4⟩ := v2 cb
        refine ⟨h0, fun x hx t t0 t1 q1 q2 => ?_, by rw [v4]; omega⟩
        rw [v4] at hx
        rw [v3] at q1 q2 ⊢
        exact Int32.le_trans (i1 x hx t t0 t1 q1 q2) (hup t t0 t1)
    · rw [e17] at x1
      have q := (ho_un ha.1 x0).mp x2
      have hn : ¬ x.toNatClampNeg = a.toNatClampNeg := fun z => q.1 (cl_inj x0 ha.1 z)
      have q2 := q.2
      rw [un_o (Or.inr hn)] at q2 ⊢
      rw [un_o (Or.inr hn)]
      have pa2 := q2.1
      obtain ⟨p1, p2, p3, p4⟩ := hp.1 x x0 x1 pa2
      have lx := hc.2.2.2.2.2.2.1 x x0 x1
      have t0 : 0 ≤ W 21 x.toNatClampNeg ∧ W 21 x.toNatClampNeg < 200 := ⟨p2.1, by have := (hl x.toNatClampNeg).2; (try clear hV hci one ho q hI2 hoa p4 hp hl hD hi hc hc' hR5 hle hle2); grind⟩
      have q0 : hoY W x (W 20 x.toNatClampNeg) (W 21 x.toNatClampNeg) := ⟨pa2, rfl, Int32.le_refl _, by have := (hl x.toNatClampNeg).2; (try clear hV hci one ho q hI2 hoa p4 hp hl hD hi hc hc' hR5 hle hle2); grind⟩
      rw [(hci _ t ⟨pa2, p1⟩ ht).2 (fun ci => q.1 (one _ t ci x x0 x1 q2)), (hci _ _ ⟨pa2, p1⟩ t0).2 (fun ci => q.1 (one _ _ ci x x0 x1 q0))]
      exact hi.2.1 x x0 x1 t ht q2
  refine ⟨hI, ?_⟩
  have hN := hd_N hc hi
  have hN' := hd_N hc' hI
  rw [e6, en] at hN'
  refine cs_S hN hN' e17 (fun c t hcb ht k hk => ?_) (fun c t hcb ht => ⟨fun ci => (hci c t hcb ht).1 ci, fun ci => (hci c t hcb ht).2 ci⟩) ho (fun c t hcb ht ci k hk => (hN' c t hcb ht).2 (fun x x0 x1 x2 => by
    rw [e17] at x1
    have q := (ho_un ha.1 x0).mp x2
    exact q.1 (one c t ci x x0 x1 q.2)) k hk)
  obtain ⟨i0, i1, i2⟩ := hi.1 c hcb.1 hcb.2
  obtain ⟨v1, v2⟩ := hV c hcb.1 hcb.2
  unfold hdC
  -- the past of this bench
  have hpq : (c = b → ¬ rwM (paC C J R' c) t k (pcC C I R c) ∨ pcC C J R' c = pcC C I R c) → pqF (paC C J R' c) t k (pcC C J R' c) 0 = pqF (paC C I R c) t k (pcC C I R c) 0 := fun hr => by
    by_cases cb : c = b
    · have hr9 := hr cb
      ((try clear hr))
      subst cb
      rcases hD with ⟨d1, d2, d3⟩ | ⟨d1, d2, d3, -⟩
      · rw [d2, show paC C J R' c = paC C I R c from funext d3]
      · have hr := hr9.resolve_right (by omega)
        rw [d2]
        have hcg : pqF (paC C J R' c) t k (pcC C I R c) 0 = pqF (paC C I R c) t k (pcC C I R c) 0 := pq_cg _ _ (fun j hj => d3 j (by omega))
        by_cases e : ∃ x, 0 ≤ x ∧ x < 0 + pcC C I R c ∧ rwM (paC C J R' c) t k x
        · rw [pq_a _ _ e, hcg]
        · rw [← hcg, pq_no (pcC C I R c) 0 (fun x h1 h2 q => e ⟨x, h1, h2, q⟩)]
          refine pq_no _ _ (fun x h1 h2 q => ?_)
          by_cases z : x = pcC C I R c
          · rw [z] at q
            exact hr q
          · exact e ⟨x, h1, by omega, q⟩
    · obtain ⟨v3, v4⟩ := v2 cb
      rw [v4, show paC C J R' c = paC C I R c from funext v3]
  by_cases ci : c = b ∧ s ≤ t ∧ t < s + l
  · have hch : chC C I R c t.toNatClampNeg = chC C I R b s.toNatClampNeg := by
      rw [ci.1]
      exact hI2 t ht (by rw [← ci.1]; exact (hoa c t).mp ci)
    rw [(hci c t hcb ht).1 ci, if_neg hk]
    by_cases hq : chC C I R c t.toNatClampNeg ≤ k
    · rw [if_pos hq, show whC C I R c t.toNatClampNeg = a from wh_ho hp hl ha.1 ha.2 ((hoa c t).mp ci)]
      obtain ⟨cb, ci2⟩ := ci
      subst cb
      rcases hD with ⟨d1, d2, d3⟩ | ⟨d1, d2, d3, d4, d5, d6, d7, d8⟩
      · exact absurd (by rw [← d1, ← hch]; exact hq) hk
      · rw [d2, pq_b _ 0 (fun ⟨x, h1, h2, q⟩ => by
          have h3 : x < pcC C I R c := by omega
          unfold rwM at q
          rw [d3 _ (by omega), d3 _ (by omega), d3 _ (by omega), d3 _ (by omega)] at q
          have := i1 x h3 t ht.1 ht.2 q.1 q.2.1
          exact absurd (Int32.lt_of_lt_of_le q.2.2.2 (Int32.le_trans this hq)) Int32.lt_irrefl) ?_, Nat.zero_add, d4]
        rw [Nat.zero_add]
        unfold rwM
        rw [d5, d6, d7, d8]
        exact ⟨ci2.1, hle2 t ci2, by rw [← hch]; exact hq, Int32.not_le.mp hk⟩
    · rw [if_neg hq]
      refine hpq (fun cb => ?_)
      rcases hD with ⟨d1, d2, d3⟩ | ⟨d1, d2, d3, d4, d5, d6, d7, d8⟩
      · exact Or.inr (by rw [cb]; exact d2)
      · refine Or.inl (fun q => ?_)
        rw [cb] at q
        unfold rwM at q
        rw [d7] at q
        exact hq (by rw [hch]; exact q.2.2.1)
  · rw [(hci c t hcb ht).2 ci, wh_eq hp hc'.2.1.2.2.2 hl hc'.2.2.2.2.2.1 e17 e6 hcb ht (ho c t ci), hpq (fun cb => ?_)]
    rcases hD with ⟨d1, d2, d3⟩ | ⟨d1, d2, d3, d4, d5, d6, d7, d8⟩
    · exact Or.inr (by rw [cb]; exact d2)
    · refine Or.inl (fun q => ci ⟨cb, hle t ?_⟩)
      rw [cb] at q
      unfold rwM at q
      rw [d5, d6] at q
      exact ⟨q.1, q.2.1⟩
end HF0
end
section
/-! what was had: the class, phase by phase -/
def gvC (C : Nat) (IB : Nat → Nat → Int32) (RB : Nat → Nat → Nat) (WB : Nat → Nat → Int32) (m : Nat) (J : Nat → Nat → Int32) (R : Nat → Nat → Nat) (W : Nat → Nat → Int32) : Prop := ciP C J R W m ∧ J (C + 1) 6 = IB (C + 1) 6 ∧ W 0 6 = WB 0 6 ∧ gvH (WB 0 6) (IB (C + 1) 6) WB W (hdC C IB RB) (ldC C IB RB) (hdC C J R) (ldC C J R)
def tkC (C : Nat) (IB : Nat → Nat → Int32) (RB : Nat → Nat → Nat) (WB : Nat → Nat → Int32) (m : Nat) (J : Nat → Nat → Int32) (R : Nat → Nat → Nat) (W : Nat → Nat → Int32) : Prop := ciP C J R W m ∧ J (C + 1) 6 = IB (C + 1) 6 ∧ W 0 6 = WB 0 6 ∧ tkH (WB 0 6) (IB (C + 1) 6) WB W (hdC C IB RB) (ldC C IB RB) (hdC C J R) (ldC C J R)
/-- the cells that the class's history hangs on stay -/
def hfE (C : Nat) (K : Nat → Nat) (I : Nat → Nat → Int32) (R : Nat → Nat → Nat) (J : Nat → Nat → Int32) (R' : Nat → Nat → Nat) : Prop := (∀ x j, C + 96 < x → (K x = 20 ∨ K x = 3) → J x j = I x j) ∧ J (C + 1) 6 = I (C + 1) 6 ∧ (∀ x j, (x = C + 16 ∨ K x = 3) → R' x j = R x j) ∧ ∀ x j, C + 44 ≤ x → x ≤ C + 96 → J x j = I x j
section HG0
variable {d n t C c : Nat} {K L : Nat → Nat} {I I0 J J0 J1 J2 : Nat → Nat → Int32} {R : Nat → Nat → Nat} {P : Option Value → AH → Prop}
variable {Q : Nat → Prop} {Y Z W WB : Nat → Nat → Int32} {IB JB : Nat → Nat → Int32} {RB R' R1 R2 : Nat → Nat → Nat} {K' L' : Nat → Nat} {nb n0 : Int32} {hd hd1 hd2 : Int32 → Int32 → Int32 → Int32} {ld ld1 ld2 : Int32 → Int32 → Int32} {m m' : Nat}
theorem gvH_x (h : gvH nb n0 Y W hd ld hd1 ld1) (e : ∀ c t : Int32, (0 ≤ c ∧ c < nb) → (0 ≤ t ∧ t < 200) → (∀ k, hd2 c t k = hd1 c t k) ∧ ld2 c t = ld1 c t) : gvH nb n0 Y W hd ld hd2 ld2 := by
  obtain ⟨h1, h2, h3, h4⟩ := h
  refine ⟨fun c t hc ht => ?_, fun c t hc ht => ?_, h3, h4⟩
  · obtain ⟨e1, e2⟩ := e c t hc ht
    simp only [e1]
    exact h1 c t hc ht
  · obtain ⟨e1, e2⟩ := e c t hc ht
    simp only [e1, e2]
    exact h2 c t hc ht
theorem tkH_x (h : tkH nb n0 Y W hd ld hd1 ld1) (e : ∀ c t : Int32, (0 ≤ c ∧ c < nb) → (0 ≤ t ∧ t < 200) → (∀ k, hd2 c t k = hd1 c t k) ∧ ld2 c t = ld1 c t) : tkH nb n0 Y W hd ld hd2 ld2 := by
  obtain ⟨h1, h2, h3, h4⟩ := h
  refine ⟨fun c t hc ht => ?_, fun c t hc ht => ?_, h3, h4⟩
  · obtain ⟨e1, e2⟩ := e c t hc ht
    simp only [e1]
    exact h1 c t hc ht
  · obtain ⟨e1, e2⟩ := e c t hc ht
    simp only [e1, e2]
    exact h2 c t hc ht
theorem hf_refl : hfE C K I R I R := ⟨fun _ _ _ _ => rfl, rfl, fun _ _ _ => rfl, fun _ _ _ _ => rfl⟩
theorem hf_tr (h : hfE C K I R J R1) (h2 : hfE C K J R1 J2 R2) : hfE C K I R J2 R2 := ⟨fun x j q r => (h2.1 x j q r).trans (h.1 x j q r), h2.2.1.trans h.2.1, fun x j q => (h2.2.2.1 x j q).trans (h.2.2.1 x j q), fun x j p q => (h2.2.2.2 x j p q).trans (h.2.2.2 x j p q)⟩
theorem hf_C (h : dC C K L R J J2) : hfE C K J R J2 R := ⟨fun x j q _ => h.2 x j (by omega) (by omega), h.2 _ _ (by omega) (by omega), fun _ _ _ => rfl, fun x j p q => h.2 x j (by omega) (by omega)⟩
theorem hf_ui {k j : Nat} {v : Int32} (hk : k ≤ 43) (hn : ¬ k = 1) : hfE C K J R (a_ui J (C + k) j v) R := ⟨fun x i q _ => by rw [ui_ap, if_neg (by omega)], by rw [ui_ap, if_neg (by omega)], fun _ _ _ => rfl, fun x i p q => by rw [ui_ap, if_neg (by omega)]⟩
theorem hf_rf (hT : cT C K L J R) (h : rfP C R R') : hfE C K J R J R' := ⟨fun _ _ _ _ => rfl, rfl, fun x j q => by
  have : K x = 3 → C + 96 < x := fun e => (hT.g_bnc x e).1
  exact h x j (by omega) (by omega) (by omega), fun _ _ _ _ => rfl⟩
theorem hf_vw (hT : cT C K L I R) (hc : cpP C K L I R W) (e : hfE C K I R J R') {c : Int32} (c0 : 0 ≤ c) (c1 : c < W 0 6) : chC C J R' c = chC C I R c ∧ whC C J R' c = whC C I R c ∧ paC C J R' c = paC C I R c ∧ pcC C J R' c = pcC C I R c ∧ R' (R' (C + 16) c.toNatClampNeg) 5 = R (R (C + 16) c.toNatClampNeg) 5 := by
  have k := (hc.2.1.2.2.1 c c0 c1).1
  obtain ⟨b1, ⟨w1, w2, -⟩, -, ⟨h1, h2, -⟩, ⟨p1, p2, -⟩, -⟩ := hT.g_bnc _ k
  have e16 : R' (C + 16) c.toNatClampNeg = R (C + 16) c.toNatClampNeg := e.2.2.1 _ _ (Or.inl rfl)
  have eB : ∀ j, R' (R (C + 16) c.toNatClampNeg) j = R (R (C + 16) c.toNatClampNeg) j := fun j => e.2.2.1 _ _ (Or.inr k)
  unfold chC whC paC pcC
  rw [e16, eB, eB, eB]
  refine ⟨funext (fun j => e.1 _ _ h1 (Or.inl h2)), funext (fun j => e.1 _ _ w1 (Or.inl w2)), funext (fun j => e.1 _ _ p1 (Or.inl p2)), by rw [e.1 _ _ b1 (Or.inr k)], rfl⟩
theorem ci_fr (hT : cT C K L I R) (hc : cpP C K L I R W) (e : hfE C K I R J R') (h : ciP C I R W m) : ciP C J R' W m := by
  obtain ⟨h1, h2, h3⟩ := h
  refine ⟨fun c c0 c1 => ?_, fun x x0 x1 t ht q => ?_, fun b c b0 b1 c0 c1 q => ?_⟩
  · obtain ⟨v1, v2, v3, v4, v5⟩ := hf_vw hT hc e c0 c1
    rw [v1, v3, v4, e.2.1]
    exact h1 c c0 c1
  · have p1 := (hc.2.1.2.2.2.1 x x0 x1 q.1).1
    obtain ⟨v1, v2, v3, v4, v5⟩ := hf_vw hT hc e q.1 p1
    rw [v1]
    exact h2 x x0 x1 t ht q
  · rw [(hf_vw hT hc e b0 b1).2.2.2.2, (hf_vw hT hc e c0 c1).2.2.2.2] at q
    exact h3 b c b0 b1 c0 c1 q
theorem hd_vw (hT : cT C K L I R) (hc : cpP C K L I R W) (e : hfE C K I R J R') : ∀ c t : Int32, (0 ≤ c ∧ c < W 0 6) → (0 ≤ t ∧ t < 200) → (∀ k, hdC C J R' c t k = hdC C I R c t k) ∧ ldC C J R' c t = ldC C I R c t := fun c t hc2 _ => by
  obtain ⟨v1, v2, v3, v4, v5⟩ := hf_vw hT hc e hc2.1 hc2.2
  unfold hdC ldC
  rw [v1, v2, v3, v4]
  exact ⟨fun _ => rfl, rfl⟩
theorem gvC_fr (h : gvC C IB RB WB m J R W) (hT : cT C K L J R) (hc : cpP C K L J R W) (e : hfE C K J R J2 R2) : gvC C IB RB WB m J2 R2 W := ⟨ci_fr hT hc e h.1, e.2.1.trans h.2.1, h.2.2.1, gvH_x h.2.2.2 (by rw [← h.2.2.1]; exact hd_vw hT hc e)⟩
theorem tkC_fr (h : tkC C IB RB WB m J R W) (hT : cT C K L J R) (hc : cpP C K L J R W) (e : hfE C K J R J2 R2) : tkC C IB RB WB m J2 R2 W := ⟨ci_fr hT hc e h.1, e.2.1.trans h.2.1, h.2.2.1, tkH_x h.2.2.2 (by rw [← h.2.2.1]; exact hd_vw hT hc e)⟩
theorem ci_le (h : ciP C I R W m) (hm : m ≤ m') : ciP C I R W m' := ⟨fun c c0 c1 => ⟨(h.1 c c0 c1).1, (h.1 c c0 c1).2.1, Nat.le_trans (h.1 c c0 c1).2.2 hm⟩, h.2⟩
theorem tkC_le (h : tkC C IB RB WB m J R W) (hm : m ≤ m') : tkC C IB RB WB m' J R W := ⟨ci_le h.1 hm, h.2⟩
theorem gvC_0 (hc : cpP C K L I R W) (h : ciP C I R W m) : gvC C I R W m I R W := ⟨h, rfl, rfl, gv_0 (hd_N hc h)⟩
theorem tkC_0 (hc : cpP C K L I R W) (h : ciP C I R W m) : tkC C I R W m I R W := ⟨h, rfl, rfl, tk_00 (hd_N hc h)⟩
theorem pc_lt (hT : cT C K L I R) (hc : cpP C K L I R W) (h : ciP C I R W m) (hm : m < 16384) {c : Int32} (c0 : 0 ≤ c) (c1 : c < W 0 6) : 0 ≤ I (R (C + 16) c.toNatClampNeg) 6 ∧ I (R (C + 16) c.toNatClampNeg) 6 < 16384 := by
  have k := (hc.2.1.2.2.1 c c0 c1).1
  have g := (hT.g_bnc _ k).2.2.2.2.2
  have := (h.1 c c0 c1).2.2
  unfold pcC at this
  exact ⟨g.1, cl_lt2 g.1 (by decide) (by rw [show (16384 : Int32).toNatClampNeg = 16384 from rfl]; omega)⟩
/-- a place given -/
theorem gvC_put (h : gvC C IB RB WB m J R W) (hT : cT C K L J R) (hc : cpP C K L J R W) (hse : seP C R W) {a b s : Int32} (hc2 : cpP C K L J2 R (puY W a b s)) (d2 : dL C K L R J J2) (ha : 0 ≤ a ∧ a < W 0 17) (un : ¬ 0 ≤ W 20 a.toNatClampNeg) (hb : 0 ≤ b ∧ b < W 0 6) (hs : 0 ≤ s ∧ s ≤ 199) (hsl : s + W 10 a.toNatClampNeg ≤ 200) (fr : ∀ z : Int32, 0 ≤ z → z < W 10 a.toNatClampNeg → whC C J R b (s + z).toNatClampNeg = -9) (p1 : ∀ x j, C + 96 < x → K x = 20 → ¬ x = (R (C + 16) b.toNatClampNeg) + 1 → ¬ x = (R (C + 16) b.toNatClampNeg) + 2 → ¬ x = (R (C + 16) b.toNatClampNeg) + 3 → J2 x j = J x j) (p2 : ∀ j, J2 ((R (C + 16) b.toNatClampNeg) + 3) j = if s.toNatClampNeg ≤ j ∧ j < s.toNatClampNeg + (W 10 a.toNatClampNeg).toNatClampNeg then J (C + 1) 6 else J ((R (C + 16) b.toNatClampNeg) + 3) j) : gvC C IB RB WB m J2 R (puY W a b s) := by
  have hl := hc.2.2.2.2.2.1
  have hp := hc.2.1.2.2.2
  have s200 : 0 ≤ s ∧ s ≤ 200 := ⟨hs.1, Int32.le_trans hs.2 (by decide)⟩
  have en : J2 (C + 1) 6 = J (C + 1) 6 := d2.2 _ _ (by omega) (by omega) (by omega)
  have e6 : puY W a b s 0 6 = W 0 6 := pu_ow (by omega)
  obtain ⟨q1, q2⟩ := pv_put hc hc2 h.1 ha un hb hs hsl fr en (fun c c0 c1 => by
    have k := (hc.2.1.2.2.1 c c0 c1).1
    obtain ⟨b1, -, -, ⟨h1, h2, -⟩, ⟨x1, x2, -⟩, -⟩ := hT.g_bnc _ k
    obtain ⟨-, -, eB4⟩ := hse.1 c c0 c1
    have s4 := hse.2.2.2 c b c0 c1 hb.1 hb.2
    refine ⟨fun j => ?_, fun j => p1 _ j x1 x2 (by omega) (by omega) (by omega), ?_⟩
    · unfold chC
      rw [eB4]
      by_cases e : c = b
      · subst e
        rw [p2]
        by_cases q : s.toNatClampNeg ≤ j ∧ j < s.toNatClampNeg + (W 10 a.toNatClampNeg).toNatClampNeg
        · rw [if_pos q, if_pos ⟨rfl, q⟩]
        · rw [if_neg q, if_neg (fun z => q z.2)]
      · have := se_ne hT hc hse ⟨c0, c1⟩ hb e
        rw [if_neg (fun z => e z.1)]
        rw [eB4] at h1 h2
        exact p1 _ j h1 h2 (by omega) (by omega) (by omega)
    · unfold pcC
      rw [d2.2 _ 6 (by omega) (by omega) (by rw [k]; omega)])
  rw [h.2.2.1, h.2.1] at q2
  refine ⟨q1, en.trans h.2.1, e6.trans h.2.2.1, gv_step h.2.2.2 ha un hb.1 (fun t t0 t1 x x0 x1 xa x2 => ?_) q2⟩
  obtain ⟨z, z0, z1, z2⟩ := (sh_in s200.1 hsl (hl _) s200.2).mp ⟨t0, t1⟩
  have w1 := wh_ho hp hl x0 x1 x2
  have w2 := fr z z0 z1
  rw [← z2] at w2
  rw [show whC C J R b t.toNatClampNeg = x from w1] at w2
  rw [w2] at x0
  exact absurd x0 (by decide)
/-- a place taken back -/
theorem tkC_un (h : tkC C IB RB WB m I R W) (hT : cT C K L I R) (hfr : ∀ x, n + 1 ≤ x → K x = 0) (hc : cpP C K L I R W) (hse : seP C R W) (hm : m < 16384) {a : Int32} (hc2 : cpP C K' L' J R' (unY W a)) (ha : 0 ≤ a ∧ a < W 0 17) (pa : 0 ≤ W 20 a.toNatClampNeg) (en : J (C + 1) 6 = I (C + 1) 6) (p1 : ∀ x j, C + 96 < x → x < n + 1 → K x = 20 → ¬ x = (R (C + 16) (W 20 a.toNatClampNeg).toNatClampNeg) + 1 → ¬ x = (R (C + 16) (W 20 a.toNatClampNeg).toNatClampNeg) + 2 → ¬ x = (R (C + 16) (W 20 a.toNatClampNeg).toNatClampNeg) + 3 → ¬ x = R (R (C + 16) (W 20 a.toNatClampNeg).toNatClampNeg) 5 → J x j = I x j) (p2 : ∀ x j, x < n + 1 → ¬ (x = (R (C + 16) (W 20 a.toNatClampNeg).toNatClampNeg) ∧ j = 5) → R' x j = R x j) (p3 : R' (R (C + 16) (W 20 a.toNatClampNeg).toNatClampNeg) 5 = R (R (C + 16) (W 20 a.toNatClampNeg).toNatClampNeg) 5 ∨ R' (R (C + 16) (W 20 a.toNatClampNeg).toNatClampNeg) 5 = n + 1) (p4 : ∀ x j, K x = 3 → ¬ (x = (R (C + 16) (W 20 a.toNatClampNeg).toNatClampNeg) ∧ j = 6) → J x j = I x j) (p5 : ∀ j, J ((R (C + 16) (W 20 a.toNatClampNeg).toNatClampNeg) + 3) j = if (W 21 a.toNatClampNeg).toNatClampNeg ≤ j ∧ j < (W 21 a.toNatClampNeg).toNatClampNeg + (W 10 a.toNatClampNeg).toNatClampNeg then I (C + 1) 6 else I ((R (C + 16) (W 20 a.toNatClampNeg).toNatClampNeg) + 3) j) (p6 : (I ((R (C + 16) (W 20 a.toNatClampNeg).toNatClampNeg) + 3) (W 21 a.toNatClampNeg).toNatClampNeg = I (C + 1) 6 ∧ R' (R (C + 16) (W 20 a.toNatClampNeg).toNatClampNeg) 5 = R (R (C + 16) (W 20 a.toNatClampNeg).toNatClampNeg) 5 ∧ J (R (C + 16) (W 20 a.toNatClampNeg).toNatClampNeg) 6 = I (R (C + 16) (W 20 a.toNatClampNeg).toNatClampNeg) 6 ∧ ∀ j, J (R' (R (C + 16) (W 20 a.toNatClampNeg).toNatClampNeg) 5) j = I (R (R (C + 16) (W 20 a.toNatClampNeg).toNatClampNeg) 5) j) ∨ (¬ I ((R (C + 16) (W 20 a.toNatClampNeg).toNatClampNeg) + 3) (W 21 a.toNatClampNeg).toNatClampNeg = I (C + 1) 6 ∧ J (R (C + 16) (W 20 a.toNatClampNeg).toNatClampNeg) 6 = I (R (C + 16) (W 20 a.toNatClampNeg).toNatClampNeg) 6 + 1 ∧ (∀ j, j < 5 * (I (R (C + 16) (W 20 a.toNatClampNeg).toNatClampNeg) 6).toNatClampNeg → J (R' (R (C + 16) (W 20 a.toNatClampNeg).toNatClampNeg) 5) j = I (R (R (C + 16) (W 20 a.toNatClampNeg).toNatClampNeg) 5) j) ∧ (J (R' (R (C + 16) (W 20 a.toNatClampNeg).toNatClampNeg) 5) (5 * (I (R (C + 16) (W 20 a.toNatClampNeg).toNatClampNeg) 6).toNatClampNeg) = a ∧ J (R' (R (C + 16) (W 20 a.toNatClampNeg).toNatClampNeg) 5) (5 * (I (R (C + 16) (W 20 a.toNatClampNeg).toNatClampNeg) 6).toNatClampNeg + 1) = W 21 a.toNatClampNeg ∧ J (R' (R (C + 16) (W 20 a.toNatClampNeg).toNatClampNeg) 5) (5 * (I (R (C + 16) (W 20 a.toNatClampNeg).toNatClampNeg) 6).toNatClampNeg + 2) = W 21 a.toNatClampNeg + W 10 a.toNatClampNeg - 1 ∧ J (R' (R (C + 16) (W 20 a.toNatClampNeg).toNatClampNeg) 5) (5 * (I (R (C + 16) (W 20 a.toNatClampNeg).toNatClampNeg) 6).toNatClampNeg + 3) = I ((R (C + 16) (W 20 a.toNatClampNeg).toNatClampNeg) + 3) (W 21 a.toNatClampNeg).toNatClampNeg ∧ J (R' (R (C + 16) (W 20 a.toNatClampNeg).toNatClampNeg) 5) (5 * (I (R (C + 16) (W 20 a.toNatClampNeg).toNatClampNeg) 6).toNatClampNeg + 4) = I (C + 1) 6))) : tkC C IB RB WB (m + 1) J R' (unY W a) := by
  have hp := hc.2.1.2.2.2
  have p0 := (hp.1 a ha.1 ha.2 pa).1
  have e6 : unY W a 0 6 = W 0 6 := un_o (Or.inl (by omega))
  have kz : ∀ x, ¬ K x = 0 → x < n + 1 := fun x hx => Classical.byContradiction (fun q => hx (hfr x (by omega)))
  have hpl := pc_lt hT hc h.1 hm pa p0
  have up := (lp_st hpl.1 hpl.2).2.2.2
  generalize eb : W 20 a.toNatClampNeg = b at *
  have kb := (hc.2.1.2.2.1 b pa p0).1
  obtain ⟨bb1, -, -, ⟨bh1, bh2, -⟩, ⟨bx1, bx2, -⟩, -⟩ := hT.g_bnc _ kb
  obtain ⟨-, -, bB4⟩ := hse.1 b pa p0
  have hn96 : C + 96 < n + 1 := by have := kz _ (by rw [kb]; decide); omega
  have r16 : ∀ j, R' (C + 16) j = R (C + 16) j := fun j => p2 _ j (by omega) (by omega)
  have rb4 : R' (R (C + 16) b.toNatClampNeg) 4 = R (C + 16) b.toNatClampNeg + 3 := by rw [p2 _ 4 (kz _ (by rw [kb]; decide)) (by omega)]; exact bB4
  have oth : ∀ c : Int32, 0 ≤ c → c < W 0 6 → ¬ c = b → R' (R (C + 16) c.toNatClampNeg) 5 = R (R (C + 16) c.toNatClampNeg) 5 ∧ R (R (C + 16) c.toNatClampNeg) 5 < n + 1 ∧ ¬ R (R (C + 16) c.toNatClampNeg) 5 = R (R (C + 16) b.toNatClampNeg) 5 := fun c c0 c1 e => by
    have k := (hc.2.1.2.2.1 c c0 c1).1
    have x2 := (hT.g_bnc _ k).2.2.2.2.1.2.1
    exact ⟨p2 _ 5 (kz _ (by rw [k]; decide)) (fun q => e (hse.2.1 c b c0 c1 pa p0 q.1)), kz _ (by rw [x2]; decide), fun q => e (h.1.2.2 c b c0 c1 pa p0 q)⟩
  obtain ⟨q1, q2⟩ := pv_un hc hc2 h.1 ha (by rw [eb]; exact pa) en (fun x y x0 x1 y0 y1 q => by
    rw [r16, r16] at q
    by_cases ex : x = b
    · by_cases ey : y = b
      · rw [ex, ey]
      · obtain ⟨o1, o2, o3⟩ := oth y y0 y1 ey
        rw [ex, o1] at q
        rcases p3 with p3 | p3
        · exact absurd (by rw [← q, p3]) o3
        · omega
    · obtain ⟨o1, o2, o3⟩ := oth x x0 x1 ex
      by_cases ey : y = b
      · rw [ey, o1] at q
        rcases p3 with p3 | p3
        · exact absurd (by rw [q, p3]) o3
        · omega
      · rw [o1, (oth y y0 y1 ey).1] at q
        exact h.1.2.2 x y x0 x1 y0 y1 q) (fun c c0 c1 => by
    have k := (hc.2.1.2.2.1 c c0 c1).1
    obtain ⟨b1, -, -, ⟨h1, h2, -⟩, ⟨x1, x2, -⟩, -⟩ := hT.g_bnc _ k
    obtain ⟨-, -, eB4⟩ := hse.1 c c0 c1
    have s4 := hse.2.2.2 c b c0 c1 pa p0
    have s5 := hse.2.2.2 b c pa p0 c0 c1
    rw [eb]
    refine ⟨fun j => ?_, fun e => ⟨fun j => ?_, ?_⟩⟩
    · unfold chC
      rw [r16, p2 _ 4 (kz _ (by rw [k]; decide)) (by omega), eB4]
      by_cases e : c = b
      · subst e
        rw [p5]
        by_cases q : (W 21 a.toNatClampNeg).toNatClampNeg ≤ j ∧ j < (W 21 a.toNatClampNeg).toNatClampNeg + (W 10 a.toNatClampNeg).toNatClampNeg
        · rw [if_pos q, if_pos ⟨rfl, q⟩]
        · rw [if_neg q, if_neg (fun z => q z.2)]
      · have := se_ne hT hc hse ⟨c0, c1⟩ ⟨pa, p0⟩ e
        rw [if_neg (fun z => e z.1)]
        rw [eB4] at h1 h2
        exact p1 _ j h1 (kz _ (by rw [h2]; decide)) h2 (by omega) (by omega) (by omega) (by omega)
    · obtain ⟨o1, o2, o3⟩ := oth c c0 c1 e
      unfold paC
      rw [r16, o1]
      exact p1 _ j x1 o2 x2 (by omega) (by omega) (by omega) o3
    · unfold pcC
      rw [r16, p4 _ 6 k (fun q => e (hse.2.1 c b c0 c1 pa p0 q.1))]) (by
    rw [eb]
    unfold chC paC pcC
    rw [r16, bB4]
    rcases p6 with ⟨d1, d2, d3, d4⟩ | ⟨d1, d2, d3, d4⟩
    · exact Or.inl ⟨d1, by rw [d3], d4⟩
    · exact Or.inr ⟨d1, by rw [d2, up], d3, d4⟩)
  rw [h.2.2.1, h.2.1] at q2
  refine ⟨q1, en.trans h.2.1, e6.trans h.2.2.1, tk_step h.2.2.2 ha (by rw [eb]; exact pa) q2⟩
theorem lh_placeFirst_19 (hT0 : cT C K L I R) (hc : cpP C K L I R Y) (hse : seP C R Y) {a : Nat} {i : Int32} (ap : aaP C K I Y i a) (haa : (R (C + 15) i.toNatClampNeg) = a) (un : ¬ 0 ≤ Y 20 i.toNatClampNeg) {mm : Nat} (hq : gvC C IB RB WB mm I R Y) {f e s : Int32} (hs : 0 ≤ s ∧ s ≤ 199) {V : Int32} (hG : 0 ≤ V → ∀ J, dL C K L R I J → aZ K a I J → cpP C K L J R (puY Y i V s) → gvC C IB RB WB mm J R (puY Y i V s) → P (some (.int 1)) (n, t, K, L, J, R)) (hN : ¬ 0 ≤ V → ∀ J u, dC C K L R I J → a_at (d + 6) (a_xm a_m124) 66 [some (a_rf (C + 22)), some (a_rf a), some (.int f), some (.int e), some (.int s), u] [] (n, t, K, L, J, R) P) : ∀ b : Int32, b ≤ 6 → ∀ J, 0 ≤ b → b ≤ Y 0 6 → dC C K L R I J → gfB Y i s ((Y 0 6).toNatClampNeg - b.toNatClampNeg) b = V → a_at (d + 6) (a_xm a_m124) 19 [some (a_rf (C + 22)), some (a_rf a), some (.int f), some (.int e), some (.int s), some (.int b)] [] (n, t, K, L, J, R) P := by
  have hy := hc.2.2.2.2
  have h6 := hy.2.2.2.2.2.1
  refine up_ind 6 (fun b b6 ih => ?_)
  intro J h0 h1 hJ hV
  have hT := hJ.1
  have hS := hT.s
  have hcJ := cpP_C hT0 hc hJ
  have apJ := aaP_C hT0 ap hJ
  obtain ⟨ai, ⟨ha, an0, a4n⟩, am, al⟩ := id apJ
  have a0 : (a = 0) = False := eq_false an0
  have e5 : J (C + 14) 5 = Y 0 6 := hcJ.2.1.1
  have hexit : ¬ b < Y 0 6 → a_at (d + 6) (a_xm a_m124) 66 [some (a_rf (C + 22)), some (a_rf a), some (.int f), some (.int e), some (.int s), some (.int b)] [] (n, t, K, L, J, R) P := fun w => by
    rw [(lp_end h1 w).1] at hV
    have hV : -1 = V := hV
    exact hN (by rw [← hV]; decide) J (some (.int b)) hJ
  have hcall : b < Y 0 6 → a_does (d + 6) 100 [a_rf (C + 14), a_rf a, .int b, .int s] (n, t, K, L, J, R) (fun r h' => a_at (d + 6) (a_xm a_m124) 43 [some (a_rf (C + 22)), some (a_rf a), some (.int f), some (.int e), some (.int s), some (.int b)] (r.toList ++ []) h' P) := fun w => by
    obtain ⟨s1, s2, s3, s4⟩ := lp_st h0 w
    refine ce_firstBar (d := d + 1) hT hcJ apJ ⟨h0, w⟩ hs (fun J2 c2 => ?_)
    have hT2 := c2.1
    have hS2 := hT2.s
    have hJ2 := dC_C hJ c2
    rw [s1] at hV
    unfold gfB at hV
    by_cases cf : ftY Y i b s = 0
    · rw [if_pos cf] at hV
      have hc2 := cpP_C hT hcJ c2
      have ap2 := aaP_C hT apJ c2
      have hl := hy.2.2.1 i ai.1 ai.2
      have hin := ft_in cf ⟨hl, (hy.2.1 _).2⟩ ⟨hs.1, Int32.le_trans hs.2 (by decide)⟩
      have hG := hG (by rw [← hV]; exact h0)
      rw [← hV] at hG
      have hpl : a_does (d + 6) 113 [a_rf (C + 14), a_rf a, .int b, .int s] (n, t, K, L, J2, R) (fun r h' => a_at (d + 6) (a_xm a_m124) 58 [some (a_rf (C + 22)), some (a_rf a), some (.int f), some (.int e), some (.int s), some (.int b)] (r.toList ++ []) h' P) := by
        refine ch_place (d := d) hT2 hc2 hse ap2 haa ⟨h0, w⟩ hs hin.2 un (ft_free hT2 hc2 hse ai ⟨h0, w⟩ hs hin.2 un cf) (fun J3 d3 c3 z3 p1 p2 => ?_)
        have hp := hG J3 (dL_L (dL_C (dL_refl hT0) hJ2) d3) (fun x j kx hx => (z3 x j kx hx).trans (dC_at hJ2 hT0 kx j)) c3 (gvC_put (gvC_fr hq hT0 hc (hf_C hJ2)) hT2 hc2 hse c3 d3 ai un ⟨h0, w⟩ hs hin.2 (ft_free hT2 hc2 hse ai ⟨h0, w⟩ hs hin.2 un cf) p1 p2)
        have hS3 := d3.1.s
        ((try clear ih); (try clear hG); (try clear hN); (try clear hexit); (try clear hc); (try clear hcJ); (try clear hc2); (try clear c3); (try clear ap); (try clear apJ); (try clear ap2); (try clear al); (try clear am))
        simp only [q124_58, q124_59, as_nil, as_i, as_r, Nat.reduceAdd, Nat.reduceLeDiff, z_eq0, z_eq1, z_or, z_em, Classical.not_not, not_false_eq_true, not_true_eq_false, true_and, and_true, false_and, and_false, and_self, true_implies, false_implies, implies_true, Option.toList_some, Option.toList_none, List.cons_append, List.nil_append, Nat.add_eq_zero_iff, a_nl_i, a_nl_r, a_nl_n, true_or, or_true, eq_self, a_isRA_22, a_isRA_24, a_isRA_32, a_isA_20, ok_4, ok_5, ok_6, ok_7, ok_9, ok_20, ok_21, ok_30, ok_50, ok_180, ok_192, ok_200]
        first
          | exact hp
          | exact ⟨by decide, hp⟩
          | grind
      ((try clear ih); (try clear hG); (try clear hN); (try clear hexit); (try clear hc); (try clear hcJ); (try clear hc2); (try clear ap); (try clear apJ); (try clear ap2); (try clear al); (try clear am))
      simp only [q124_43, q124_46, q124_47, q124_50, q124_51, q124_53, q124_55, k_22 hS, z_22, r_22_0 hS, k_14 hS, z_14, as_nil, as_i, as_r, Nat.reduceAdd, Nat.reduceLeDiff, z_eq0, z_eq1, z_or, z_em, Classical.not_not, not_false_eq_true, not_true_eq_false, true_and, and_true, false_and, and_false, and_self, true_implies, false_implies, implies_true, Option.toList_some, Option.toList_none, List.cons_append, List.nil_append, Nat.add_eq_zero_iff, a_nl_i, a_nl_r, a_nl_n, true_or, or_true, eq_self, a_isRA_22, a_isRA_24, a_isRA_32, a_isA_20, ok_4, ok_5, ok_6, ok_7, ok_9, ok_20, ok_21, ok_30, ok_50, ok_180, ok_192, ok_200, ha, a0, cf]
      try simp only [true_and, and_true, true_implies, false_implies, implies_true, not_true_eq_false, not_false_eq_true]
      first
        | exact hpl
        | grind
    · rw [if_neg cf] at hV
      have hn := ih (Int32.lt_of_lt_of_le w h6.2) J2 s2 s3 hJ2 hV
      ((try clear ih); (try clear hG); (try clear hN); (try clear hexit); (try clear hc); (try clear hcJ); (try clear ap); (try clear apJ); (try clear al); (try clear am))
      simp only [q124_43, q124_60, q124_63, as_nil, as_i, as_r, Nat.reduceAdd, Nat.reduceLeDiff, z_eq0, z_eq1, z_or, z_em, Classical.not_not, not_false_eq_true, not_true_eq_false, true_and, and_true, false_and, and_false, and_self, true_implies, false_implies, implies_true, Option.toList_some, Option.toList_none, List.cons_append, List.nil_append, Nat.add_eq_zero_iff, a_nl_i, a_nl_r, a_nl_n, true_or, or_true, eq_self, a_isRA_22, a_isRA_24, a_isRA_32, a_isA_20, ok_4, ok_5, ok_6, ok_7, ok_9, ok_20, ok_21, ok_30, ok_50, ok_180, ok_192, ok_200, ha, a0, cf]
      try simp only [true_and, and_true, true_implies, false_implies, implies_true, not_true_eq_false, not_false_eq_true]
      first
        | exact hn
        | grind
  ((try clear ih); (try clear hV); (try clear hG); (try clear hN); (try clear hc); (try clear hcJ); (try clear ap); (try clear apJ); (try clear al); (try clear am))
  rw [q124_19]
  repeat' first
    | with_reducible apply And.intro
    | with_reducible assumption
    | with_reducible intro _
    | refine hexit ?_
    | refine hcall ?_
    | simp only [q124_21, q124_22, q124_25, q124_28, q124_31, q124_32, q124_35, q124_36, q124_38, q124_40, k_22 hS, z_22, r_22_0 hS, k_14 hS, z_14, as_nil, as_i, as_r, Nat.reduceAdd, Nat.reduceLeDiff, z_eq0, z_eq1, z_or, z_em, Classical.not_not, not_false_eq_true, not_true_eq_false, true_and, and_true, false_and, and_false, and_self, true_implies, false_implies, implies_true, Option.toList_some, Option.toList_none, List.cons_append, List.nil_append, Nat.add_eq_zero_iff, a_nl_i, a_nl_r, a_nl_n, true_or, or_true, eq_self, a_isRA_22, a_isRA_24, a_isRA_32, a_isA_20, ok_4, ok_5, ok_6, ok_7, ok_9, ok_20, ok_21, ok_30, ok_50, ok_180, ok_192, ok_200, ha, a0, e5]
  all_goals ((try clear hexit); (try clear hcall); (try clear hT); (try clear hS); (try clear hT0); grind [ui_ap])
theorem lh_placeFirst_3 (hT0 : cT C K L I R) (hc : cpP C K L I R Y) (hse : seP C R Y) {a : Nat} {i : Int32} (ap : aaP C K I Y i a) (haa : (R (C + 15) i.toNatClampNeg) = a) (un : ¬ 0 ≤ Y 20 i.toNatClampNeg) {mm : Nat} (hq : gvC C IB RB WB mm I R Y) {f e : Int32} (he9 : e ≤ 199) {V : Int32 × Int32} (hP1 : 0 ≤ V.2 → ∀ J, dL C K L R I J → aZ K a I J → cpP C K L J R (puY Y i V.2 V.1) → gvC C IB RB WB mm J R (puY Y i V.2 V.1) → P (some (.int 1)) (n, t, K, L, J, R)) (hP0 : ¬ 0 ≤ V.2 → ∀ J, dC C K L R I J → P (some (.int 0)) (n, t, K, L, J, R)) : ∀ s : Int32, s ≤ 203 → ∀ J b (k : Nat), 0 ≤ s → (203 : Int32).toNatClampNeg < s.toNatClampNeg + k → dC C K L R I J → gfS Y i e k s = V → a_at (d + 6) (a_xm a_m124) 3 [some (a_rf (C + 22)), some (a_rf a), some (.int f), some (.int e), some (.int s), b] [] (n, t, K, L, J, R) P := by
  have hy := hc.2.2.2.2
  have h6 := hy.2.2.2.2.2.1
  have hl4 := (hy.2.1 i.toNatClampNeg).2
  refine up_ind 203 (fun s s203 ih => ?_)
  intro J b k h0 hk hJ hV
  have hT := hJ.1
  have hS := hT.s
  have apJ := aaP_C hT0 ap hJ
  obtain ⟨ai, ⟨ha, an0, a4n⟩, am, al⟩ := id apJ
  have a0 : (a = 0) = False := eq_false an0
  have e2 : J a 2 = Y 10 i.toNatClampNeg := al.1.2.2.1
  have hl := hy.2.2.1 i ai.1 ai.2
  have c203 : s.toNatClampNeg ≤ (203 : Int32).toNatClampNeg := cl_le0 h0 s203
  obtain ⟨k, rfl⟩ : ∃ q, k = q + 1 := ⟨k - 1, by omega⟩
  unfold gfS at hV
  have hexit : e < s + Y 10 i.toNatClampNeg - 1 → P (some (.int 0)) (n, t, K, L, J, R) := fun c => hP0 (fun q => by
    rw [if_pos c] at hV
    rw [← hV] at q
    exact absurd (show (0 : Int32) ≤ -1 from q) (by decide)) J hJ
  have hin : ¬ e < s + Y 10 i.toNatClampNeg - 1 → a_at (d + 6) (a_xm a_m124) 19 [some (a_rf (C + 22)), some (a_rf a), some (.int f), some (.int e), some (.int s), some (.int 0)] [] (n, t, K, L, J, R) P := fun c => by
    rw [if_neg c] at hV
    have s199 : 0 ≤ s ∧ s ≤ 199 := ⟨h0, (gs_nx ⟨hl, hl4⟩ he9 ⟨h0, Int32.le_trans s203 (by decide)⟩ c).2⟩
    have hs1 : s < 203 := Int32.lt_of_le_of_lt s199.2 (by decide)
    obtain ⟨-, t2, -, t4⟩ := lp_st h0 hs1
    refine lh_placeFirst_19 (d := d) hT0 hc hse ap haa un hq s199 (V := gfB Y i s (Y 0 6).toNatClampNeg 0) (fun q2 J2 d2 z2 c2 g2 => ?_) (fun q J2 u2 c2 => ?_) 0 (by decide) J (by decide) h6.1 hJ (by rw [lp_0])
    · rw [if_pos q2] at hV
      refine hP1 (by rw [← hV]; exact q2) J2 d2 z2 ?_ ?_
      · rw [← hV]
        exact c2
      · rw [← hV]
        exact g2
    · rw [if_neg q] at hV
      have hn := ih hs1 J2 u2 k t2 (by omega) c2 hV
      have hS2 := c2.1.s
      ((try clear ih); (try clear hexit); (try clear hP1); (try clear hP0); (try clear hc); (try clear ap); (try clear apJ); (try clear al); (try clear am))
      simp only [q124_66, q124_69, as_nil, as_i, as_r, Nat.reduceAdd, Nat.reduceLeDiff, z_eq0, z_eq1, z_or, z_em, Classical.not_not, not_false_eq_true, not_true_eq_false, true_and, and_true, false_and, and_false, and_self, true_implies, false_implies, implies_true, Option.toList_some, Option.toList_none, List.cons_append, List.nil_append, Nat.add_eq_zero_iff, a_nl_i, a_nl_r, a_nl_n, true_or, or_true, eq_self, a_isRA_22, a_isRA_24, a_isRA_32, a_isA_20, ok_4, ok_5, ok_6, ok_7, ok_9, ok_20, ok_21, ok_30, ok_50, ok_180, ok_192, ok_200]
      first
        | exact hn
        | grind
  ((try clear ih); (try clear hV); (try clear hP1); (try clear hP0); (try clear hc); (try clear ap); (try clear apJ); (try clear al); (try clear am))
  rw [q124_3]
  repeat' first
    | with_reducible apply And.intro
    | with_reducible assumption
    | with_reducible intro _
    | refine hexit ?_
    | refine hin ?_
    | simp only [q124_5, q124_6, q124_9, q124_10, q124_11, q124_12, q124_13, q124_16, q124_17, q124_72, q124_73, k_22 hS, z_22, as_nil, as_i, as_r, Nat.reduceAdd, Nat.reduceLeDiff, z_eq0, z_eq1, z_or, z_em, Classical.not_not, not_false_eq_true, not_true_eq_false, true_and, and_true, false_and, and_false, and_self, true_implies, false_implies, implies_true, Option.toList_some, Option.toList_none, List.cons_append, List.nil_append, Nat.add_eq_zero_iff, a_nl_i, a_nl_r, a_nl_n, true_or, or_true, eq_self, a_isRA_22, a_isRA_24, a_isRA_32, a_isA_20, ok_4, ok_5, ok_6, ok_7, ok_9, ok_20, ok_21, ok_30, ok_50, ok_180, ok_192, ok_200, ha, a0, e2]
  all_goals ((try clear hexit); (try clear hin); (try clear hT); (try clear hS); (try clear hT0); grind [ui_ap])
theorem ch_placeFirst (hT : cT C K L I R) (hc : cpP C K L I R Y) (hse : seP C R Y) {a : Nat} {i : Int32} (ap : aaP C K I Y i a) (haa : (R (C + 15) i.toNatClampNeg) = a) (un : ¬ 0 ≤ Y 20 i.toNatClampNeg) {mm : Nat} (hq : gvC C IB RB WB mm I R Y) {f e : Int32} (hf : 0 ≤ f ∧ f ≤ 202) (he9 : e ≤ 199) (hP1 : 0 ≤ (gnY Y i f e).2 → ∀ J, dL C K L R I J → aZ K a I J → cpP C K L J R (puY Y i (gnY Y i f e).2 (gnY Y i f e).1) → gvC C IB RB WB mm J R (puY Y i (gnY Y i f e).2 (gnY Y i f e).1) → P (some (.int 1)) (n, t, K, L, J, R)) (hP0 : ¬ 0 ≤ (gnY Y i f e).2 → ∀ J, dC C K L R I J → P (some (.int 0)) (n, t, K, L, J, R)) : a_does (d + 7) 124 [a_rf (C + 22), a_rf a, .int f, .int e] (n, t, K, L, I, R) P := by
  have hS := hT.s
  have c203 : (203 : Int32).toNatClampNeg = 203 := rfl
  have hl := lh_placeFirst_3 (d := d) (n := n) (t := t) (P := P) (f := f) hT hc hse ap haa un hq he9 hP1 hP0 f (Int32.le_trans hf.2 (by decide)) I none 240 hf.1 (by rw [c203]; omega) (dC_refl hT) rfl
  ((try clear hP1); (try clear hP0); (try clear hc); (try clear hse); (try clear ap))
  rw [a_enter1 (M := a_m124) rfl (a_cat_rf (a_cat_rf (a_cat_int (a_cat_int a_cat_nil)))) (show 4 ≤ 6 by decide)]
  show a_at _ (a_xm a_m124) 0 [some (a_rf (C + 22)), some (a_rf a), some (.int f), some (.int e), none, none] [] _ _
  simp only [q124_0, q124_1, as_nil, as_i, as_r, Nat.reduceAdd, Nat.reduceLeDiff, z_eq0, z_eq1, z_or, z_em, Classical.not_not, not_false_eq_true, not_true_eq_false, true_and, and_true, false_and, and_false, and_self, true_implies, false_implies, implies_true, Option.toList_some, Option.toList_none, List.cons_append, List.nil_append, Nat.add_eq_zero_iff, a_nl_i, a_nl_r, a_nl_n, true_or, or_true, eq_self, a_isRA_22, a_isRA_24, a_isRA_32, a_isA_20, ok_4, ok_5, ok_6, ok_7, ok_9, ok_20, ok_21, ok_30, ok_50, ok_180, ok_192, ok_200]
  exact hl
theorem lh_planAll_68 (hse : seP C R Y) (hQ : ∀ i : Int32, 0 ≤ i → i < Y 0 17 → ¬ Q (R (C + 15) i.toNatClampNeg)) {f e : Int32} (hf : 0 ≤ f ∧ f ≤ 202) (he9 : e ≤ 199) {o : Nat → Int32} {m : Nat} {mm : Nat} (hm30 : m ≤ 30) (ho : ∀ j, j < m → odP C R Y o j) (hoi : ∀ i j, i < m → j < m → o i = o j → i = j) {V : (Nat → Nat → Int32) × Nat × (Nat → Int32)} (hP : ∀ J, cT C K L J R → cpP C K L J R V.1 → gvC C IB RB WB mm J R V.1 → sbE Y V.1 → V.2.1 ≤ m → pnP C m V.2.1 V.2.2 (Y 0 10) J → sZ C K Q I0 J → P (some (.int (Int32.ofNat (m - V.2.1)))) (n, t, K, L, J, R)) : ∀ (k i : Nat) (J W : Nat → Nat → Int32) (pc : Nat) (ps : Nat → Int32) (u : Option Value), i + k = m → cT C K L J R → cpP C K L J R W → gvC C IB RB WB mm J R W → sbE Y W → W 0 10 = Y 0 10 → pc ≤ i → pnP C m pc ps (Y 0 10) J → sZ C K Q I0 J → (∀ j, i ≤ j → j < m → ¬ 0 ≤ W 20 (o j).toNatClampNeg) → plS o f e k i (W, pc, ps) = V → a_at (d + 7) (a_xm a_m119) 68 [some (a_rf (C + 22)), some (.int f), some (.int e), some (.int (Int32.ofNat i)), u] [] (n, t, K, L, J, R) P := by
  intro k
  induction k with
  | zero =>
    intro i J W pc ps u hk hT hc hq hb w10 hpc hpn hz hun hV
    have e : (W, pc, ps) = V := hV
    subst e
    have ei : i = m := by omega
    have hp := hP J hT hc hq hb (by show pc ≤ m; omega) hpn hz
    have h6 := hpn.1
    have h7 := hpn.2.1
    have hS := hT.s
    have es : Int32.ofNat m - Int32.ofNat pc = Int32.ofNat (m - pc) := on_sb (by omega)
    rw [ei]
    ((try clear hP); (try clear hc); (try clear hb); (try clear hun); (try clear hpn); (try clear ho); (try clear hse))
    rw [q119_68]
    simp only [q119_69, q119_70, q119_73, q119_140, q119_141, q119_144, q119_145, q119_148, q119_149, k_22 hS, z_22, as_nil, as_i, as_r, Nat.reduceAdd, Nat.reduceLeDiff, z_eq0, z_eq1, z_or, z_em, Classical.not_not, not_false_eq_true, not_true_eq_false, true_and, and_true, false_and, and_false, and_self, true_implies, false_implies, implies_true, Option.toList_some, Option.toList_none, List.cons_append, List.nil_append, Nat.add_eq_zero_iff, a_nl_i, a_nl_r, a_nl_n, true_or, or_true, eq_self, a_isRA_22, a_isRA_24, a_isRA_32, a_isA_20, ok_4, ok_5, ok_6, ok_7, ok_9, ok_20, ok_21, ok_30, ok_50, ok_180, ok_192, ok_200, h6, h7, es]
    first
      | exact hp
      | exact ⟨fun _ => hp, fun q => absurd (Int32.le_refl _) q⟩
      | grind
  | succ k ih =>
    intro i J W pc ps u hk hT hc hq hb w10 hpc hpn hz hun hV
    have hS := hT.s
    have w17 : W 0 17 = Y 0 17 := hb 0 17 (by unfold sb; omega)
    have hse2 := se_b hse hb
    have him : i < m := by omega
    obtain ⟨q0, q1, q2⟩ := ho i him
    rw [← w17] at q2
    have ap := aa_of hc q1 q2
    have hsh : J (C + 22) 8 = W 0 10 := by rw [w10]; exact hpn.2.2.1
    have un : ¬ 0 ≤ W 20 (o i).toNatClampNeg := hun i (Nat.le_refl _) him
    have hok := on_ok (p := i) (by omega)
    have hokp := on_ok (p := pc) (by omega)
    have ei := (on_p (p := i) (by omega)).2.2.1
    have ei1 := (on_p (p := i) (by omega)).2.2.2.2.1
    have epc := (on_p (p := pc) (by omega)).2.2.1
    have epc1 := (on_p (p := pc) (by omega)).2.2.2.2.1
    have nle : ¬ Int32.ofNat m ≤ Int32.ofNat i := Int32.not_le.mpr (by rw [on_lt (by omega) (by omega)]; omega)
    have ka := ap.2.1.1
    have kn := ap.2.1.2.1
    have k0 : (R (C + 15) (o i).toNatClampNeg = 0) = False := eq_false kn
    have h6 := hpn.1
    have hfail : ¬ (shB W (o i) f e = true ∧ 0 ≤ (gnY W (o i) f e).2) → ∀ J2, dC C K L R J J2 → a_at (d + 7) (a_xm a_m119) 106 [some (a_rf (C + 22)), some (.int f), some (.int e), some (.int (Int32.ofNat i)), u] [] (n, t, K, L, J2, R) P := fun c J2 d2 => by
      have hT2 := d2.1
      have hS2 := hT2.s
      have hc2 := cpP_C hT hc d2
      have n2 := pn_L hpn (dL_C (dL_refl hT) d2)
      have ap2 := aaP_C hT ap d2
      have e4 : J2 (R (C + 15) (o i).toNatClampNeg) 4 = o i := ap2.2.1.2.2
      have e7 := n2.2.1
      have hT3 := sT_Planner_passed hT2 (k := pc) (v := o i)
      have hc3 := cp_sc hT2 hc2 (k := 24) (j := pc) (v := o i) (by omega) (by omega)
      have hT4 := sT_Planner_passedCount hT3 (v := Int32.ofNat (pc + 1)) (on_ok2 (by omega))
      have hc4 := cp_sc hT3 hc3 (k := 22) (j := 7) (v := Int32.ofNat (pc + 1)) (by omega) (by omega)
      unfold plS at hV
      rw [if_neg c] at hV
      have hn := ih (i + 1) (a_ui (a_ui J2 (C + 24) pc (o i)) (C + 22) 7 (Int32.ofNat (pc + 1))) W (pc + 1) (up1 ps pc (o i)) u (by omega) hT4 hc4 (gvC_fr (gvC_fr (gvC_fr hq hT hc (hf_C d2)) hT2 hc2 (hf_ui (by omega) (by omega))) hT3 hc3 (hf_ui (by omega) (by omega))) hb w10 (by omega) ⟨by rw [ui_ap, if_neg (by omega), ui_ap, if_neg (by omega)]; exact n2.1, by rw [ui_ap, if_pos ⟨rfl, rfl⟩], by rw [ui_ap, if_neg (by omega), ui_ap, if_neg (by omega)]; exact n2.2.2.1, fun j hj => by
        rw [ui_ap, if_neg (by omega), ui_ap]
        unfold up1
        by_cases q : j = pc
        · rw [if_pos ⟨rfl, q⟩, if_pos q]
        · rw [if_neg (fun z => q z.2), if_neg q]
          exact n2.2.2.2 j (by omega)⟩ (sz_ui (sz_ui (sz_C hz hT d2) hT2 (by omega)) hT3 (by omega)) (fun j hj hj2 => hun j (by omega) hj2) hV
      ((try clear ih); (try clear hP); (try clear hc); (try clear hb); (try clear hun); (try clear hpn); (try clear ho); (try clear hse); (try clear hse2); (try clear hc2); (try clear hc3); (try clear hc4); (try clear hT3); (try clear hT4); (try clear ap); (try clear ap2); (try clear n2))
      simp only [q119_106, q119_107, q119_110, q119_111, q119_114, q119_115, q119_118, q119_119, q119_120, q119_123, q119_124, q119_125, q119_126, q119_129, q119_130, q119_131, q119_134, q119_137, k_22 hS2, z_22, r_22_3 hS2, k_24 hS2, l_24 hS2, z_24, r_22_2 hS2, k_23 hS2, l_23 hS2, z_23, as_nil, as_i, as_r, Nat.reduceAdd, Nat.reduceLeDiff, z_eq0, z_eq1, z_or, z_em, Classical.not_not, not_false_eq_true, not_true_eq_false, true_and, and_true, false_and, and_false, and_self, true_implies, false_implies, implies_true, Option.toList_some, Option.toList_none, List.cons_append, List.nil_append, Nat.add_eq_zero_iff, a_nl_i, a_nl_r, a_nl_n, true_or, or_true, eq_self, a_isRA_22, a_isRA_24, a_isRA_32, a_isA_20, ok_4, ok_5, ok_6, ok_7, ok_9, ok_20, ok_21, ok_30, ok_50, ok_180, ok_192, ok_200, ui_ap, cc_ne, cc_n0, cc_0n, Nat.reduceEqDiff, reduceIte, if_true, if_false, q0, ei, ei1, epc, epc1, e7, e4, hok, hokp, ka, k0]
      try simp only [true_and, and_true, true_implies, false_implies, implies_true, not_true_eq_false, not_false_eq_true]
      first
        | exact hn
        | grind
    have hok2 : shB W (o i) f e = true → 0 ≤ (gnY W (o i) f e).2 → ∀ J2, dL C K L R J J2 → aZ K (R (C + 15) (o i).toNatClampNeg) J J2 → cpP C K L J2 R (puY W (o i) (gnY W (o i) f e).2 (gnY W (o i) f e).1) → gvC C IB RB WB mm J2 R (puY W (o i) (gnY W (o i) f e).2 (gnY W (o i) f e).1) → a_at (d + 7) (a_xm a_m119) 134 [some (a_rf (C + 22)), some (.int f), some (.int e), some (.int (Int32.ofNat i)), u] [] (n, t, K, L, J2, R) P := fun c1 c2 J2 d2 z2 hc2 hq2 => by
      unfold plS at hV
      rw [if_pos ⟨c1, c2⟩] at hV
      have hn := ih (i + 1) J2 _ pc ps u (by omega) d2.1 hc2 hq2 (sb_tr hb puY_b) (by unfold puY; rw [if_neg (by omega), if_neg (by omega), if_neg (by omega)]; exact w10) (by omega) (pn_L hpn d2) (sz_L hz hT d2 (hQ _ q1 (by rw [← hb 0 17 (by unfold sb; omega)]; exact q2)) z2) (fun j hj hj2 => by
        have hne : ¬ (o j).toNatClampNeg = (o i).toNatClampNeg := fun q => by
          have := hoi j i hj2 him (cl_inj (ho j hj2).2.1 q1 q)
          omega
        unfold puY
        rw [if_neg (fun q => hne q.2), if_neg (by omega), if_neg (by omega)]
        exact hun j (by omega) hj2) hV
      ((try clear ih); (try clear hP); (try clear hc); (try clear hb); (try clear hun); (try clear hpn); (try clear ho); (try clear hse); (try clear hse2); (try clear hc2); (try clear ap))
      simp only [q119_134, q119_137, as_nil, as_i, as_r, Nat.reduceAdd, Nat.reduceLeDiff, z_eq0, z_eq1, z_or, z_em, Classical.not_not, not_false_eq_true, not_true_eq_false, true_and, and_true, false_and, and_false, and_self, true_implies, false_implies, implies_true, Option.toList_some, Option.toList_none, List.cons_append, List.nil_append, Nat.add_eq_zero_iff, a_nl_i, a_nl_r, a_nl_n, true_or, or_true, eq_self, a_isRA_22, a_isRA_24, a_isRA_32, a_isA_20, ok_4, ok_5, ok_6, ok_7, ok_9, ok_20, ok_21, ok_30, ok_50, ok_180, ok_192, ok_200, ei1]
      exact hn
    have hfirst : shB W (o i) f e = true → a_does (d + 7) 124 [a_rf (C + 22), a_rf (R (C + 15) (o i).toNatClampNeg), .int f, .int e] (n, t, K, L, J, R) (fun r h' => a_at (d + 7) (a_xm a_m119) 103 [some (a_rf (C + 22)), some (.int f), some (.int e), some (.int (Int32.ofNat i)), u] (r.toList ++ []) h' P) := fun c1 => by
      refine ch_placeFirst (d := d) hT hc hse2 ap rfl un hq hf he9 (fun c2 J2 d2 z2 hc2 hq2 => ?_) (fun c2 J2 d2 => ?_)
      · have hn := hok2 c1 c2 J2 d2 z2 hc2 hq2
        have n10 : ¬ (1 : Int32) = 0 := by decide
        ((try clear ih); (try clear hP); (try clear hc); (try clear hb); (try clear hun); (try clear hpn); (try clear ho); (try clear hse); (try clear hse2); (try clear hc2); (try clear ap); (try clear hok2); (try clear hfail))
        simp only [q119_103, as_nil, as_i, as_r, Nat.reduceAdd, Nat.reduceLeDiff, z_eq0, z_eq1, z_or, z_em, Classical.not_not, not_false_eq_true, not_true_eq_false, true_and, and_true, false_and, and_false, and_self, true_implies, false_implies, implies_true, Option.toList_some, Option.toList_none, List.cons_append, List.nil_append, Nat.add_eq_zero_iff, a_nl_i, a_nl_r, a_nl_n, true_or, or_true, eq_self, a_isRA_22, a_isRA_24, a_isRA_32, a_isA_20, ok_4, ok_5, ok_6, ok_7, ok_9, ok_20, ok_21, ok_30, ok_50, ok_180, ok_192, ok_200, n10]
        try simp only [true_and, and_true, true_implies, false_implies, implies_true, not_true_eq_false, not_false_eq_true]
        first
          | exact hn
          | grind
      · have hn := hfail (fun q => c2 q.2) J2 d2
        ((try clear ih); (try clear hP); (try clear hc); (try clear hb); (try clear hun); (try clear hpn); (try clear ho); (try clear hse); (try clear hse2); (try clear ap); (try clear hok2); (try clear hfail))
        simp only [q119_103, as_nil, as_i, as_r, Nat.reduceAdd, Nat.reduceLeDiff, z_eq0, z_eq1, z_or, z_em, Classical.not_not, not_false_eq_true, not_true_eq_false, true_and, and_true, false_and, and_false, and_self, true_implies, false_implies, implies_true, Option.toList_some, Option.toList_none, List.cons_append, List.nil_append, Nat.add_eq_zero_iff, a_nl_i, a_nl_r, a_nl_n, true_or, or_true, eq_self, a_isRA_22, a_isRA_24, a_isRA_32, a_isA_20, ok_4, ok_5, ok_6, ok_7, ok_9, ok_20, ok_21, ok_30, ok_50, ok_180, ok_192, ok_200]
        try simp only [true_and, and_true, true_implies, false_implies, implies_true, not_true_eq_false, not_false_eq_true]
        first
          | exact hn
          | grind
    have hcall : a_does (d + 7) 123 [a_rf (C + 22), a_rf (R (C + 15) (o i).toNatClampNeg), .int f, .int e] (n, t, K, L, J, R) (fun r h' => a_at (d + 7) (a_xm a_m119) 88 [some (a_rf (C + 22)), some (.int f), some (.int e), some (.int (Int32.ofNat i)), u] (r.toList ++ []) h' P) := by
      refine ce_isInShare (d := d + 5) hT hc ap rfl hsh ?_
      by_cases c1 : shB W (o i) f e = true
      · rw [if_pos c1]
        have hn := hfirst c1
        have n10 : ¬ (1 : Int32) = 0 := by decide
        ((try clear ih); (try clear hP); (try clear hc); (try clear hb); (try clear hun); (try clear hpn); (try clear ho); (try clear hse); (try clear hse2); (try clear ap); (try clear hok2); (try clear hfail); (try clear hfirst))
        simp only [q119_88, q119_91, q119_92, q119_93, q119_96, q119_97, q119_98, q119_99, q119_100, k_22 hS, z_22, r_22_2 hS, k_23 hS, l_23 hS, z_23, as_nil, as_i, as_r, Nat.reduceAdd, Nat.reduceLeDiff, z_eq0, z_eq1, z_or, z_em, Classical.not_not, not_false_eq_true, not_true_eq_false, true_and, and_true, false_and, and_false, and_self, true_implies, false_implies, implies_true, Option.toList_some, Option.toList_none, List.cons_append, List.nil_append, Nat.add_eq_zero_iff, a_nl_i, a_nl_r, a_nl_n, true_or, or_true, eq_self, a_isRA_22, a_isRA_24, a_isRA_32, a_isA_20, ok_4, ok_5, ok_6, ok_7, ok_9, ok_20, ok_21, ok_30, ok_50, ok_180, ok_192, ok_200, n10, q0, ei, hok]
        try simp only [true_and, and_true, true_implies, false_implies, implies_true, not_true_eq_false, not_false_eq_true]
        first
          | exact hn
          | grind
      · rw [if_neg c1]
        have hn := hfail (fun q => c1 q.1) J (dC_refl hT)
        ((try clear ih); (try clear hP); (try clear hc); (try clear hb); (try clear hun); (try clear hpn); (try clear ho); (try clear hse); (try clear hse2); (try clear ap); (try clear hok2); (try clear hfail); (try clear hfirst))
        simp only [q119_88, q119_91, q119_92, q119_93, q119_96, q119_97, q119_98, q119_99, q119_100, k_22 hS, z_22, r_22_2 hS, k_23 hS, l_23 hS, z_23, as_nil, as_i, as_r, Nat.reduceAdd, Nat.reduceLeDiff, z_eq0, z_eq1, z_or, z_em, Classical.not_not, not_false_eq_true, not_true_eq_false, true_and, and_true, false_and, and_false, and_self, true_implies, false_implies, implies_true, Option.toList_some, Option.toList_none, List.cons_append, List.nil_append, Nat.add_eq_zero_iff, a_nl_i, a_nl_r, a_nl_n, true_or, or_true, eq_self, a_isRA_22, a_isRA_24, a_isRA_32, a_isA_20, ok_4, ok_5, ok_6, ok_7, ok_9, ok_20, ok_21, ok_30, ok_50, ok_180, ok_192, ok_200]
        try simp only [true_and, and_true, true_implies, false_implies, implies_true, not_true_eq_false, not_false_eq_true]
        first
          | exact hn
          | grind
    ((try clear ih); (try clear hP); (try clear hc); (try clear hb); (try clear hun); (try clear hpn); (try clear ho); (try clear hse); (try clear hse2); (try clear ap); (try clear hok2); (try clear hfail); (try clear hfirst))
    rw [q119_68]
    simp only [q119_69, q119_70, q119_73, q119_76, q119_77, q119_78, q119_81, q119_82, q119_83, q119_84, q119_85, k_22 hS, z_22, r_22_2 hS, k_23 hS, l_23 hS, z_23, as_nil, as_i, as_r, Nat.reduceAdd, Nat.reduceLeDiff, z_eq0, z_eq1, z_or, z_em, Classical.not_not, not_false_eq_true, not_true_eq_false, true_and, and_true, false_and, and_false, and_self, true_implies, false_implies, implies_true, Option.toList_some, Option.toList_none, List.cons_append, List.nil_append, Nat.add_eq_zero_iff, a_nl_i, a_nl_r, a_nl_n, true_or, or_true, eq_self, a_isRA_22, a_isRA_24, a_isRA_32, a_isA_20, ok_4, ok_5, ok_6, ok_7, ok_9, ok_20, ok_21, ok_30, ok_50, ok_180, ok_192, ok_200, h6, q0, ei, hok, nle]
    try simp only [true_and, and_true, true_implies, false_implies, implies_true, not_true_eq_false, not_false_eq_true]
    first
      | exact hcall
      | grind
def h96 (C : Nat) (I J : Nat → Nat → Int32) : Prop := (∀ x j, C + 96 < x → J x j = I x j) ∧ J (C + 1) 6 = I (C + 1) 6 ∧ ∀ x j, C + 44 ≤ x → x ≤ C + 96 → J x j = I x j
theorem h96_ui (h : h96 C I J) {k j : Nat} {v : Int32} (hk : k ≤ 43) (hn : ¬ k = 1) : h96 C I (a_ui J (C + k) j v) := ⟨fun x i q => by rw [ui_ap, if_neg (by omega)]; exact h.1 x i q, by rw [ui_ap, if_neg (by omega)]; exact h.2.1, fun x i p q => by rw [ui_ap, if_neg (by omega)]; exact h.2.2 x i p q⟩
theorem lh_planAll_12 (hT0 : cT C K L I R) (hc : cpP C K L I R Y) (hse : seP C R Y) {f e : Int32} (hN : ∀ J R1 u, cT C K L J R1 → cpP C K L J R1 Y → rfP C R R1 → pnP C (orP Y).2 0 (fun _ => 0) (Y 0 10) J → (∀ j, j < (orP Y).2 → odP C R1 Y (orP Y).1 j) → (sZ C K Q I0 J ∧ h96 C I0 J) → a_at (d + 7) (a_xm a_m119) 68 [some (a_rf (C + 22)), some (.int f), some (.int e), some (.int 0), u] [] (n, t, K, L, J, R1) P) : ∀ i : Int32, i ≤ 30 → ∀ J R1 u m o, 0 ≤ i → i ≤ Y 0 17 → cT C K L J R1 → cpP C K L J R1 Y → rfP C R R1 → pnP C m 0 (fun _ => 0) (Y 0 10) J → m ≤ i.toNatClampNeg → (∀ j, j < m → odP C R1 Y o j) → (sZ C K Q I0 J ∧ h96 C I0 J) → orF Y (seB Y) ((Y 0 17).toNatClampNeg - i.toNatClampNeg) i (o, m) = orP Y → a_at (d + 7) (a_xm a_m119) 12 [some (a_rf (C + 22)), some (.int f), some (.int e), some (.int i), u] [] (n, t, K, L, J, R1) P := by
  have h17 := hc.2.2.2.2.2.2.2.2.1
  have l30 := cl_le0 h17.1 h17.2
  rw [show (30 : Int32).toNatClampNeg = 30 from rfl] at l30
  refine up_ind 30 (fun i i30 ih => ?_)
  intro J R1 u m o h0 h1 hT hc1 hr hpn hmi ho hz hV
  have hS := hT.s
  have gA := hT.g_asksR
  have gB := hT.g_benchesR
  have gX := hT.g_textsR
  have e4 : J (C + 14) 4 = Y 0 17 := hc1.2.2.1.1
  have hexit : ¬ i < Y 0 17 → a_at (d + 7) (a_xm a_m119) 66 [some (a_rf (C + 22)), some (.int f), some (.int e), some (.int i), u] [] (n, t, K, L, J, R1) P := fun w => by
    rw [(lp_end h1 w).1] at hV
    have e9 : (o, m) = orP Y := hV
    rw [← e9] at hN
    have hn := hN J R1 u hT hc1 hr hpn ho hz
    ((try clear ih); (try clear hN); (try clear hV); (try clear hc); (try clear hc1); (try clear hr); (try clear hse); (try clear hpn); (try clear ho))
    simp only [q119_66, q119_67, as_nil, as_i, as_r, Nat.reduceAdd, Nat.reduceLeDiff, z_eq0, z_eq1, z_or, z_em, Classical.not_not, not_false_eq_true, not_true_eq_false, true_and, and_true, false_and, and_false, and_self, true_implies, false_implies, implies_true, Option.toList_some, Option.toList_none, List.cons_append, List.nil_append, Nat.add_eq_zero_iff, a_nl_i, a_nl_r, a_nl_n, true_or, or_true, eq_self, a_isRA_22, a_isRA_24, a_isRA_32, a_isA_20, ok_4, ok_5, ok_6, ok_7, ok_9, ok_20, ok_21, ok_30, ok_50, ok_180, ok_192, ok_200]
    exact hn
  have hV2 : i < Y 0 17 → orF Y (seB Y) ((Y 0 17).toNatClampNeg - (i + 1).toNatClampNeg) (i + 1) (if seB Y i = true then (inS Y i m o, m + 1) else (o, m)) = orP Y := fun w => by
    rw [(lp_st h0 w).1] at hV
    exact hV
  have hno : i < Y 0 17 → ¬ seB Y i = true → ∀ u, a_at (d + 7) (a_xm a_m119) 60 [some (a_rf (C + 22)), some (.int f), some (.int e), some (.int i), u] [] (n, t, K, L, J, R1) P := fun w c u => by
    obtain ⟨s1, s2, s3, s4⟩ := lp_st h0 w
    have hV := hV2 w
    rw [if_neg c] at hV
    have hn := ih (Int32.lt_of_lt_of_le w h17.2) J R1 u m o s2 s3 hT hc1 hr hpn (by omega) ho hz hV
    ((try clear ih); (try clear hN); (try clear hV); (try clear hV2); (try clear hc); (try clear hc1); (try clear hr); (try clear hse); (try clear hpn); (try clear ho))
    simp only [q119_60, q119_63, as_nil, as_i, as_r, Nat.reduceAdd, Nat.reduceLeDiff, z_eq0, z_eq1, z_or, z_em, Classical.not_not, not_false_eq_true, not_true_eq_false, true_and, and_true, false_and, and_false, and_self, true_implies, false_implies, implies_true, Option.toList_some, Option.toList_none, List.cons_append, List.nil_append, Nat.add_eq_zero_iff, a_nl_i, a_nl_r, a_nl_n, true_or, or_true, eq_self, a_isRA_22, a_isRA_24, a_isRA_32, a_isA_20, ok_4, ok_5, ok_6, ok_7, ok_9, ok_20, ok_21, ok_30, ok_50, ok_180, ok_192, ok_200]
    exact hn
  have hyes : i < Y 0 17 → seB Y i = true → ∀ u, a_does (d + 7) 120 [a_rf (C + 22), a_rf (R1 (C + 15) i.toNatClampNeg)] (n, t, K, L, J, R1) (fun r h' => a_at (d + 7) (a_xm a_m119) 60 [some (a_rf (C + 22)), some (.int f), some (.int e), some (.int i), u] (r.toList ++ []) h' P) := fun w c u => by
    obtain ⟨s1, s2, s3, s4⟩ := lp_st h0 w
    have hV := hV2 w
    rw [if_pos c] at hV
    have iT := cl_lt h0 w
    refine ce_enter (d := d + 4) hT hc1 (se_rf hT0 hc hse hr) (aa_of hc1 h0 w) rfl (m := m) (by omega) hpn.1 ho (fun R2 hT2 hr2 ho2 => ?_)
    have hT1' := sT_Planner_orderSize hT (v := Int32.ofNat (m + 1)) (on_ok2 (by omega))
    have hc2 := cp_rf hT1' (cp_sc hT hc1 (k := 22) (j := 6) (v := Int32.ofNat (m + 1)) (by omega) (by omega)) hr2
    have hn := ih (Int32.lt_of_lt_of_le w h17.2) (a_ui J (C + 22) 6 (Int32.ofNat (m + 1))) R2 u (m + 1) (inS Y i m o) s2 s3 hT2 hc2 (fun x j a1 a2 a3 => (hr2 x j a1 a2 a3).trans (hr x j a1 a2 a3)) ⟨by rw [ui_ap, if_pos ⟨rfl, rfl⟩], by rw [ui_ap, if_neg (by omega)]; exact hpn.2.1, by rw [ui_ap, if_neg (by omega)]; exact hpn.2.2.1, fun j hj => absurd hj (Nat.not_lt_zero j)⟩ (by omega) (fun j hj => ho2 j (by omega)) ⟨sz_ui hz.1 hT (by omega), h96_ui hz.2 (by omega) (by omega)⟩ hV
    ((try clear ih); (try clear hN); (try clear hV); (try clear hV2); (try clear hc); (try clear hc1); (try clear hr); (try clear hse); (try clear hpn); (try clear ho); (try clear hc2); (try clear hr2); (try clear ho2); (try clear hno))
    simp only [q119_60, q119_63, as_nil, as_i, as_r, Nat.reduceAdd, Nat.reduceLeDiff, z_eq0, z_eq1, z_or, z_em, Classical.not_not, not_false_eq_true, not_true_eq_false, true_and, and_true, false_and, and_false, and_self, true_implies, false_implies, implies_true, Option.toList_some, Option.toList_none, List.cons_append, List.nil_append, Nat.add_eq_zero_iff, a_nl_i, a_nl_r, a_nl_n, true_or, or_true, eq_self, a_isRA_22, a_isRA_24, a_isRA_32, a_isA_20, ok_4, ok_5, ok_6, ok_7, ok_9, ok_20, ok_21, ok_30, ok_50, ok_180, ok_192, ok_200]
    exact hn
  have hin : i < Y 0 17 → a_at (d + 7) (a_xm a_m119) 31 [some (a_rf (C + 22)), some (.int f), some (.int e), some (.int i), u] [a_rf (R1 (C + 15) i.toNatClampNeg)] (n, t, K, L, J, R1) P := fun w => by
    have hno := hno w
    have hyes := hyes w
    obtain ⟨-, ⟨kb, bn, b4⟩, bm, bl⟩ := aa_of hc1 h0 w
    have b0 : (R1 (C + 15) i.toNatClampNeg = 0) = False := eq_false bn
    have f13 : J (R1 (C + 15) i.toNatClampNeg) 13 = Y 20 i.toNatClampNeg := bl.2.2.2.1.1
    have f15 : (J (R1 (C + 15) i.toNatClampNeg) 15 = 0) = (Y 18 i.toNatClampNeg = 0) := propext bl.2.2.2.2.1
    have es : (seB Y i = true) = (¬ 0 ≤ Y 20 i.toNatClampNeg ∧ Y 18 i.toNatClampNeg = 0) := propext ⟨fun q => of_decide_eq_true q, fun q => decide_eq_true q⟩
    rw [es] at hno hyes
    ((try clear ih); (try clear hN); (try clear hV); (try clear hV2); (try clear hc); (try clear hc1); (try clear hr); (try clear hse); (try clear hpn); (try clear ho); (try clear hexit); (try clear bl); (try clear bm))
    by_cases c1 : 0 ≤ Y 20 i.toNatClampNeg
    · have hno := hno (fun q => q.1 c1)
      ((try clear hyes))
      simp only [q119_31, q119_33, q119_35, q119_38, q119_40, q119_43, q119_46, q119_48, q119_51, q119_54, q119_55, q119_57, k_22 hS, z_22, sp_isPlaced, as_nil, as_i, as_r, Nat.reduceAdd, Nat.reduceLeDiff, z_eq0, z_eq1, z_or, z_em, Classical.not_not, not_false_eq_true, not_true_eq_false, true_and, and_true, false_and, and_false, and_self, true_implies, false_implies, implies_true, Option.toList_some, Option.toList_none, List.cons_append, List.nil_append, Nat.add_eq_zero_iff, a_nl_i, a_nl_r, a_nl_n, true_or, or_true, eq_self, a_isRA_22, a_isRA_24, a_isRA_32, a_isA_20, ok_4, ok_5, ok_6, ok_7, ok_9, ok_20, ok_21, ok_30, ok_50, ok_180, ok_192, ok_200, kb, b0, f13, c1]
      try simp only [true_and, and_true, true_implies, false_implies, implies_true, not_true_eq_false, not_false_eq_true]
      first
        | exact hno _
        | grind
    · by_cases c2 : Y 18 i.toNatClampNeg = 0
      · have hyes := hyes ⟨c1, c2⟩
        ((try clear hno))
        simp only [q119_31, q119_33, q119_35, q119_38, q119_40, q119_43, q119_46, q119_48, q119_51, q119_54, q119_55, q119_57, k_22 hS, z_22, sp_isPlaced, as_nil, as_i, as_r, Nat.reduceAdd, Nat.reduceLeDiff, z_eq0, z_eq1, z_or, z_em, Classical.not_not, not_false_eq_true, not_true_eq_false, true_and, and_true, false_and, and_false, and_self, true_implies, false_implies, implies_true, Option.toList_some, Option.toList_none, List.cons_append, List.nil_append, Nat.add_eq_zero_iff, a_nl_i, a_nl_r, a_nl_n, true_or, or_true, eq_self, a_isRA_22, a_isRA_24, a_isRA_32, a_isA_20, ok_4, ok_5, ok_6, ok_7, ok_9, ok_20, ok_21, ok_30, ok_50, ok_180, ok_192, ok_200, kb, b0, f13, f15, c1, c2]
        try simp only [true_and, and_true, true_implies, false_implies, implies_true, not_true_eq_false, not_false_eq_true]
        first
          | exact hyes _
          | grind
      · have hno := hno (fun q => c2 q.2)
        ((try clear hyes))
        simp only [q119_31, q119_33, q119_35, q119_38, q119_40, q119_43, q119_46, q119_48, q119_51, q119_54, q119_55, q119_57, k_22 hS, z_22, sp_isPlaced, as_nil, as_i, as_r, Nat.reduceAdd, Nat.reduceLeDiff, z_eq0, z_eq1, z_or, z_em, Classical.not_not, not_false_eq_true, not_true_eq_false, true_and, and_true, false_and, and_false, and_self, true_implies, false_implies, implies_true, Option.toList_some, Option.toList_none, List.cons_append, List.nil_append, Nat.add_eq_zero_iff, a_nl_i, a_nl_r, a_nl_n, true_or, or_true, eq_self, a_isRA_22, a_isRA_24, a_isRA_32, a_isA_20, ok_4, ok_5, ok_6, ok_7, ok_9, ok_20, ok_21, ok_30, ok_50, ok_180, ok_192, ok_200, kb, b0, f13, f15, c1, c2]
        try simp only [true_and, and_true, true_implies, false_implies, implies_true, not_true_eq_false, not_false_eq_true]
        first
          | exact hno _
          | grind
  ((try clear ih); (try clear hN); (try clear hV); (try clear hV2); (try clear hc); (try clear hc1); (try clear hr); (try clear hse); (try clear hpn); (try clear ho); (try clear hno); (try clear hyes))
  rw [q119_12]
  repeat' first
    | with_reducible apply And.intro
    | with_reducible assumption
    | with_reducible intro _
    | refine hexit ?_
    | refine hin ?_
    | simp only [q119_13, q119_14, q119_17, q119_20, q119_23, q119_24, q119_27, q119_28, k_22 hS, z_22, r_22_0 hS, k_14 hS, z_14, sp_askAt hS gA, as_nil, as_i, as_r, Nat.reduceAdd, Nat.reduceLeDiff, z_eq0, z_eq1, z_or, z_em, Classical.not_not, not_false_eq_true, not_true_eq_false, true_and, and_true, false_and, and_false, and_self, true_implies, false_implies, implies_true, Option.toList_some, Option.toList_none, List.cons_append, List.nil_append, Nat.add_eq_zero_iff, a_nl_i, a_nl_r, a_nl_n, true_or, or_true, eq_self, a_isRA_22, a_isRA_24, a_isRA_32, a_isA_20, ok_4, ok_5, ok_6, ok_7, ok_9, ok_20, ok_21, ok_30, ok_50, ok_180, ok_192, ok_200, e4]
  all_goals ((try clear hexit); (try clear hin); (try clear hT); (try clear hS); (try clear gA); (try clear gB); (try clear gX); grind [ui_ap])
theorem ch_planAll (hT : cT C K L I R) (hc : cpP C K L I R Y) (hse : seP C R Y) {mm : Nat} (hq : gvC C IB RB WB mm I R Y) (hsh : I (C + 22) 8 = Y 0 10) (hQ : ∀ i : Int32, 0 ≤ i → i < Y 0 17 → ¬ Q (R (C + 15) i.toNatClampNeg)) {f e : Int32} (hf : 0 ≤ f ∧ f ≤ 202) (he9 : e ≤ 199) (hP : ∀ J R2, cT C K L J R2 → cpP C K L J R2 (plY Y f e).1 → gvC C IB RB WB mm J R2 (plY Y f e).1 → sbE Y (plY Y f e).1 → rfP C R R2 → (plY Y f e).2.1 ≤ (orP Y).2 → pnP C (orP Y).2 (plY Y f e).2.1 (plY Y f e).2.2 (Y 0 10) J → sZ C K Q I J → P (some (.int (Int32.ofNat ((orP Y).2 - (plY Y f e).2.1)))) (n, t, K, L, J, R2)) : a_does (d + 8) 119 [a_rf (C + 22), .int f, .int e] (n, t, K, L, I, R) P := by
  have hS := hT.s
  have h17 := hc.2.2.2.2.2.2.2.2.1
  have l30 := cl_le0 h17.1 h17.2
  rw [show (30 : Int32).toNatClampNeg = 30 from rfl] at l30
  have hrw := rw_orP (Y := Y) h17.1
  have hor : (orP Y).2 ≤ 30 := or_le (z := 30) _ _ _ (by show 0 + _ ≤ 30; omega)
  have hT1 := sT_Planner_orderSize hT (v := 0) (by decide)
  have hc1 := cp_sc hT hc (k := 22) (j := 6) (v := 0) (by omega) (by omega)
  have hT2 := sT_Planner_passedCount hT1 (v := 0) (by decide)
  have hc2 := cp_sc hT1 hc1 (k := 22) (j := 7) (v := 0) (by omega) (by omega)
  have hl := fun u => lh_planAll_12 (d := d) (Q := Q) (n := n) (t := t) (P := P) (f := f) (e := e) (I0 := I) hT2 hc2 hse (fun J R1 u hT3 hc3 hr3 hpn3 ho3 hz3 => by
    have e0 : (0 : Int32) = Int32.ofNat 0 := rfl
    rw [e0]
    exact lh_planAll_68 (d := d) (Q := Q) (se_rf hT2 hc2 hse hr3) (fun i i0 i1 => by rw [hr3 _ _ (by omega) (by omega) (by omega)]; exact hQ i i0 i1) hf he9 (o := (orP Y).1) hor ho3 hrw.2 (I0 := I) (fun J2 a1 a2 g2 a3 a4 a5 a6 => hP J2 R1 a1 a2 g2 a3 hr3 a4 a5 a6) (orP Y).2 0 J Y 0 (fun _ => 0) u (by omega) hT3 hc3 (gvC_fr hq hT hc ⟨fun x j q _ => hz3.2.1 x j q, hz3.2.2.1, (hf_rf hT hr3).2.2.1, hz3.2.2.2⟩) (fun _ _ _ => rfl) rfl (Nat.le_refl _) hpn3 hz3.1 (fun j _ hj => (of_decide_eq_true (hrw.1 j hj).2).1) rfl) 0 (by decide) _ R u 0 (fun _ => 0) (by decide) h17.1 hT2 hc2 (fun _ _ _ _ _ => rfl) ⟨by rw [ui_ap, if_neg (by omega), ui_ap, if_pos ⟨rfl, rfl⟩]; rfl, by rw [ui_ap, if_pos ⟨rfl, rfl⟩]; rfl, by rw [ui_ap, if_neg (by omega), ui_ap, if_neg (by omega)]; exact hsh, fun j hj => absurd hj (Nat.not_lt_zero j)⟩ (Nat.zero_le _) (fun j hj => absurd hj (Nat.not_lt_zero j)) ⟨sz_ui (sz_ui sz_refl hT (by omega)) hT1 (by omega), h96_ui (h96_ui ⟨fun _ _ _ => rfl, rfl, fun _ _ _ _ => rfl⟩ (by omega) (by omega)) (by omega) (by omega)⟩ (by rw [lp_0]; rfl)
  ((try clear hP); (try clear hc); (try clear hc1); (try clear hc2); (try clear hse); (try clear hrw))
  rw [a_enter1 (M := a_m119) rfl (a_cat_rf (a_cat_int (a_cat_int a_cat_nil))) (show 3 ≤ 5 by decide)]
  show a_at _ (a_xm a_m119) 0 [some (a_rf (C + 22)), some (.int f), some (.int e), none, none] [] _ _
  simp only [q119_0, q119_1, q119_2, q119_5, q119_6, q119_7, q119_10, q119_11, k_22 hS, z_22, as_nil, as_i, as_r, Nat.reduceAdd, Nat.reduceLeDiff, z_eq0, z_eq1, z_or, z_em, Classical.not_not, not_false_eq_true, not_true_eq_false, true_and, and_true, false_and, and_false, and_self, true_implies, false_implies, implies_true, Option.toList_some, Option.toList_none, List.cons_append, List.nil_append, Nat.add_eq_zero_iff, a_nl_i, a_nl_r, a_nl_n, true_or, or_true, eq_self, a_isRA_22, a_isRA_24, a_isRA_32, a_isA_20, ok_4, ok_5, ok_6, ok_7, ok_9, ok_20, ok_21, ok_30, ok_50, ok_180, ok_192, ok_200]
  exact hl _
theorem ch_clearUnfit (hH : cH C c (n + 1) t K L I R) (hc : cpP C K L I R Y) (hse : seP C R Y) {a : Nat} {i : Int32} (ap : aaP C K I Y i a) (haa : (R (C + 15) i.toNatClampNeg) = a) {mm : Nat} (hq : tkC C IB RB WB mm I R Y) (hmm : mm < 16384) (hP1 : agB Y i = true → ∀ n' t' K' L' J R', cH C c (n' + 1) t' K' L' J R' → dQ C (n + 1) K L I R (n' + 1) K' L' J R' → cpP C K' L' J R' (unY Y i) → seP C R' Y → (∀ j, R' (C + 15) j = R (C + 15) j) → aZ K a I J → tkC C IB RB WB (mm + 1) J R' (unY Y i) → P (some (.int 1)) (n' + 1, t', K', L', J, R')) (hP0 : ¬ agB Y i = true → ∀ J, dC C K L R I J → P (some (.int 0)) (n + 1, t, K, L, J, R)) : a_does (d + 6) 145 [a_rf (C + 14), a_rf a] (n + 1, t, K, L, I, R) P := by
  have hT := hH.1
  have hS := hT.s
  obtain ⟨ai, ⟨ha, an0, a4n⟩, am, al⟩ := id ap
  obtain ⟨a1, a2, a4, a3⟩ := hT.g_ask a ha
  have a0 : (a = 0) = False := eq_false an0
  have gA := hT.g_asksR
  have gB := hT.g_benchesR
  have gX := hT.g_textsR
  have hy := hc.2.2.2.2
  have e13 : I a 13 = Y 20 i.toNatClampNeg := al.2.2.2.1.1
  have e14 : I a 14 = Y 21 i.toNatClampNeg := al.2.2.2.1.2
  have en : I (C + 1) 6 = Y 0 0 := hc.1.1
  have es : (agB Y i = true) = ((0 ≤ Y 20 i.toNatClampNeg ∧ ¬ Y 21 i.toNatClampNeg * 8 < Y 0 0) ∧ ¬ ftY Y i (Y 20 i.toNatClampNeg) (Y 21 i.toNatClampNeg) = 0) := propext ⟨fun q => of_decide_eq_true q, fun q => decide_eq_true q⟩
  rw [es] at hP1 hP0
  by_cases c1 : 0 ≤ Y 20 i.toNatClampNeg ∧ ¬ Y 21 i.toNatClampNeg * 8 < Y 0 0
  · have pa := c1.1
    have i30 : i.toNatClampNeg < 30 := a_lt30 ⟨ai.1, Int32.lt_of_lt_of_le ai.2 hy.2.2.2.2.1.2⟩
    obtain ⟨⟨p21, p200, psl⟩, p5⟩ := hy.2.2.2.2.2.2.1 _ i30 pa
    have p6 : Y 20 i.toNatClampNeg < Y 0 6 := (hc.2.1.2.2.2.1 i ai.1 ai.2 pa).1
    have ps : 0 ≤ Y 21 i.toNatClampNeg ∧ Y 21 i.toNatClampNeg ≤ 199 := by
      have := hy.2.2.1 i ai.1 ai.2
      ((try clear hP1); (try clear hP0); (try clear hse); (try clear gA); (try clear gB); (try clear gX); (try clear es))
      grind
    have hcall : a_does (d + 5) 100 [a_rf (C + 14), a_rf a, .int (Y 20 i.toNatClampNeg), .int (Y 21 i.toNatClampNeg)] (n + 1, t, K, L, I, R) (fun r h' => a_at (d + 5) (a_xm a_m145) 21 [some (a_rf (C + 14)), some (a_rf a)] (r.toList ++ []) h' P) := by
      refine ce_firstBar (d := d) hT hc ap ⟨pa, p6⟩ ps (fun J hJ => ?_)
      have hT2 := hJ.1
      have hS2 := hT2.s
      by_cases cf : ftY Y i (Y 20 i.toNatClampNeg) (Y 21 i.toNatClampNeg) = 0
      · have hn := hP0 (fun q => q.2 cf) J hJ
        ((try clear hP1); (try clear hP0); (try clear hc); (try clear ap); (try clear al); (try clear am); (try clear hse); (try clear es))
        simp only [q145_21, q145_24, q145_25, as_nil, as_i, as_r, Nat.reduceAdd, Nat.reduceLeDiff, z_eq0, z_eq1, z_or, z_em, Classical.not_not, not_false_eq_true, not_true_eq_false, true_and, and_true, false_and, and_false, and_self, true_implies, false_implies, implies_true, Option.toList_some, Option.toList_none, List.cons_append, List.nil_append, Nat.add_eq_zero_iff, a_nl_i, a_nl_r, a_nl_n, true_or, or_true, eq_self, a_isRA_22, a_isRA_24, a_isRA_32, a_isA_20, ok_4, ok_5, ok_6, ok_7, ok_9, ok_20, ok_21, ok_30, ok_50, ok_180, ok_192, ok_200, cf]
        try simp only [true_and, and_true, true_implies, false_implies, implies_true, not_true_eq_false, not_false_eq_true]
        first
          | exact hn
          | exact ⟨by decide, hn⟩
          | grind
      · have hcl : a_does (d + 5) 45 [a_rf (C + 14), a_rf a] (n + 1, t, K, L, J, R) (fun r h' => a_at (d + 5) (a_xm a_m145) 31 [some (a_rf (C + 14)), some (a_rf a)] (r.toList ++ []) h' P) := by
          refine ch_clear (d := d) (cH_J hH hT2) (cpP_C hT hc hJ) hse (aaP_C hT ap hJ) haa (pc_lt hT2 (cpP_C hT hc hJ) (tkC_fr hq hT hc (hf_C hJ)).1 hmm pa p6).2 (fun n' t' K' L' J2 R' hH' hQ hc' hse' h15 hz' p1 p2 p3 p4 p5 p7 => ?_) pa
          have hn := hP1 ⟨c1, cf⟩ n' t' K' L' J2 R' hH' (dQ_Q (dQ_C hJ) hQ) hc' hse' h15 (fun x j kx hx => (hz' x j kx hx).trans (dC_at hJ hT kx j)) (tkC_un (tkC_fr hq hT hc (hf_C hJ)) hT2 hH.2.1 (cpP_C hT hc hJ) hse hmm hc' ai pa (hQ.2.2.2.2 _ _ (by have := hH.2.2.1; omega) (by omega) (by omega) (by omega)) p1 p2 p3 p4 p5 p7)
          have hS3 := hH'.1.s
          ((try clear hP1); (try clear hP0); (try clear hc); (try clear ap); (try clear al); (try clear am); (try clear hse); (try clear es); (try clear hc'); (try clear hse'))
          simp only [q145_31, q145_32, as_nil, as_i, as_r, Nat.reduceAdd, Nat.reduceLeDiff, z_eq0, z_eq1, z_or, z_em, Classical.not_not, not_false_eq_true, not_true_eq_false, true_and, and_true, false_and, and_false, and_self, true_implies, false_implies, implies_true, Option.toList_some, Option.toList_none, List.cons_append, List.nil_append, Nat.add_eq_zero_iff, a_nl_i, a_nl_r, a_nl_n, true_or, or_true, eq_self, a_isRA_22, a_isRA_24, a_isRA_32, a_isA_20, ok_4, ok_5, ok_6, ok_7, ok_9, ok_20, ok_21, ok_30, ok_50, ok_180, ok_192, ok_200]
          first
            | exact hn
            | exact ⟨by decide, hn⟩
            | grind
        ((try clear hP1); (try clear hP0); (try clear hc); (try clear ap); (try clear al); (try clear am); (try clear hse); (try clear es))
        simp only [q145_21, q145_24, q145_25, q145_26, q145_27, q145_28, k_14 hS, z_14, as_nil, as_i, as_r, Nat.reduceAdd, Nat.reduceLeDiff, z_eq0, z_eq1, z_or, z_em, Classical.not_not, not_false_eq_true, not_true_eq_false, true_and, and_true, false_and, and_false, and_self, true_implies, false_implies, implies_true, Option.toList_some, Option.toList_none, List.cons_append, List.nil_append, Nat.add_eq_zero_iff, a_nl_i, a_nl_r, a_nl_n, true_or, or_true, eq_self, a_isRA_22, a_isRA_24, a_isRA_32, a_isA_20, ok_4, ok_5, ok_6, ok_7, ok_9, ok_20, ok_21, ok_30, ok_50, ok_180, ok_192, ok_200, cf]
        try simp only [true_and, and_true, true_implies, false_implies, implies_true, not_true_eq_false, not_false_eq_true]
        first
          | exact hcl
          | grind
    ((try clear hP1); (try clear hP0); (try clear hc); (try clear ap); (try clear al); (try clear am); (try clear hse); (try clear es))
    rw [a_enter1 (M := a_m145) rfl (a_cat_rf (a_cat_rf a_cat_nil)) (show 2 ≤ 2 by decide)]
    show a_at _ (a_xm a_m145) 0 [some (a_rf (C + 14)), some (a_rf a)] [] _ _
    simp only [q145_0, q145_1, q145_2, q145_5, q145_8, q145_9, q145_10, q145_11, q145_14, q145_15, q145_18, k_14 hS, z_14, sp_mayMove hS, as_nil, as_i, as_r, Nat.reduceAdd, Nat.reduceLeDiff, z_eq0, z_eq1, z_or, z_em, Classical.not_not, not_false_eq_true, not_true_eq_false, true_and, and_true, false_and, and_false, and_self, true_implies, false_implies, implies_true, Option.toList_some, Option.toList_none, List.cons_append, List.nil_append, Nat.add_eq_zero_iff, a_nl_i, a_nl_r, a_nl_n, true_or, or_true, eq_self, a_isRA_22, a_isRA_24, a_isRA_32, a_isA_20, ok_4, ok_5, ok_6, ok_7, ok_9, ok_20, ok_21, ok_30, ok_50, ok_180, ok_192, ok_200, ha, a0, e13, e14, en, c1, pa]
    try simp only [true_and, and_true, true_implies, false_implies, implies_true, not_true_eq_false, not_false_eq_true]
    first
      | exact hcall
      | grind
  · have hn := hP0 (fun q => c1 q.1) I (dC_refl hT)
    ((try clear hP1); (try clear hP0); (try clear hc); (try clear ap); (try clear al); (try clear am); (try clear hse); (try clear es))
    rw [a_enter1 (M := a_m145) rfl (a_cat_rf (a_cat_rf a_cat_nil)) (show 2 ≤ 2 by decide)]
    show a_at _ (a_xm a_m145) 0 [some (a_rf (C + 14)), some (a_rf a)] [] _ _
    simp only [q145_0, q145_1, q145_2, q145_5, q145_24, q145_25, k_14 hS, z_14, sp_mayMove hS, as_nil, as_i, as_r, Nat.reduceAdd, Nat.reduceLeDiff, z_eq0, z_eq1, z_or, z_em, Classical.not_not, not_false_eq_true, not_true_eq_false, true_and, and_true, false_and, and_false, and_self, true_implies, false_implies, implies_true, Option.toList_some, Option.toList_none, List.cons_append, List.nil_append, Nat.add_eq_zero_iff, a_nl_i, a_nl_r, a_nl_n, true_or, or_true, eq_self, a_isRA_22, a_isRA_24, a_isRA_32, a_isA_20, ok_4, ok_5, ok_6, ok_7, ok_9, ok_20, ok_21, ok_30, ok_50, ok_180, ok_192, ok_200, ha, a0, e13, e14, en, c1]
    try simp only [true_and, and_true, true_implies, false_implies, implies_true, not_true_eq_false, not_false_eq_true]
    first
      | exact hn
      | exact ⟨by decide, hn⟩
      | grind
theorem lh_planAgain_77 (hH : cH C c (n + 1) t K L I R) {n0 : Nat} {K0 : Nat → Nat} {R0 : Nat → Nat → Nat} (hse : seP C R Y) (hQ : ∀ i : Int32, 0 ≤ i → i < Y 0 17 → ¬ Q (R (C + 15) i.toNatClampNeg)) {f : Int32} (hf : 0 ≤ f ∧ f ≤ 202) (ef : Y 0 0 / 8 + 1 = f) {o : Nat → Int32} {m : Nat} {mm : Nat} (hm30 : m ≤ 30) (ho : ∀ j, j < m → odP C R Y o j) (hoi : ∀ i j, i < m → j < m → o i = o j → i = j) {V : (Nat → Nat → Int32) × Nat} (hP : ∀ J, cT C K L J R → cpP C K L J R V.1 → gvC C IB RB WB mm J R V.1 → sbE Y V.1 → fZ C n0 K0 Q I0 R0 (n + 1) K J R → P (some (.int (Int32.ofNat V.2))) (n + 1, t, K, L, J, R)) : ∀ (k i : Nat) (J W : Nat → Nat → Int32) (mv : Nat) (u : Option Value), i + k = m → cT C K L J R → cpP C K L J R W → gvC C IB RB WB mm J R W → sbE Y W → mv ≤ i → J (C + 22) 6 = Int32.ofNat m → fZ C n0 K0 Q I0 R0 (n + 1) K J R → (∀ j, j < m → J (C + 25) (o j).toNatClampNeg = Y 20 (o j).toNatClampNeg ∧ J (C + 26) (o j).toNatClampNeg = Y 21 (o j).toNatClampNeg) → (∀ j, i ≤ j → j < m → ¬ 0 ≤ W 20 (o j).toNatClampNeg) → agM o f 199 Y k i (W, mv) = V → a_at (d + 7) (a_xm a_m144) 77 [some (a_rf (C + 22)), some (.int (Int32.ofNat mv)), some (.int (Int32.ofNat i)), u] [] (n + 1, t, K, L, J, R) P := by
  intro k
  induction k with
  | zero =>
    intro i J W mv u hk hT hc hq hb hmv h6 hz hol hun hV
    have e : (W, mv) = V := hV
    subst e
    have ei : i = m := by omega
    have hp := hP J hT hc hq hb hz
    have hS := hT.s
    rw [ei]
    ((try clear hP); (try clear hc); (try clear hb); (try clear hun); (try clear ho); (try clear hse); (try clear hol); (try clear hH); (try clear hz))
    rw [q144_77]
    simp only [q144_78, q144_79, q144_82, q144_154, q144_155, k_22 hS, z_22, as_nil, as_i, as_r, Nat.reduceAdd, Nat.reduceLeDiff, z_eq0, z_eq1, z_or, z_em, Classical.not_not, not_false_eq_true, not_true_eq_false, true_and, and_true, false_and, and_false, and_self, true_implies, false_implies, implies_true, Option.toList_some, Option.toList_none, List.cons_append, List.nil_append, Nat.add_eq_zero_iff, a_nl_i, a_nl_r, a_nl_n, true_or, or_true, eq_self, a_isRA_22, a_isRA_24, a_isRA_32, a_isA_20, ok_4, ok_5, ok_6, ok_7, ok_9, ok_20, ok_21, ok_30, ok_50, ok_180, ok_192, ok_200, h6]
    first
      | exact hp
      | exact ⟨fun _ => hp, fun q => absurd (Int32.le_refl _) q⟩
      | grind
  | succ k ih =>
    intro i J W mv u hk hT hc hq hb hmv h6 hz hol hun hV
    have hS := hT.s
    have w17 : W 0 17 = Y 0 17 := hb 0 17 (by unfold sb; omega)
    have w00 : W 0 0 = Y 0 0 := hb 0 0 (by unfold sb; omega)
    have hse2 := se_b hse hb
    have him : i < m := by omega
    obtain ⟨q0, q1, q2⟩ := ho i him
    rw [← w17] at q2
    have ap := aa_of hc q1 q2
    have h17 := hc.2.2.2.2.2.2.2.2.1
    have o30 : 0 ≤ o i ∧ o i < 30 := ⟨q1, Int32.lt_of_lt_of_le q2 h17.2⟩
    have un : ¬ 0 ≤ W 20 (o i).toNatClampNeg := hun i (Nat.le_refl _) him
    have hok := on_ok (p := i) (by omega)
    have ei := (on_p (p := i) (by omega)).2.2.1
    have ei1 := (on_p (p := i) (by omega)).2.2.2.2.1
    have ev1 := (on_p (p := mv) (by omega)).2.2.2.2.1
    have nle : ¬ Int32.ofNat m ≤ Int32.ofNat i := Int32.not_le.mpr (by rw [on_lt (by omega) (by omega)]; omega)
    have ka := ap.2.1.1
    have kn := ap.2.1.2.1
    have k0 : (R (C + 15) (o i).toNatClampNeg = 0) = False := eq_false kn
    have n8 : ¬ (8 : Int32) = 0 := by decide
    have enow : J (C + 1) 6 = Y 0 0 := by rw [hc.1.1]; exact w00
    have hold := hol i him
    have hafter : ∀ (v : Int32) (Z : Nat → Nat → Int32), giY W (o i) f 199 true = Z → sbE Y Z → (∀ j, i < j → j < m → ¬ 0 ≤ Z 20 (o j).toNatClampNeg) → ∀ J2, dL C K L R J J2 → aZ K (R (C + 15) (o i).toNatClampNeg) J J2 → cpP C K L J2 R Z → gvC C IB RB WB mm J2 R Z → a_at (d + 7) (a_xm a_m144) 112 [some (a_rf (C + 22)), some (.int (Int32.ofNat mv)), some (.int (Int32.ofNat i)), some (a_rf (R (C + 15) (o i).toNatClampNeg))] [.int v] (n + 1, t, K, L, J2, R) P := fun v Z eZ hbZ hunZ J2 d2 z2 hc2 hq2 => by
      have hT2 := d2.1
      have hS2 := hT2.s
      have e : ∀ k j, k = 22 ∨ k = 25 ∨ k = 26 → J2 (C + k) j = J (C + k) j := fun k j hk => d2.2 _ _ (by omega) (by omega) (by omega)
      have g25 : J2 (C + 25) (o i).toNatClampNeg = Y 20 (o i).toNatClampNeg := by rw [e _ _ (Or.inr (Or.inl rfl))]; exact hold.1
      have g26 : J2 (C + 26) (o i).toNatClampNeg = Y 21 (o i).toNatClampNeg := by rw [e _ _ (Or.inr (Or.inr rfl))]; exact hold.2
      obtain ⟨-, ⟨-, -, a4⟩, -, al⟩ := aa_of hc2 q1 (by rw [hbZ 0 17 (by unfold sb; omega), ← w17]; exact q2)
      have a13 : J2 (R (C + 15) (o i).toNatClampNeg) 13 = Z 20 (o i).toNatClampNeg := al.2.2.2.1.1
      have a14 : J2 (R (C + 15) (o i).toNatClampNeg) 14 = Z 21 (o i).toNatClampNeg := al.2.2.2.1.2
      unfold agM at hV
      have e1 : ∀ (x : Nat → Nat → Int32) (y : Nat), (x, y).1 = x ∧ (x, y).2 = y := fun _ _ => ⟨rfl, rfl⟩
      rw [(e1 _ _).1, (e1 _ _).2, eZ] at hV
      have hn := fun mv2 hmv2 (hv2 : agM o f 199 Y k (i + 1) (Z, mv2) = V) => ih (i + 1) J2 Z mv2 (some (a_rf (R (C + 15) (o i).toNatClampNeg))) (by omega) hT2 hc2 hq2 hbZ hmv2 (by rw [e _ _ (Or.inl rfl)]; exact h6) (fz_L hz hT d2 (hQ _ q1 (by rw [← w17]; exact q2)) z2) (fun j hj => by rw [e _ _ (Or.inr (Or.inl rfl)), e _ _ (Or.inr (Or.inr rfl))]; exact hol j hj) (fun j hj hj2 => hunZ j (by omega) hj2) hv2
      by_cases cs : Z 20 (o i).toNatClampNeg = Y 20 (o i).toNatClampNeg ∧ Z 21 (o i).toNatClampNeg = Y 21 (o i).toNatClampNeg
      · rw [if_pos cs] at hV
        have hn := hn mv (by omega) hV
        obtain ⟨c1, c2⟩ := cs
        ((try clear ih); (try clear hP); (try clear hc); (try clear hb); (try clear hun); (try clear ho); (try clear hse); (try clear hol); (try clear hH); (try clear hV); (try clear hc2); (try clear al); (try clear hbZ); (try clear hunZ))
        simp only [q144_112, q144_113, q144_114, q144_117, q144_118, q144_121, q144_122, q144_125, q144_126, q144_129, q144_130, q144_133, q144_134, q144_137, q144_138, q144_141, q144_142, q144_145, q144_148, q144_151, k_22 hS2, z_22, r_22_4 hS2, k_25 hS2, l_25 hS2, z_25, r_22_5 hS2, k_26 hS2, l_26 hS2, z_26, as_nil, as_i, as_r, Nat.reduceAdd, Nat.reduceLeDiff, z_eq0, z_eq1, z_or, z_em, Classical.not_not, not_false_eq_true, not_true_eq_false, true_and, and_true, false_and, and_false, and_self, true_implies, false_implies, implies_true, Option.toList_some, Option.toList_none, List.cons_append, List.nil_append, Nat.add_eq_zero_iff, a_nl_i, a_nl_r, a_nl_n, true_or, or_true, eq_self, a_isRA_22, a_isRA_24, a_isRA_32, a_isA_20, ok_4, ok_5, ok_6, ok_7, ok_9, ok_20, ok_21, ok_30, ok_50, ok_180, ok_192, ok_200, ka, k0, a4, a13, a14, g25, g26, o30, c1, c2, ei1]
        try simp only [true_and, and_true, true_implies, false_implies, implies_true, not_true_eq_false, not_false_eq_true]
        first
          | exact hn
          | grind
      · rw [if_neg cs] at hV
        have hn := hn (mv + 1) (by omega) hV
        ((try clear ih); (try clear hP); (try clear hc); (try clear hb); (try clear hun); (try clear ho); (try clear hse); (try clear hol); (try clear hH); (try clear hV); (try clear hc2); (try clear al); (try clear hbZ); (try clear hunZ))
        by_cases c1 : Z 20 (o i).toNatClampNeg = Y 20 (o i).toNatClampNeg
        · have c2 : ¬ Z 21 (o i).toNatClampNeg = Y 21 (o i).toNatClampNeg := fun q => cs ⟨c1, q⟩
          simp only [q144_112, q144_113, q144_114, q144_117, q144_118, q144_121, q144_122, q144_125, q144_126, q144_129, q144_130, q144_133, q144_134, q144_137, q144_138, q144_141, q144_142, q144_145, q144_148, q144_151, k_22 hS2, z_22, r_22_4 hS2, k_25 hS2, l_25 hS2, z_25, r_22_5 hS2, k_26 hS2, l_26 hS2, z_26, as_nil, as_i, as_r, Nat.reduceAdd, Nat.reduceLeDiff, z_eq0, z_eq1, z_or, z_em, Classical.not_not, not_false_eq_true, not_true_eq_false, true_and, and_true, false_and, and_false, and_self, true_implies, false_implies, implies_true, Option.toList_some, Option.toList_none, List.cons_append, List.nil_append, Nat.add_eq_zero_iff, a_nl_i, a_nl_r, a_nl_n, true_or, or_true, eq_self, a_isRA_22, a_isRA_24, a_isRA_32, a_isA_20, ok_4, ok_5, ok_6, ok_7, ok_9, ok_20, ok_21, ok_30, ok_50, ok_180, ok_192, ok_200, ka, k0, a4, a13, a14, g25, g26, o30, c1, c2, ei1, ev1]
          try simp only [true_and, and_true, true_implies, false_implies, implies_true, not_true_eq_false, not_false_eq_true]
          first
            | exact hn
            | grind
        · simp only [q144_112, q144_113, q144_114, q144_117, q144_118, q144_121, q144_122, q144_125, q144_126, q144_129, q144_130, q144_133, q144_134, q144_137, q144_138, q144_141, q144_142, q144_145, q144_148, q144_151, k_22 hS2, z_22, r_22_4 hS2, k_25 hS2, l_25 hS2, z_25, r_22_5 hS2, k_26 hS2, l_26 hS2, z_26, as_nil, as_i, as_r, Nat.reduceAdd, Nat.reduceLeDiff, z_eq0, z_eq1, z_or, z_em, Classical.not_not, not_false_eq_true, not_true_eq_false, true_and, and_true, false_and, and_false, and_self, true_implies, false_implies, implies_true, Option.toList_some, Option.toList_none, List.cons_append, List.nil_append, Nat.add_eq_zero_iff, a_nl_i, a_nl_r, a_nl_n, true_or, or_true, eq_self, a_isRA_22, a_isRA_24, a_isRA_32, a_isA_20, ok_4, ok_5, ok_6, ok_7, ok_9, ok_20, ok_21, ok_30, ok_50, ok_180, ok_192, ok_200, ka, k0, a4, a13, a14, g25, g26, o30, c1, ei1, ev1]
          try simp only [true_and, and_true, true_implies, false_implies, implies_true, not_true_eq_false, not_false_eq_true]
          first
            | exact hn
            | grind
    have hcall : a_does (d + 7) 124 [a_rf (C + 22), a_rf (R (C + 15) (o i).toNatClampNeg), .int f, .int 199] (n + 1, t, K, L, J, R) (fun r h' => a_at (d + 7) (a_xm a_m144) 112 [some (a_rf (C + 22)), some (.int (Int32.ofNat mv)), some (.int (Int32.ofNat i)), some (a_rf (R (C + 15) (o i).toNatClampNeg))] (r.toList ++ []) h' P) := by
      refine ch_placeFirst (d := d) hT hc hse2 ap rfl un hq hf (by decide) (fun c2 J2 d2 z2 hc2 hq2 => ?_) (fun c2 J2 d2 => ?_)
      · refine hafter 1 (puY W (o i) (gnY W (o i) f 199).2 (gnY W (o i) f 199).1) (by unfold giY; rw [if_pos ⟨rfl, c2⟩]) (sb_tr hb puY_b) (fun j hj hj2 => ?_) J2 d2 z2 hc2 hq2
        have hne : ¬ (o j).toNatClampNeg = (o i).toNatClampNeg := fun q => by
          have := hoi j i hj2 him (cl_inj (ho j hj2).2.1 q1 q)
          omega
        unfold puY
        rw [if_neg (fun q => hne q.2), if_neg (by omega), if_neg (by omega)]
        exact hun j (by omega) hj2
      · exact hafter 0 W (by unfold giY; rw [if_neg (fun q => c2 q.2)]) hb (fun j hj hj2 => hun j (by omega) hj2) J2 (dL_C (dL_refl hT) d2) (fun x j kx _ => dC_at d2 hT kx j) (cpP_C hT hc d2) (gvC_fr hq hT hc (hf_C d2))
    ((try clear ih); (try clear hP); (try clear hc); (try clear hb); (try clear hun); (try clear ho); (try clear hse); (try clear hse2); (try clear ap); (try clear hol); (try clear hH); (try clear hV); (try clear hafter))
    rw [q144_77]
    simp only [q144_78, q144_79, q144_82, q144_85, q144_86, q144_89, q144_90, q144_91, q144_92, q144_93, q144_94, q144_95, q144_98, q144_101, q144_103, q144_104, q144_105, q144_106, q144_109, k_22 hS, z_22, r_22_2 hS, k_23 hS, l_23 hS, z_23, r_22_1 hS, k_1 hS, z_1, as_nil, as_i, as_r, Nat.reduceAdd, Nat.reduceLeDiff, z_eq0, z_eq1, z_or, z_em, Classical.not_not, not_false_eq_true, not_true_eq_false, true_and, and_true, false_and, and_false, and_self, true_implies, false_implies, implies_true, Option.toList_some, Option.toList_none, List.cons_append, List.nil_append, Nat.add_eq_zero_iff, a_nl_i, a_nl_r, a_nl_n, true_or, or_true, eq_self, a_isRA_22, a_isRA_24, a_isRA_32, a_isA_20, ok_4, ok_5, ok_6, ok_7, ok_9, ok_20, ok_21, ok_30, ok_50, ok_180, ok_192, ok_200, h6, q0, ei, hok, nle, n8, enow, ef]
    try simp only [true_and, and_true, true_implies, false_implies, implies_true, not_true_eq_false, not_false_eq_true]
    first
      | exact hcall
      | grind
theorem lh_planAgain_7 {n0 : Nat} {K0 : Nat → Nat} {R0 : Nat → Nat → Nat} {mm : Nat} (hmm : mm + 30 < 16384) (hN : ∀ n t K L J R1 (u : Int32) v w, cH C c (n + 1) t K L J R1 → cpP C K L J R1 (agP Y).1 → tkC C IB RB WB (mm + 30) J R1 (agP Y).1 → sbE Y (agP Y).1 → seP C R1 Y → J (C + 22) 6 = Int32.ofNat (agP Y).2.2 → (agP Y).2.2 ≤ 30 → (∀ j, j < (agP Y).2.2 → odP C R1 Y (agP Y).2.1 j) → rwP (unB (agP Y).1) (Y 0 17) (agP Y).2 → (∀ x : Int32, 0 ≤ x → x < Y 0 17 → J (C + 25) x.toNatClampNeg = Y 20 x.toNatClampNeg ∧ J (C + 26) x.toNatClampNeg = Y 21 x.toNatClampNeg) → fZ C n0 K0 Q I0 R0 (n + 1) K J R1 → (∀ i : Int32, 0 ≤ i → i < Y 0 17 → ¬ Q (R1 (C + 15) i.toNatClampNeg)) → a_at (d + 7) (a_xm a_m144) 73 [some (a_rf (C + 22)), some (.int u), v, w] [] (n + 1, t, K, L, J, R1) P) : ∀ i : Int32, i ≤ 30 → ∀ n t K L J R1 W u w m o, 0 ≤ i → i ≤ Y 0 17 → cH C c (n + 1) t K L J R1 → cpP C K L J R1 W → tkC C IB RB WB (mm + i.toNatClampNeg) J R1 W → sbE Y W → seP C R1 Y → J (C + 22) 6 = Int32.ofNat m → m ≤ i.toNatClampNeg → (∀ j, j < m → odP C R1 Y o j) → rwP (unB W) i (o, m) → (∀ x : Int32, 0 ≤ x → x < i → J (C + 25) x.toNatClampNeg = Y 20 x.toNatClampNeg ∧ J (C + 26) x.toNatClampNeg = Y 21 x.toNatClampNeg) → (∀ x : Int32, i ≤ x → x < Y 0 17 → W 20 x.toNatClampNeg = Y 20 x.toNatClampNeg ∧ W 21 x.toNatClampNeg = Y 21 x.toNatClampNeg) → fZ C n0 K0 Q I0 R0 (n + 1) K J R1 → (∀ i : Int32, 0 ≤ i → i < Y 0 17 → ¬ Q (R1 (C + 15) i.toNatClampNeg)) → agS ((Y 0 17).toNatClampNeg - i.toNatClampNeg) i (W, o, m) = agP Y → a_at (d + 7) (a_xm a_m144) 7 [some (a_rf (C + 22)), some (.int i), u, w] [] (n + 1, t, K, L, J, R1) P := by
  refine up_ind 30 (fun i i30 ih => ?_)
  intro n t K L J R1 W u w m o h0 h1 hH hc hq hb hse h6 hmi ho hrw hol hW hz hQ hV
  have hT := hH.1
  have hS := hT.s
  have gA := hT.g_asksR
  have gB := hT.g_benchesR
  have gX := hT.g_textsR
  have w17 : W 0 17 = Y 0 17 := hb 0 17 (by unfold sb; omega)
  have h17 := hc.2.2.2.2.2.2.2.2.1
  rw [w17] at h17
  have l30 := cl_le0 h0 (Int32.le_trans h1 h17.2)
  rw [show (30 : Int32).toNatClampNeg = 30 from rfl] at l30
  have e4 : J (C + 14) 4 = Y 0 17 := hc.2.2.1.1.trans w17
  have hexit : ¬ i < Y 0 17 → ∀ v w, a_at (d + 7) (a_xm a_m144) 73 [some (a_rf (C + 22)), some (.int i), v, w] [] (n + 1, t, K, L, J, R1) P := fun c v w => by
    obtain ⟨e1, e2⟩ := lp_end h1 c
    rw [e1] at hV
    have e9 : (W, o, m) = agP Y := hV
    rw [← e9] at hN
    exact hN n t K L J R1 _ v w hH hc (tkC_le hq (by omega)) hb hse h6 (by show m ≤ 30; omega) ho (by rw [← e2]; exact hrw) (by rw [← e2]; exact hol) hz hQ
  have hin : i < Y 0 17 → ∀ v w, a_at (d + 7) (a_xm a_m144) 26 [some (a_rf (C + 22)), some (.int i), v, w] [a_rf (R1 (C + 15) i.toNatClampNeg)] (n + 1, t, K, L, J, R1) P := fun w uv wv => by
    obtain ⟨s1, s2, s3, s4⟩ := lp_st h0 w
    have hi30 : 0 ≤ i ∧ i < 30 := ⟨h0, Int32.lt_of_lt_of_le w h17.2⟩
    have iT := cl_lt h0 w
    have iT3 := cl_lt h0 hi30.2
    rw [show (30 : Int32).toNatClampNeg = 30 from rfl] at iT3
    have ap := aa_of hc h0 (by rw [w17]; exact w)
    obtain ⟨-, ⟨kb, bn, b4⟩, bm, bl⟩ := id ap
    have b0 : (R1 (C + 15) i.toNatClampNeg = 0) = False := eq_false bn
    have f13 : J (R1 (C + 15) i.toNatClampNeg) 13 = Y 20 i.toNatClampNeg := bl.2.2.2.1.1.trans (hW i (Int32.le_refl _) w).1
    have f14 : J (R1 (C + 15) i.toNatClampNeg) 14 = Y 21 i.toNatClampNeg := bl.2.2.2.1.2.trans (hW i (Int32.le_refl _) w).2
    have na : ¬ R1 (C + 15) i.toNatClampNeg = C + 25 := fun e => by have := (hT.g_ask _ kb).1; omega
    have nb : ¬ R1 (C + 15) i.toNatClampNeg = C + 26 := fun e => by have := (hT.g_ask _ kb).1; omega
    rw [s1] at hV
    unfold agS at hV
    have e1 : ∀ (x : Nat → Nat → Int32) (y : (Nat → Int32) × Nat), (x, y).1 = x ∧ (x, y).2 = y := fun _ _ => ⟨rfl, rfl⟩
    have e2 : ∀ (x : Nat → Int32) (y : Nat), (x, y).1 = x ∧ (x, y).2 = y := fun _ _ => ⟨rfl, rfl⟩
    rw [(e1 _ _).1, (e1 _ _).2, (e2 _ _).1, (e2 _ _).2] at hV
    -- the heap with what was had
    have hT1 := sT_Planner_oldBench hT (k := i.toNatClampNeg) (v := Y 20 i.toNatClampNeg)
    have hc1 := cp_sc hT hc (k := 25) (j := i.toNatClampNeg) (v := Y 20 i.toNatClampNeg) (by omega) (by omega)
    have hT2 := sT_Planner_oldShift hT1 (k := i.toNatClampNeg) (v := Y 21 i.toNatClampNeg)
    have hc2 := cp_sc hT1 hc1 (k := 26) (j := i.toNatClampNeg) (v := Y 21 i.toNatClampNeg) (by omega) (by omega)
    have hq1 := tkC_fr (tkC_fr hq hT hc (hf_ui (k := 25) (j := i.toNatClampNeg) (v := Y 20 i.toNatClampNeg) (by omega) (by omega))) hT1 hc1 (hf_ui (k := 26) (j := i.toNatClampNeg) (v := Y 21 i.toNatClampNeg) (by omega) (by omega))
    generalize eJ : a_ui (a_ui J (C + 25) i.toNatClampNeg (Y 20 i.toNatClampNeg)) (C + 26) i.toNatClampNeg (Y 21 i.toNatClampNeg) = J1 at hT2 hc2 hq1
    have hH1 := cH_J hH hT2
    have hz1 : fZ C n0 K0 Q I0 R0 (n + 1) K J1 R1 := by
      rw [← eJ]
      exact fz_ui (fz_ui hz hT (by omega)) hT1 (by omega)
    have h61 : J1 (C + 22) 6 = Int32.ofNat m := by rw [← eJ, ui_ap, if_neg (by omega), ui_ap, if_neg (by omega)]; exact h6
    have hol1 : ∀ x : Int32, 0 ≤ x → x < i + 1 → J1 (C + 25) x.toNatClampNeg = Y 20 x.toNatClampNeg ∧ J1 (C + 26) x.toNatClampNeg = Y 21 x.toNatClampNeg := fun x x0 x1 => by
      rw [← eJ]
      by_cases e : x.toNatClampNeg = i.toNatClampNeg
      · rw [ui_ap, if_neg (by omega), ui_ap, if_pos ⟨rfl, e⟩, ui_ap, if_pos ⟨rfl, e⟩, e]
        exact ⟨rfl, rfl⟩
      · rw [ui_ap, if_neg (by omega), ui_ap, if_neg (fun q => e q.2), ui_ap, if_neg (fun q => e q.2), ui_ap, if_neg (by omega)]
        have := cl_lt x0 x1
        exact hol x x0 (cl_lt2 x0 h0 (by omega))
    have ap2 := aa_of hc2 h0 (by rw [w17]; exact w)
    have hW1 : ∀ x : Int32, i + 1 ≤ x → x < Y 0 17 → W 20 x.toNatClampNeg = Y 20 x.toNatClampNeg ∧ W 21 x.toNatClampNeg = Y 21 x.toNatClampNeg := fun x x0 x1 => hW x (Int32.le_trans (Int32.le_of_lt (cl_lt2 h0 s2 (by omega))) x0) x1
    have hcall : a_does (d + 7) 145 [a_rf (C + 14), a_rf (R1 (C + 15) i.toNatClampNeg)] (n + 1, t, K, L, J1, R1) (fun r h' => a_at (d + 7) (a_xm a_m144) 59 [some (a_rf (C + 22)), some (.int i), some (a_rf (R1 (C + 15) i.toNatClampNeg)), wv] (r.toList ++ []) h' P) := by
      refine ch_clearUnfit (d := d + 1) hH1 hc2 (se_b hse hb) ap2 rfl hq1 (by omega) (fun ag n' t' K' L' J' R' hH' hdQ hc' hse' h15 haz hq2 => ?_) (fun ag J2 d2 => ?_)
      · rw [if_pos ag] at hV
        have hS2 := hH'.1.s
        have hC := hH1.2.2.1
        have k23 : K (C + 23) = 22 := k_23 hS
        have al := kn_lt hH1.2.1 kb (by decide)
        have kb' : K' (R1 (C + 15) i.toNatClampNeg) = 1 := by rw [hdQ.2.1 _ al]; exact kb
        have e6 : ∀ k j, k = 22 ∨ k = 25 ∨ k = 26 → J' (C + k) j = J1 (C + k) j := fun k j hk => hdQ.2.2.2.2 _ _ (by omega) (by omega) (by omega) (by omega)
        have r23 : ∀ j, R' (C + 23) j = R1 (C + 23) j := fun j => hdQ.2.2.2.1 _ _ (by omega) (by rw [k23]; decide)
        have hb' : sbE Y (unY W i) := sb_tr hb unY_b
        have h6' : J' (C + 22) 6 = Int32.ofNat m := (e6 _ _ (Or.inl rfl)).trans h61
        have ho' : ∀ j, j < m → odP C R' (unY W i) o j := fun j hj => od_b hb' (by
          obtain ⟨p1, p2, p3⟩ := ho j hj
          exact ⟨by rw [r23, h15]; exact p1, p2, p3⟩)
        have apE := aa_of hc' h0 (by rw [hb' 0 17 (by unfold sb; omega)]; exact w)
        rw [h15] at apE
        have henter : a_does (d + 7) 120 [a_rf (C + 22), a_rf (R1 (C + 15) i.toNatClampNeg)] (n' + 1, t', K', L', J', R') (fun r h' => a_at (d + 7) (a_xm a_m144) 67 [some (a_rf (C + 22)), some (.int i), some (a_rf (R1 (C + 15) i.toNatClampNeg)), wv] (r.toList ++ []) h' P) := by
          refine ce_enter (d := d + 4) hH'.1 hc' (se_b hse' unY_b) apE (h15 _) (m := m) (by omega) h6' ho' (fun R2 hT3 hr2 ho2 => ?_)
          have hT3' := sT_Planner_orderSize hH'.1 (v := Int32.ofNat (m + 1)) (on_ok2 (by omega))
          have hc3 := cp_rf hT3' (cp_sc hH'.1 hc' (k := 22) (j := 6) (v := Int32.ofNat (m + 1)) (by omega) (by omega)) hr2
          have hse3 : seP C R2 Y := se_b (se_rf hH'.1 hc' (se_b hse' unY_b) hr2) (fun k j p => (hb' k j p).symm)
          have hn := ih hi30.2 n' t' K' L' (a_ui J' (C + 22) 6 (Int32.ofNat (m + 1))) R2 (unY W i) (some (a_rf (R1 (C + 15) i.toNatClampNeg))) wv (m + 1) (inS W i m o) s2 s3 (cH_rf hH' hr2 hT3) hc3 (by rw [s4, ← Nat.add_assoc]; exact tkC_fr (tkC_fr hq2 hH'.1 hc' (hf_ui (by omega) (by omega))) hT3' (cp_sc hH'.1 hc' (k := 22) (j := 6) (v := Int32.ofNat (m + 1)) (by omega) (by omega)) (hf_rf (sT_Planner_orderSize hH'.1 (v := Int32.ofNat (m + 1)) (on_ok2 (by omega))) hr2)) hb' hse3 (by rw [ui_ap, if_pos ⟨rfl, rfl⟩]) (by omega) (fun j hj => by
            obtain ⟨p1, p2, p3⟩ := ho2 j (by omega)
            rw [inS_b unY_b] at p1 p2 p3
            exact ⟨p1, p2, by rw [← hb' 0 17 (by unfold sb; omega)]; exact p3⟩) (rw_in h0 w (decide_eq_true (by rw [un_a (Or.inl rfl)]; decide)) (rw_mono hrw (fun x x0 x1 hq => un_ag h0 x0 hq))) (fun x x0 x1 => by
            rw [ui_ap, if_neg (by omega), ui_ap, if_neg (by omega), e6 _ _ (Or.inr (Or.inl rfl)), e6 _ _ (Or.inr (Or.inr rfl))]
            exact hol1 x x0 x1) (fun x x0 x1 => by
            have hne : ¬ x.toNatClampNeg = i.toNatClampNeg := fun q => by
              have := cl_le0 s2 x0
              omega
            rw [un_o (Or.inr hne), un_o (Or.inr hne)]
            exact hW1 x x0 x1) (fz_rf (fz_ui (fz_Q hz1 hT2 hdQ (hQ i h0 w) haz) hH'.1 (by omega)) hr2) (fun x x0 x1 => by rw [hr2 _ _ (by omega) (by omega) (by omega), h15]; exact hQ x x0 x1) hV
          ((try clear ih); (try clear hN); (try clear hV); (try clear hexit); (try clear hc); (try clear hc1); (try clear hc2); (try clear hc'); (try clear hc3); (try clear ap); (try clear ap2); (try clear apE); (try clear hrw); (try clear ho); (try clear ho'); (try clear ho2); (try clear hol); (try clear hol1); (try clear hW); (try clear hW1); (try clear hse); (try clear hse'); (try clear hse3))
          simp only [q144_67, q144_70, as_nil, as_i, as_r, Nat.reduceAdd, Nat.reduceLeDiff, z_eq0, z_eq1, z_or, z_em, Classical.not_not, not_false_eq_true, not_true_eq_false, true_and, and_true, false_and, and_false, and_self, true_implies, false_implies, implies_true, Option.toList_some, Option.toList_none, List.cons_append, List.nil_append, Nat.add_eq_zero_iff, a_nl_i, a_nl_r, a_nl_n, true_or, or_true, eq_self, a_isRA_22, a_isRA_24, a_isRA_32, a_isA_20, ok_4, ok_5, ok_6, ok_7, ok_9, ok_20, ok_21, ok_30, ok_50, ok_180, ok_192, ok_200]
          exact hn
        ((try clear ih); (try clear hN); (try clear hV); (try clear hexit); (try clear hc); (try clear hc1); (try clear hc2); (try clear hc'); (try clear ap); (try clear ap2); (try clear apE); (try clear hrw); (try clear ho); (try clear ho'); (try clear hol); (try clear hol1); (try clear hW); (try clear hW1); (try clear hse); (try clear hse'))
        simp only [q144_59, q144_62, q144_63, q144_64, k_22 hS2, z_22, as_nil, as_i, as_r, Nat.reduceAdd, Nat.reduceLeDiff, z_eq0, z_eq1, z_or, z_em, Classical.not_not, not_false_eq_true, not_true_eq_false, true_and, and_true, false_and, and_false, and_self, true_implies, false_implies, implies_true, Option.toList_some, Option.toList_none, List.cons_append, List.nil_append, Nat.add_eq_zero_iff, a_nl_i, a_nl_r, a_nl_n, true_or, or_true, eq_self, a_isRA_22, a_isRA_24, a_isRA_32, a_isA_20, ok_4, ok_5, ok_6, ok_7, ok_9, ok_20, ok_21, ok_30, ok_50, ok_180, ok_192, ok_200, kb', b0]
        try simp only [true_and, and_true, true_implies, false_implies, implies_true, not_true_eq_false, not_false_eq_true]
        first
          | exact henter
          | grind
      · rw [if_neg ag] at hV
        have hS2 := d2.1.s
        have e6 : ∀ k j, k = 22 ∨ k = 25 ∨ k = 26 → J2 (C + k) j = J1 (C + k) j := fun k j hk => d2.2 _ _ (by omega) (by omega)
        have hn := ih hi30.2 n t K L J2 R1 W (some (a_rf (R1 (C + 15) i.toNatClampNeg))) wv m o s2 s3 (cH_J hH1 d2.1) (cpP_C hT2 hc2 d2) (tkC_le (tkC_fr hq1 hT2 hc2 (hf_C d2)) (by omega)) hb hse ((e6 _ _ (Or.inl rfl)).trans h61) (by omega) ho (rw_up h0 w hrw) (fun x x0 x1 => by
          rw [e6 _ _ (Or.inr (Or.inl rfl)), e6 _ _ (Or.inr (Or.inr rfl))]
          exact hol1 x x0 x1) hW1 (fz_C hz1 hT2 d2) hQ hV
        ((try clear ih); (try clear hN); (try clear hV); (try clear hexit); (try clear hc); (try clear hc1); (try clear hc2); (try clear ap); (try clear ap2); (try clear hrw); (try clear ho); (try clear hol); (try clear hol1); (try clear hW); (try clear hW1); (try clear hse))
        simp only [q144_59, q144_67, q144_70, as_nil, as_i, as_r, Nat.reduceAdd, Nat.reduceLeDiff, z_eq0, z_eq1, z_or, z_em, Classical.not_not, not_false_eq_true, not_true_eq_false, true_and, and_true, false_and, and_false, and_self, true_implies, false_implies, implies_true, Option.toList_some, Option.toList_none, List.cons_append, List.nil_append, Nat.add_eq_zero_iff, a_nl_i, a_nl_r, a_nl_n, true_or, or_true, eq_self, a_isRA_22, a_isRA_24, a_isRA_32, a_isA_20, ok_4, ok_5, ok_6, ok_7, ok_9, ok_20, ok_21, ok_30, ok_50, ok_180, ok_192, ok_200]
        try simp only [true_and, and_true, true_implies, false_implies, implies_true, not_true_eq_false, not_false_eq_true]
        first
          | exact hn
          | grind
    ((try clear ih); (try clear hN); (try clear hV); (try clear hexit); (try clear hc); (try clear hc1); (try clear hc2); (try clear ap); (try clear ap2); (try clear hrw); (try clear ho); (try clear hol); (try clear hol1); (try clear hW); (try clear hW1); (try clear hse); (try clear bl); (try clear bm))
    simp only [q144_26, q144_27, q144_28, q144_31, q144_32, q144_35, q144_36, q144_37, q144_40, q144_41, q144_42, q144_45, q144_46, q144_47, q144_50, q144_51, q144_52, q144_55, q144_56, k_22 hS, z_22, r_22_4 hS, k_25 hS, l_25 hS, z_25, r_22_5 hS, k_26 hS, l_26 hS, z_26, r_22_0 hS, k_14 hS, z_14, as_nil, as_i, as_r, Nat.reduceAdd, Nat.reduceLeDiff, z_eq0, z_eq1, z_or, z_em, Classical.not_not, not_false_eq_true, not_true_eq_false, true_and, and_true, false_and, and_false, and_self, true_implies, false_implies, implies_true, Option.toList_some, Option.toList_none, List.cons_append, List.nil_append, Nat.add_eq_zero_iff, a_nl_i, a_nl_r, a_nl_n, true_or, or_true, eq_self, a_isRA_22, a_isRA_24, a_isRA_32, a_isA_20, ok_4, ok_5, ok_6, ok_7, ok_9, ok_20, ok_21, ok_30, ok_50, ok_180, ok_192, ok_200, ui_ap, cc_ne, cc_n0, cc_0n, Nat.reduceEqDiff, reduceIte, if_true, if_false, kb, b0, na, nb, hi30, f13, f14, eJ]
    try simp only [true_and, and_true, true_implies, false_implies, implies_true, not_true_eq_false, not_false_eq_true]
    first
      | exact hcall
      | grind
  ((try clear ih); (try clear hN); (try clear hV); (try clear hc); (try clear hrw); (try clear ho); (try clear hol); (try clear hW); (try clear hse))
  rw [q144_7]
  repeat' first
    | with_reducible apply And.intro
    | with_reducible assumption
    | with_reducible intro _
    | refine hexit ?_ _ _
    | refine hin ?_ _ _
    | simp only [q144_8, q144_9, q144_12, q144_15, q144_18, q144_19, q144_22, q144_23, k_22 hS, z_22, r_22_0 hS, k_14 hS, z_14, sp_askAt hS gA, as_nil, as_i, as_r, Nat.reduceAdd, Nat.reduceLeDiff, z_eq0, z_eq1, z_or, z_em, Classical.not_not, not_false_eq_true, not_true_eq_false, true_and, and_true, false_and, and_false, and_self, true_implies, false_implies, implies_true, Option.toList_some, Option.toList_none, List.cons_append, List.nil_append, Nat.add_eq_zero_iff, a_nl_i, a_nl_r, a_nl_n, true_or, or_true, eq_self, a_isRA_22, a_isRA_24, a_isRA_32, a_isA_20, ok_4, ok_5, ok_6, ok_7, ok_9, ok_20, ok_21, ok_30, ok_50, ok_180, ok_192, ok_200, e4]
  all_goals ((try clear hexit); (try clear hin); (try clear hT); (try clear hS); (try clear gA); (try clear gB); (try clear gX); grind [ui_ap])
theorem ch_planAgain (hH : cH C c (n + 1) t K L I R) (hc : cpP C K L I R Y) (hse : seP C R Y) (hQ : ∀ i : Int32, 0 ≤ i → i < Y 0 17 → ¬ Q (R (C + 15) i.toNatClampNeg)) {mm : Nat} (hq : tkC C IB RB WB mm I R Y) (hmm : mm + 30 < 16384) (hP : ∀ JB RB2 n' t' K' L' J R', cH C c (n' + 1) t' K' L' J R' → cpP C K' L' J R' (agY Y).1 → tkC C IB RB WB (mm + 30) JB RB2 (agP Y).1 → gvC C JB RB2 (agP Y).1 (mm + 30) J R' (agY Y).1 → sbE Y (agY Y).1 → seP C R' Y → fZ C (n + 1) K Q I R (n' + 1) K' J R' → P (some (.int (Int32.ofNat (agY Y).2))) (n' + 1, t', K', L', J, R')) : a_does (d + 8) 144 [a_rf (C + 22)] (n + 1, t, K, L, I, R) P := by
  have hT := hH.1
  have hS := hT.s
  have h17 := hc.2.2.2.2.2.2.2.2.1
  have hnow : 0 ≤ Y 0 0 ∧ Y 0 0 ≤ 1600 := by rw [← hc.1.1]; exact hT.g_now
  have hf := now8s hnow
  have hT1 := sT_Planner_orderSize hT (v := 0) (by decide)
  have hc1 := cp_sc hT hc (k := 22) (j := 6) (v := 0) (by omega) (by omega)
  have hl := fun u w => lh_planAgain_7 (d := d) (c := c) (P := P) (Y := Y) (Q := Q) (I0 := I) (n0 := n + 1) (K0 := K) (R0 := R) (IB := IB) (RB := RB) (WB := WB) hmm (fun n' t' K' L' J' R1 u v w hH' hc' hq' hb' hse' h6' hm' ho' hrw' hol' hz' hQ' => by
    have hS' := hH'.1.s
    have hg := lh_planAgain_77 (d := d) (n := n') (t := t') (P := P) (Q := Q) (I0 := I) (n0 := n + 1) (K0 := K) (R0 := R) hH' hse' hQ' hf rfl (o := (agP Y).2.1) hm' ho' hrw'.2 (V := agY Y) (fun J2 hT2 hc2 hg2 hb2 hz2 => hP J' R1 n' t' K' L' J2 R1 (cH_J hH' hT2) hc2 hq' hg2 hb2 hse' hz2) (agP Y).2.2 0 J' (agP Y).1 0 w (by omega) hH'.1 hc' (gvC_0 hc' hq'.1) hb' (Nat.le_refl _) h6' hz' (fun j hj => hol' _ (ho' j hj).2.1 (ho' j hj).2.2) (fun j _ hj => of_decide_eq_true (hrw'.1 j hj).2) rfl
    have e0 : Int32.ofNat 0 = 0 := rfl
    rw [e0] at hg
    ((try clear hP); (try clear hc); (try clear hc'); (try clear hc1); (try clear hse); (try clear hse'); (try clear ho'); (try clear hrw'); (try clear hol'))
    simp only [q144_73, q144_74, q144_75, q144_76, as_nil, as_i, as_r, Nat.reduceAdd, Nat.reduceLeDiff, z_eq0, z_eq1, z_or, z_em, Classical.not_not, not_false_eq_true, not_true_eq_false, true_and, and_true, false_and, and_false, and_self, true_implies, false_implies, implies_true, Option.toList_some, Option.toList_none, List.cons_append, List.nil_append, Nat.add_eq_zero_iff, a_nl_i, a_nl_r, a_nl_n, true_or, or_true, eq_self, a_isRA_22, a_isRA_24, a_isRA_32, a_isA_20, ok_4, ok_5, ok_6, ok_7, ok_9, ok_20, ok_21, ok_30, ok_50, ok_180, ok_192, ok_200]
    exact hg) 0 (by decide) n t K L (a_ui I (C + 22) 6 0) R Y u w 0 (fun _ => 0) (by decide) h17.1 (cH_J hH hT1) hc1 (tkC_le (tkC_fr hq hT hc (hf_ui (by omega) (by omega))) (Nat.le_add_right _ _)) (fun _ _ _ => rfl) hse (by rw [ui_ap, if_pos ⟨rfl, rfl⟩]; rfl) (Nat.zero_le _) (fun j hj => absurd hj (Nat.not_lt_zero j)) rw_0 (fun x x0 x1 => absurd (Int32.lt_of_le_of_lt x0 x1) (by decide)) (fun x _ _ => ⟨rfl, rfl⟩) (fz_ui (fz_refl hH) hT (by omega)) hQ (by rw [lp_0]; rfl)
  ((try clear hP); (try clear hc); (try clear hc1); (try clear hse))
  rw [a_enter1 (M := a_m144) rfl (a_cat_rf a_cat_nil) (show 1 ≤ 4 by decide)]
  show a_at _ (a_xm a_m144) 0 [some (a_rf (C + 22)), none, none, none] [] _ _
  simp only [q144_0, q144_1, q144_2, q144_5, q144_6, k_22 hS, z_22, as_nil, as_i, as_r, Nat.reduceAdd, Nat.reduceLeDiff, z_eq0, z_eq1, z_or, z_em, Classical.not_not, not_false_eq_true, not_true_eq_false, true_and, and_true, false_and, and_false, and_self, true_implies, false_implies, implies_true, Option.toList_some, Option.toList_none, List.cons_append, List.nil_append, Nat.add_eq_zero_iff, a_nl_i, a_nl_r, a_nl_n, true_or, or_true, eq_self, a_isRA_22, a_isRA_24, a_isRA_32, a_isA_20, ok_4, ok_5, ok_6, ok_7, ok_9, ok_20, ok_21, ok_30, ok_50, ok_180, ok_192, ok_200]
  exact hl _ _
end HG0
end

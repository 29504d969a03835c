/-! the reference: the RING is found -/
section ZGG
variable {d n t M : Nat} {K L : Nat → Nat} {I I0 J J0 J1 J2 : Nat → Nat → Int32} {R : Nat → Nat → Nat} {P : Option Value → AH → Prop} {f : Nat → Int32} {e : Int32}
variable {Y Z W : Nat → Nat → Int32} {g w v : Nat → Int32}
def rpP (Y : Nat → Nat → Int32) (p : Nat) (w : Nat → Int32) : Prop := (∀ k, k < p → (0 ≤ w k ∧ w k < Y 0 17) ∧ mvY Y (w k)) ∧ (∀ k, k + 1 < p → w 0 < w (k + 1) ∧ ¬ Y 47 (30 * w k + w (k + 1)).toNatClampNeg = 0 ∧ Y 10 (w (k + 1)).toNatClampNeg = Y 10 (w 0).toNatClampNeg) ∧ ∀ i j, i < j → j < p → ¬ Y 8 (w i).toNatClampNeg = Y 8 (w j).toNatClampNeg
def bkP (Y : Nat → Nat → Int32) (m : Nat) (w : Nat → Int32) (i : Nat) : Prop := ∀ k, k < i → blR Y m k w (w k)
theorem bl_c {m a : Nat} {x : Int32} (e : ∀ j, j < a → v j = w j) (h : blR Y m a w x) : blR Y m a v x := fun t ht => h t (fun j hj => (ht j hj).trans (e j hj))
theorem bk_c {m i : Nat} (e : ∀ j, j < i → v j = w j) (h : bkP Y m w i) : bkP Y m v i := fun k hk => by
  rw [e k hk]
  exact bl_c (fun j hj => e j (by omega)) (h k hk)
theorem rp_c {p : Nat} (e : ∀ j, j < p → v j = w j) (h : rpP Y p w) : rpP Y p v := by
  refine ⟨fun k hk => by rw [e k hk]; exact h.1 k hk, fun k hk => by rw [e 0 (by omega), e k (by omega), e _ hk]; exact h.2.1 k hk, fun i j hi hj => by rw [e i (by omega), e j hj]; exact h.2.2 i j hi hj⟩
theorem rp_up {p : Nat} (h : rpP Y p w) (hr : 0 ≤ w p ∧ w p < Y 0 17) (hn : mnP Y w p (w p)) : rpP Y (p + 1) w := by
  refine ⟨fun k hk => ?_, fun k hk => ?_, fun i j hi hj => ?_⟩
  · by_cases e : k = p
    · rw [e]; exact ⟨hr, hn.1⟩
    · exact h.1 k (by omega)
  · by_cases e : k + 1 = p
    · have := hn.2.1.resolve_left (by omega)
      rw [show p - 1 = k by omega] at this
      rw [e]
      exact this
    · exact h.2.1 k (by omega)
  · by_cases e : j = p
    · rw [e]; exact (hn.2.2 i (by omega)).2
    · exact h.2.2 i j hi (by omega)
theorem mn_of {m p : Nat} {t : Nat → Int32} {a : Int32} (r : rgA Y m t) (hp : p < m) (e : ∀ j, j < p → t j = w j) (ea : t p = a) : mnP Y w p a := by
  subst ea
  refine ⟨(r.1.1 p hp).2, ?_, fun k hk => ?_⟩
  · by_cases c : p = 0
    · exact Or.inl c
    · have := r.1.2.1 (p - 1) (by omega)
      rw [show p - 1 + 1 = p by omega, e 0 (by omega), e (p - 1) (by omega)] at this
      exact Or.inr this
  · have := r.1.2.2.1 k p hk hp
    rw [e k hk] at this
    exact ⟨fun q => this (by rw [q]), this⟩
theorem rp_rg {m : Nat} (h : rpP Y m w) (cl : ¬ Y 47 (30 * w (m - 1) + w 0).toNatClampNeg = 0) : rgS Y m w := ⟨h.1, h.2.1, h.2.2, cl⟩
theorem ok_b5 (hm : okY Y) {m : Nat} (ty : tyP Y m g) : ∀ k, k < m → (0 ≤ Y 20 (g k).toNatClampNeg ∧ Y 20 (g k).toNatClampNeg ≤ 5) ∧ (0 ≤ Y 21 (g k).toNatClampNeg ∧ Y 21 (g k).toNatClampNeg ≤ 199) ∧ Y 21 (g k).toNatClampNeg + Y 10 (g 0).toNatClampNeg ≤ 200 := fun k hk => by
  obtain ⟨⟨a0, a1⟩, pa⟩ := ty.1 k hk
  have e10 := ty.2.2 k hk
  have l1 := hm.1.2.2.1 _ a0 a1
  have l4 := (hm.1.2.1 (g k).toNatClampNeg).2
  obtain ⟨⟨p1, p2, p3⟩, p4⟩ := hm.2.1.2.2.2.1 _ (a_lt30 ⟨a0, Int32.lt_of_lt_of_le a1 hm.1.2.2.2.2.1.2⟩) pa
  rw [e10] at p3 l1 l4
  exact ⟨⟨pa, p4⟩, ⟨p1, by clear hm ty; grind⟩, p3⟩
theorem gs_rq (hg : gs M I0 J1 Y) (h : rqP M J1 J) : gs M I0 J Y := ⟨h.1, fun x j hx => (h.2 x j (by unfold sC; omega) (by omega) (by omega) (by omega)).trans (hg.2.1 x j hx), psE_tr hg.2.2 (psE_of (fun k j p => h.2 _ _ (by unfold sC; unfold ps1 at p; omega) (by unfold ps1 at p; omega) (by unfold ps1 at p; omega) (by unfold ps1 at p; omega)))⟩
theorem mF_rq {c : Nat} (hF : mF M c I0 J1) (h : rqP M J1 J) : mF M c I0 J := mF_Q hF ⟨h.1, fun x j a _ b e f => h.2 x j a b e f⟩
theorem xt_findRing_29 (hS : m_S M K L R) (hm : okY Y) (hg : gs M I0 J Y) {m i : Int32} (hi : 0 ≤ i ∧ i ≤ 4) {mm : Nat} (him : i.toNatClampNeg < mm) (rp : rpP Y i.toNatClampNeg (J (M + 48))) (hN : ∀ a : Int32, 0 ≤ a → a ≤ Y 0 17 → J (M + 48) i.toNatClampNeg < a → blR Y mm i.toNatClampNeg (J (M + 48)) a → (a < Y 0 17 → mnP Y (J (M + 48)) i.toNatClampNeg a) → a_at (d + 11) (a_xm a_m252) 52 [some (a_rf M), some (.int m), some (.int i), some (.int a)] [] (n, t, K, L, J, R) P) : ∀ a : Int32, a ≤ 30 → 0 ≤ a → a ≤ Y 0 17 → J (M + 48) i.toNatClampNeg < a → blR Y mm i.toNatClampNeg (J (M + 48)) a → a_at (d + 11) (a_xm a_m252) 29 [some (a_rf M), some (.int m), some (.int i), some (.int a)] [] (n, t, K, L, J, R) P := by
  have h17 := hm.1.2.2.2.2.1
  refine up_ind 30 (fun a ha ih => ?_)
  intro h0 h1 hlt hbl
  have e17 : J M 17 = Y 0 17 := hg.2.2.1 0 17 (by unfold ps1; omega)
  rw [q252_29]
  by_cases c2 : a < Y 0 17
  · have a30 : a < 30 := Int32.lt_of_lt_of_le c2 h17.2
    have c' : ¬ Y 0 17 ≤ a := Int32.not_le.mpr c2
    obtain ⟨t1, t2, t3, t4⟩ := lp_st h0 c2
    have hcall := xt_mayBeNext (d := d + 9) (n := n) (t := t) (K := K) (L := L) (R := R) hS hm hg (a := a) ⟨h0, c2⟩ ⟨hi.1, Int32.le_trans hi.2 (by decide)⟩ (g := (J (M + 48))) (fun k hk => ⟨rfl, (rp.1 k hk).1⟩) (P := fun r' h' => a_at (d + 11) (a_xm a_m252) 43 [some (a_rf M), some (.int m), some (.int i), some (.int a)] (r'.toList ++ []) h' P) (fun v hv hvv => by
      by_cases c3 : v = 1
      · have hp := hN a h0 h1 hlt hbl (fun _ => hvv.mp c3)
        clear ih hN hbl rp hvv hm hg
        simp only [q252_43, as_nil, as_i, as_r, Nat.reduceAdd, Nat.reduceLeDiff, z_eq0, z_eq1, z_or, z_em, Classical.not_not, not_false_eq_true, not_true_eq_false, true_and, and_true, false_and, and_false, and_self, true_implies, false_implies, implies_true, Option.toList_some, Option.toList_none, List.cons_append, List.nil_append, Nat.add_eq_zero_iff, a_nl_i, a_nl_r, a_nl_n, true_or, or_true, eq_self, ok_4, ok_5, ok_6, ok_7, ok_9, ok_10, ok_20, ok_21, ok_24, ok_30, ok_48, ok_50, ok_60, ok_80, ok_120, ok_180, ok_192, ok_200, ok_900, ok_1000, ok_84000, c3]
        try simp only [true_and, and_true, true_implies, false_implies, implies_true, not_true_eq_false, not_false_eq_true]
        first
          | exact hp
          | grind
      · have v0 := hv.resolve_right c3
        have hp := ih a30 t2 t3 (by clear ih hN hbl rp hvv hm hg; grind) (bl_up a30 hbl (fun t ht et r => c3 (hvv.mpr (mn_of r him ht et))))
        clear ih hN hbl rp hvv hm hg
        simp only [q252_43, q252_46, q252_49, as_nil, as_i, as_r, Nat.reduceAdd, Nat.reduceLeDiff, z_eq0, z_eq1, z_or, z_em, Classical.not_not, not_false_eq_true, not_true_eq_false, true_and, and_true, false_and, and_false, and_self, true_implies, false_implies, implies_true, Option.toList_some, Option.toList_none, List.cons_append, List.nil_append, Nat.add_eq_zero_iff, a_nl_i, a_nl_r, a_nl_n, true_or, or_true, eq_self, ok_4, ok_5, ok_6, ok_7, ok_9, ok_10, ok_20, ok_21, ok_24, ok_30, ok_48, ok_50, ok_60, ok_80, ok_120, ok_180, ok_192, ok_200, ok_900, ok_1000, ok_84000, v0]
        try simp only [true_and, and_true, true_implies, false_implies, implies_true, not_true_eq_false, not_false_eq_true]
        first
          | exact hp
          | grind)
    clear ih hN hbl rp hm hg
    simp only [q252_30, q252_31, q252_34, q252_37, q252_38, q252_39, q252_40, m_0 hS, m_K hS, as_nil, as_i, as_r, Nat.reduceAdd, Nat.reduceLeDiff, z_eq0, z_eq1, z_or, z_em, Classical.not_not, not_false_eq_true, not_true_eq_false, true_and, and_true, false_and, and_false, and_self, true_implies, false_implies, implies_true, Option.toList_some, Option.toList_none, List.cons_append, List.nil_append, Nat.add_eq_zero_iff, a_nl_i, a_nl_r, a_nl_n, true_or, or_true, eq_self, ok_4, ok_5, ok_6, ok_7, ok_9, ok_10, ok_20, ok_21, ok_24, ok_30, ok_48, ok_50, ok_60, ok_80, ok_120, ok_180, ok_192, ok_200, ok_900, ok_1000, ok_84000, e17, c']
    try simp only [true_and, and_true, true_implies, false_implies, implies_true, not_true_eq_false, not_false_eq_true]
    first
      | exact hcall
      | grind
  · have hp := hN a h0 h1 hlt hbl (fun h => absurd h c2)
    have c' : Y 0 17 ≤ a := Int32.not_lt.mp c2
    clear ih hN hbl rp hm hg
    simp only [q252_30, q252_31, q252_34, m_0 hS, m_K hS, as_nil, as_i, as_r, Nat.reduceAdd, Nat.reduceLeDiff, z_eq0, z_eq1, z_or, z_em, Classical.not_not, not_false_eq_true, not_true_eq_false, true_and, and_true, false_and, and_false, and_self, true_implies, false_implies, implies_true, Option.toList_some, Option.toList_none, List.cons_append, List.nil_append, Nat.add_eq_zero_iff, a_nl_i, a_nl_r, a_nl_n, true_or, or_true, eq_self, ok_4, ok_5, ok_6, ok_7, ok_9, ok_10, ok_20, ok_21, ok_24, ok_30, ok_48, ok_50, ok_60, ok_80, ok_120, ok_180, ok_192, ok_200, ok_900, ok_1000, ok_84000, e17, c']
    try simp only [true_and, and_true, true_implies, false_implies, implies_true, not_true_eq_false, not_false_eq_true]
    first
      | exact hp
      | grind
theorem xt_findRing_16 {c : Nat} (hS : m_S M K L R) {I1 : Nat → Nat → Int32} (hm : okY Y) {m : Int32} (hm25 : 2 ≤ m ∧ m ≤ 5) (hno : ∀ z t, 2 ≤ z → z < m.toNatClampNeg → ¬ rgA Y z t) (hN : ∀ J i a, mF M c I1 J → gs M I0 J Y → (∀ t, ¬ rgA Y m.toNatClampNeg t) → a_at (d + 11) (a_xm a_m252) 129 [some (a_rf M), some (.int m), some (.int i), a] [] (n, t, K, L, J, R) P) (hP : ∀ J, mF M c I1 J → gs M I0 J Y → J M 74 = m → rgR Y m.toNatClampNeg (J (M + 48)) → P none (n, t, K, L, J, R)) : ∀ (z : Nat) J i a, mu (Y 0 17) (J (M + 48)) i < z → -1 ≤ i ∧ i < m → mF M c I1 J → gs M I0 J Y → (i < 0 → ∀ t, ¬ rgA Y m.toNatClampNeg t) → (0 ≤ i → (rpP Y i.toNatClampNeg (J (M + 48)) ∧ bkP Y m.toNatClampNeg (J (M + 48)) i.toNatClampNeg ∧ blR Y m.toNatClampNeg i.toNatClampNeg (J (M + 48)) (J (M + 48) i.toNatClampNeg + 1)) ∧ (-1 ≤ J (M + 48) i.toNatClampNeg ∧ J (M + 48) i.toNatClampNeg < Y 0 17)) → a_at (d + 11) (a_xm a_m252) 16 [some (a_rf M), some (.int m), some (.int i), a] [] (n, t, K, L, J, R) P := by
  have h17 := hm.1.2.2.2.2.1
  have mn1 : 1 < m.toNatClampNeg := cl_lt (i := 1) (by decide) (Int32.lt_of_lt_of_le (by decide) hm25.1)
  have mn6 : m.toNatClampNeg < 6 := cl_lt (j := 6) (Int32.le_trans (by decide) hm25.1) (Int32.lt_of_le_of_lt hm25.2 (by decide))
  intro z
  induction z with
  | zero => intro J i a hz; omega
  | succ z ih =>
  intro J i a hz hi hF hg hneg hpos
  rw [q252_16]
  by_cases ci : i < 0
  · have hp := hN J i a hF hg (hneg ci)
    clear ih hN hP hneg hpos hno hm hg hF
    simp only [q252_17, as_nil, as_i, as_r, Nat.reduceAdd, Nat.reduceLeDiff, z_eq0, z_eq1, z_or, z_em, Classical.not_not, not_false_eq_true, not_true_eq_false, true_and, and_true, false_and, and_false, and_self, true_implies, false_implies, implies_true, Option.toList_some, Option.toList_none, List.cons_append, List.nil_append, Nat.add_eq_zero_iff, a_nl_i, a_nl_r, a_nl_n, true_or, or_true, eq_self, ok_4, ok_5, ok_6, ok_7, ok_9, ok_10, ok_20, ok_21, ok_24, ok_30, ok_48, ok_50, ok_60, ok_80, ok_120, ok_180, ok_192, ok_200, ok_900, ok_1000, ok_84000, ci]
    try simp only [true_and, and_true, true_implies, false_implies, implies_true, not_true_eq_false, not_false_eq_true]
    first
      | exact hp
      | grind
  have h0 : 0 ≤ i := Int32.not_lt.mp ci
  obtain ⟨⟨rp, bk, bl⟩, hr⟩ := hpos h0
  have hi4 : i ≤ 4 := by clear ih hN hP hneg hpos hno hm hg hF rp bk bl; grind
  have i6 : 0 ≤ i ∧ i < 6 := ⟨h0, Int32.lt_of_le_of_lt hi4 (by decide)⟩
  have him : i.toNatClampNeg < m.toNatClampNeg := cl_lt h0 hi.2
  have hpA : 0 ≤ Y 0 17 ∧ Y 0 17 ≤ 48 := ⟨h17.1, Int32.le_trans h17.2 (by decide)⟩
  have w0 : 0 ≤ J (M + 48) i.toNatClampNeg + 1 ∧ J (M + 48) i.toNatClampNeg + 1 ≤ Y 0 17 ∧ J (M + 48) i.toNatClampNeg < J (M + 48) i.toNatClampNeg + 1 ∧ J (M + 48) i.toNatClampNeg + 1 ≤ 30 := by clear ih hN hP hneg hpos hno hm hg hF rp bk bl; grind
  have hl := xt_findRing_29 (d := d) (n := n) (t := t) (P := P) (m := m) hS hm hg ⟨h0, hi4⟩ him rp (fun a2 p0 p1 p2 pb p3 => by
    have hF1 : mF M c I1 (a_ui J (M + 48) i.toNatClampNeg a2) := sF_ringAsk hF
    have hg1 : gs M I0 (a_ui J (M + 48) i.toNatClampNeg a2) Y := gs_ui hg (sR_ringAsk hg.1) (by omega) ⟨by unfold ps1; omega, by omega⟩
    have f1 : ∀ k, ¬ k = i.toNatClampNeg → (a_ui J (M + 48) i.toNatClampNeg a2) (M + 48) k = J (M + 48) k := fun k hk => by rw [ui_ap, if_neg (fun e => hk e.2)]
    have f2 : (a_ui J (M + 48) i.toNatClampNeg a2) (M + 48) i.toNatClampNeg = a2 := by rw [ui_ap, if_pos ⟨rfl, rfl⟩]
    have e17 : J M 17 = Y 0 17 := hg.2.2.1 0 17 (by unfold ps1; omega)
    have hsl : (a_ui J (M + 48) i.toNatClampNeg a2) M 17 = Y 0 17 := hg1.2.2.1 0 17 (by unfold ps1; omega)
    have hmain : a_at (d + 11) (a_xm a_m252) 59 [some (a_rf M), some (.int m), some (.int i), some (.int a2)] [] (n, t, K, L, (a_ui J (M + 48) i.toNatClampNeg a2), R) P := by
      revert hF1 hg1 f1 f2 hsl
      generalize a_ui J (M + 48) i.toNatClampNeg a2 = J1
      intro hF1 hg1 f1 f2 hsl
      have rp1 : rpP Y i.toNatClampNeg (J1 (M + 48)) := rp_c (fun j hj => f1 j (by omega)) rp
      have bk1 : bkP Y m.toNatClampNeg (J1 (M + 48)) i.toNatClampNeg := bk_c (fun j hj => f1 j (by omega)) bk
      have bl1 : blR Y m.toNatClampNeg i.toNatClampNeg (J1 (M + 48)) a2 := bl_c (fun j hj => f1 j (by omega)) pb
      by_cases ca : a2 < Y 0 17
      · have hn := p3 ca
        have hn1 : mnP Y (J1 (M + 48)) i.toNatClampNeg (J1 (M + 48) i.toNatClampNeg) := by
          rw [f2]
          refine ⟨hn.1, ?_, fun k hk => by rw [f1 k (by omega)]; exact hn.2.2 k hk⟩
          by_cases e : i.toNatClampNeg = 0
          · exact Or.inl e
          · rw [f1 0 (by omega), f1 _ (by omega)]
            exact Or.inr (hn.2.1.resolve_left e)
        have rp2 : rpP Y (i.toNatClampNeg + 1) (J1 (M + 48)) := rp_up rp1 (by rw [f2]; exact ⟨p0, ca⟩) hn1
        have hstay : mu (Y 0 17) (J1 (M + 48)) i < z := Nat.lt_of_lt_of_le (mu_stay (w := (J (M + 48))) h0 hi4 hpA ⟨hr.1, by rw [f2]; exact p2, by rw [f2]; exact p1⟩ (fun k hk => f1 k (by omega))) (by omega)
        have nea : ¬ a2 = Y 0 17 := fun e => absurd ca (by rw [e]; exact Int32.lt_irrefl)
        obtain ⟨t1, t2, t3, t4⟩ := lp_st h0 hi.2
        have w1b : -1 ≤ J1 (M + 48) i.toNatClampNeg ∧ J1 (M + 48) i.toNatClampNeg < Y 0 17 := by rw [f2]; exact ⟨Int32.le_trans (by decide) p0, ca⟩
        by_cases cm : i + 1 < m
        · have im2 : (i + 1).toNatClampNeg < m.toNatClampNeg := cl_lt t2 cm
          have hF2 : mF M c I1 (a_ui J1 (M + 48) (i + 1).toNatClampNeg (-1)) := sF_ringAsk hF1
          have hg2 : gs M I0 (a_ui J1 (M + 48) (i + 1).toNatClampNeg (-1)) Y := gs_ui hg1 (sR_ringAsk hg1.1) (by omega) ⟨by unfold ps1; omega, by omega⟩
          have k1 : ∀ k, k < (i + 1).toNatClampNeg → (a_ui J1 (M + 48) (i + 1).toNatClampNeg (-1)) (M + 48) k = J1 (M + 48) k := fun k hk => by rw [ui_ap, if_neg (by omega)]
          have k2 : (a_ui J1 (M + 48) (i + 1).toNatClampNeg (-1)) (M + 48) (i + 1).toNatClampNeg = -1 := by rw [ui_ap, if_pos ⟨rfl, rfl⟩]
          have hp := ih (a_ui J1 (M + 48) (i + 1).toNatClampNeg (-1)) (i + 1) (some (.int a2)) (Nat.lt_of_lt_of_le (mu_on (w := (J (M + 48))) h0 (by clear ih hN hP hneg hpos hno hm hg hF rp bk bl rp1 bk1 bl1 rp2 hn hn1 p3 pb; grind) hpA ⟨hr.1, by rw [k1 _ (by omega), f2]; exact p2, by rw [k1 _ (by omega), f2]; exact p1⟩ (fun k hk => by rw [k1 k (by omega)]; exact f1 k (by omega)) k2) (by omega)) ⟨Int32.le_trans (by decide) t2, cm⟩ hF2 hg2 (fun q => absurd t2 (Int32.not_le.mpr q)) (fun _ => ⟨⟨rp_c k1 (by rw [t4]; exact rp2), bk_c k1 (by
            rw [t4]
            intro k hk
            by_cases e : k = i.toNatClampNeg
            · rw [e, f2]; exact bl1
            · exact bk1 k (by omega)), by rw [k2]; exact bl_0 im2⟩, by rw [k2]; exact ⟨by decide, by clear ih hN hP hneg hpos hno hm hg hF rp bk bl rp1 bk1 bl1 rp2 hn hn1 p3 pb; grind⟩⟩)
          have c' : ¬ m ≤ i + 1 := Int32.not_le.mpr cm
          have i16 : 0 ≤ i + 1 ∧ i + 1 < 6 := ⟨t2, Int32.lt_of_lt_of_le cm (Int32.le_trans hm25.2 (by decide))⟩
          clear ih hN hP hneg hpos hno hm hg hF rp bk bl rp1 bk1 bl1 rp2 hn hn1 p3 pb
          simp only [q252_59, q252_60, q252_61, q252_64, q252_67, q252_70, q252_73, q252_74, q252_75, q252_76, q252_77, q252_80, q252_83, q252_84, q252_87, q252_88, q252_89, q252_90, q252_126, m_0 hS, m_K hS, mR_ringAsk hS, mK_ringAsk hS, mL_ringAsk hS, as_nil, as_i, as_r, Nat.reduceAdd, Nat.reduceLeDiff, z_eq0, z_eq1, z_or, z_em, Classical.not_not, not_false_eq_true, not_true_eq_false, true_and, and_true, false_and, and_false, and_self, true_implies, false_implies, implies_true, Option.toList_some, Option.toList_none, List.cons_append, List.nil_append, Nat.add_eq_zero_iff, a_nl_i, a_nl_r, a_nl_n, true_or, or_true, eq_self, ok_4, ok_5, ok_6, ok_7, ok_9, ok_10, ok_20, ok_21, ok_24, ok_30, ok_48, ok_50, ok_60, ok_80, ok_120, ok_180, ok_192, ok_200, ok_900, ok_1000, ok_84000, hsl, nea, c', cm, i16]
          try simp only [true_and, and_true, true_implies, false_implies, implies_true, not_true_eq_false, not_false_eq_true]
          first
            | exact hp
            | (repeat refine And.intro (by grind) ?_
               exact hp)
            | grind
        · have e1 : i + 1 = m := by clear ih hN hP hneg hpos hno hm hg hF rp bk bl rp1 bk1 bl1 rp2 hn hn1 p3 pb; grind
          have em : m.toNatClampNeg = i.toNatClampNeg + 1 := by rw [← e1]; exact t4
          rw [← em] at rp2
          have em1 : m.toNatClampNeg - 1 = i.toNatClampNeg := by omega
          have hstep : (¬ rgA Y m.toNatClampNeg (J1 (M + 48))) → ∀ J2, rqP M J1 J2 ∨ J2 = J1 → a_at (d + 11) (a_xm a_m252) 126 [some (a_rf M), some (.int m), some (.int i), some (.int a2)] [] (n, t, K, L, J2, R) P := fun hnr J2 hJ2 => by
            have eW : (J2 (M + 48)) = (J1 (M + 48)) := by
              rcases hJ2 with h | h
              · funext j
                exact h.2 _ _ (by unfold sC; omega) (by omega) (by omega) (by omega)
              · rw [h]
            have hF2 : mF M c I1 J2 := by
              rcases hJ2 with h | h
              · exact mF_rq hF1 h
              · rw [h]; exact hF1
            have hg2 : gs M I0 J2 Y := by
              rcases hJ2 with h | h
              · exact gs_rq hg1 h
              · rw [h]; exact hg1
            have hp := ih J2 i (some (.int a2)) (by rw [eW]; exact hstay) hi hF2 hg2 (fun q => absurd q ci) (fun _ => by
              rw [eW]
              refine ⟨⟨rp1, bk1, ?_⟩, w1b⟩
              rw [f2]
              refine bl_up (Int32.lt_of_lt_of_le ca h17.2) bl1 (fun t ht et r => hnr (rgA_c (by omega) (fun j hj => ?_) r))
              by_cases e : j = i.toNatClampNeg
              · rw [e, et, f2]
              · exact ht j (by omega))
            clear ih hN hP hneg hpos hno hm hg hF rp bk bl rp1 bk1 bl1 rp2 hn hn1 p3 pb hnr
            simp only [q252_126, as_nil, as_i, as_r, Nat.reduceAdd, Nat.reduceLeDiff, z_eq0, z_eq1, z_or, z_em, Classical.not_not, not_false_eq_true, not_true_eq_false, true_and, and_true, false_and, and_false, and_self, true_implies, false_implies, implies_true, Option.toList_some, Option.toList_none, List.cons_append, List.nil_append, Nat.add_eq_zero_iff, a_nl_i, a_nl_r, a_nl_n, true_or, or_true, eq_self, ok_4, ok_5, ok_6, ok_7, ok_9, ok_10, ok_20, ok_21, ok_24, ok_30, ok_48, ok_50, ok_60, ok_80, ok_120, ok_180, ok_192, ok_200, ok_900, ok_1000, ok_84000]
            exact hp
          have g0 := (rp2.1 0 (by omega)).1
          have ga := (rp2.1 i.toNatClampNeg (by omega)).1
          have g030 : 0 ≤ J1 (M + 48) 0 ∧ J1 (M + 48) 0 < 30 := ⟨g0.1, Int32.lt_of_lt_of_le g0.2 h17.2⟩
          have a230 : 0 ≤ a2 ∧ a2 < 30 := ⟨p0, Int32.lt_of_lt_of_le ca h17.2⟩
          obtain ⟨-, x2, -⟩ := ix_900 a230 g030
          have e47 : J1 (M + 47) (30 * a2 + J1 (M + 48) 0).toNatClampNeg = Y 47 (30 * a2 + J1 (M + 48) 0).toNatClampNeg := hg1.2.2.1 47 _ (by unfold ps1; omega)
          have z0 : (0 : Int32).toNatClampNeg = 0 := rfl
          have c' : m ≤ i + 1 := by rw [e1]; exact Int32.le_refl _
          have c'' : ¬ i + 1 < m := cm
          by_cases cw : Y 47 (30 * a2 + J1 (M + 48) 0).toNatClampNeg = 0
          · have hp := hstep (fun r => by
              have := r.1.2.2.2
              rw [em1, f2] at this
              exact this cw) J1 (Or.inr rfl)
            clear ih hN hP hneg hpos hno hm hg hF rp bk bl rp1 bk1 bl1 rp2 hn hn1 p3 pb hstep
            simp only [q252_59, q252_60, q252_61, q252_64, q252_67, q252_70, q252_73, q252_74, q252_75, q252_76, q252_77, q252_93, q252_94, q252_97, q252_99, q252_100, q252_101, q252_102, q252_105, q252_106, q252_107, q252_108, q252_109, m_0 hS, m_K hS, mR_isWish hS, mK_isWish hS, mL_isWish hS, mR_ringAsk hS, mK_ringAsk hS, mL_ringAsk hS, as_nil, as_i, as_r, Nat.reduceAdd, Nat.reduceLeDiff, z_eq0, z_eq1, z_or, z_em, Classical.not_not, not_false_eq_true, not_true_eq_false, true_and, and_true, false_and, and_false, and_self, true_implies, false_implies, implies_true, Option.toList_some, Option.toList_none, List.cons_append, List.nil_append, Nat.add_eq_zero_iff, a_nl_i, a_nl_r, a_nl_n, true_or, or_true, eq_self, ok_4, ok_5, ok_6, ok_7, ok_9, ok_10, ok_20, ok_21, ok_24, ok_30, ok_48, ok_50, ok_60, ok_80, ok_120, ok_180, ok_192, ok_200, ok_900, ok_1000, ok_84000, hsl, nea, c', c'', z0, e47, cw, x2]
            try simp only [true_and, and_true, true_implies, false_implies, implies_true, not_true_eq_false, not_false_eq_true]
            first
              | exact hp
              | (repeat refine And.intro (by grind) ?_
                 exact hp)
              | grind
          · have rs := rp_rg rp2 (by rw [em1, f2]; exact cw)
            have ty : tyP Y m.toNatClampNeg (J1 (M + 48)) := by
              refine ⟨fun k hk => ⟨(rs.1 k hk).1, (rs.1 k hk).2.1⟩, fun k j hk hj e => ?_, fun k hk => ?_⟩
              · rcases Nat.lt_trichotomy k j with q | q | q
                · exact absurd (by rw [e]) (rs.2.2.1 k j q hj)
                · exact q
                · exact absurd (by rw [e]) (rs.2.2.1 j k q hk)
              · by_cases e : k = 0
                · rw [e]
                · have := (rs.2.1 (k - 1) (by omega)).2.2
                  rw [show k - 1 + 1 = k by omega] at this
                  exact this
            have hcall := xt_ringFits (d := d) (n := n) (t := t) hS hm hg1 (z := m) rfl hm25 ty (fun k hk => rfl) (ok_b5 hm ty) (P := fun r' h' => a_at (d + 11) (a_xm a_m252) 117 [some (a_rf M), some (.int m), some (.int i), some (.int a2)] (r'.toList ++ []) h' P) (fun v J3 hv hvv hq => by
              have eW : (J3 (M + 48)) = (J1 (M + 48)) := by
                funext j
                exact hq.2 _ _ (by unfold sC; omega) (by omega) (by omega) (by omega)
              by_cases cv : v = 1
              · have hp := hP (a_ui J3 M 74 m) (sF_ringMany (mF_rq hF1 hq)) (gs_u0 (gs_rq hg1 hq) (sR_ringMany (gs_rq hg1 hq).1) (by unfold ps1; omega)) (by rw [ui_ap, if_pos ⟨rfl, rfl⟩]) (by
                  have eW3 : (a_ui J3 M 74 m) (M + 48) = (J1 (M + 48)) := by
                    funext j
                    rw [ui_ap, if_neg (by omega), eW]
                  rw [eW3]
                  refine Or.inr ⟨⟨by omega, by omega⟩, ⟨rs, hvv.mp cv⟩, hno, fun t ⟨k, q1, q2, q3⟩ => ?_⟩
                  by_cases e : k = i.toNatClampNeg
                  · rw [e, f2] at q3
                    rw [e] at q2
                    exact bl1 t q2 q3
                  · exact bk1 k (by omega) t q2 q3)
                clear ih hN hP hneg hpos hno hm hg hF rp bk bl rp1 bk1 bl1 rp2 hn hn1 p3 pb hstep hvv
                simp only [q252_117, q252_120, q252_121, q252_122, q252_125, m_0 hS, m_K hS, as_nil, as_i, as_r, Nat.reduceAdd, Nat.reduceLeDiff, z_eq0, z_eq1, z_or, z_em, Classical.not_not, not_false_eq_true, not_true_eq_false, true_and, and_true, false_and, and_false, and_self, true_implies, false_implies, implies_true, Option.toList_some, Option.toList_none, List.cons_append, List.nil_append, Nat.add_eq_zero_iff, a_nl_i, a_nl_r, a_nl_n, true_or, or_true, eq_self, ok_4, ok_5, ok_6, ok_7, ok_9, ok_10, ok_20, ok_21, ok_24, ok_30, ok_48, ok_50, ok_60, ok_80, ok_120, ok_180, ok_192, ok_200, ok_900, ok_1000, ok_84000, cv]
                try simp only [true_and, and_true, true_implies, false_implies, implies_true, not_true_eq_false, not_false_eq_true]
                first
                  | exact hp
                  | grind
              · have v0 := hv.resolve_right cv
                have hp := hstep (fun r => cv (hvv.mpr r.2)) J3 (Or.inl hq)
                clear ih hN hP hneg hpos hno hm hg hF rp bk bl rp1 bk1 bl1 rp2 hn hn1 p3 pb hstep hvv
                simp only [q252_117, as_nil, as_i, as_r, Nat.reduceAdd, Nat.reduceLeDiff, z_eq0, z_eq1, z_or, z_em, Classical.not_not, not_false_eq_true, not_true_eq_false, true_and, and_true, false_and, and_false, and_self, true_implies, false_implies, implies_true, Option.toList_some, Option.toList_none, List.cons_append, List.nil_append, Nat.add_eq_zero_iff, a_nl_i, a_nl_r, a_nl_n, true_or, or_true, eq_self, ok_4, ok_5, ok_6, ok_7, ok_9, ok_10, ok_20, ok_21, ok_24, ok_30, ok_48, ok_50, ok_60, ok_80, ok_120, ok_180, ok_192, ok_200, ok_900, ok_1000, ok_84000, v0]
                try simp only [true_and, and_true, true_implies, false_implies, implies_true, not_true_eq_false, not_false_eq_true]
                first
                  | exact hp
                  | grind)
            clear ih hN hP hneg hpos hno hm hg hF rp bk bl rp1 bk1 bl1 rp2 hn hn1 p3 pb hstep
            simp only [q252_59, q252_60, q252_61, q252_64, q252_67, q252_70, q252_73, q252_74, q252_75, q252_76, q252_77, q252_93, q252_94, q252_97, q252_99, q252_100, q252_101, q252_102, q252_105, q252_106, q252_107, q252_108, q252_109, q252_112, q252_113, q252_114, m_0 hS, m_K hS, mR_isWish hS, mK_isWish hS, mL_isWish hS, mR_ringAsk hS, mK_ringAsk hS, mL_ringAsk hS, as_nil, as_i, as_r, Nat.reduceAdd, Nat.reduceLeDiff, z_eq0, z_eq1, z_or, z_em, Classical.not_not, not_false_eq_true, not_true_eq_false, true_and, and_true, false_and, and_false, and_self, true_implies, false_implies, implies_true, Option.toList_some, Option.toList_none, List.cons_append, List.nil_append, Nat.add_eq_zero_iff, a_nl_i, a_nl_r, a_nl_n, true_or, or_true, eq_self, ok_4, ok_5, ok_6, ok_7, ok_9, ok_10, ok_20, ok_21, ok_24, ok_30, ok_48, ok_50, ok_60, ok_80, ok_120, ok_180, ok_192, ok_200, ok_900, ok_1000, ok_84000, hsl, nea, c', c'', z0, e47, cw, x2]
            try simp only [true_and, and_true, true_implies, false_implies, implies_true, not_true_eq_false, not_false_eq_true]
            first
              | exact hcall
              | (repeat refine And.intro (by grind) ?_
                 exact hcall)
              | grind
      · have ea : a2 = Y 0 17 := by clear ih hN hP hneg hpos hno hm hg hF rp bk bl rp1 bk1 bl1 p3 pb; grind
        have nr : noR Y m.toNatClampNeg i.toNatClampNeg (J1 (M + 48)) := bl_no him bl1 (by rw [ea]; exact Int32.le_refl _)
        have hb := mu_back (w := (J (M + 48))) (w' := (J1 (M + 48))) h0 hi4 hpA ⟨hr.1, Int32.le_of_lt hr.2⟩ (fun k hk => f1 k (by omega))
        have hp := ih J1 (i + (-1)) (some (.int a2)) (Nat.lt_of_lt_of_le hb (by omega)) ⟨by clear ih hN hP hneg hpos hno hm hg hF rp bk bl rp1 bk1 bl1 p3 pb nr; grind, by clear ih hN hP hneg hpos hno hm hg hF rp bk bl rp1 bk1 bl1 p3 pb nr; grind⟩ hF1 hg1 (fun q => by
          have e0 : i = 0 := by clear ih hN hP hneg hpos hno hm hg hF rp bk bl rp1 bk1 bl1 p3 pb nr; grind
          intro t
          rw [e0] at nr
          exact nr t (fun j hj => absurd hj (Nat.not_lt_zero j))) (fun q => by
          have q1 : i + (-1) < i := by clear ih hN hP hneg hpos hno hm hg hF rp bk bl rp1 bk1 bl1 p3 pb nr; grind
          have e1 := (lp_st q q1).2.2.2
          rw [show i + (-1) + 1 = i by clear ih hN hP hneg hpos hno hm hg hF rp bk bl rp1 bk1 bl1 p3 pb nr; grind] at e1
          have r1 := rp1.1 (i + (-1)).toNatClampNeg (by omega)
          refine ⟨⟨⟨fun k hk => rp1.1 k (by omega), fun k hk => rp1.2.1 k (by omega), fun x y hx hy => rp1.2.2 x y hx (by omega)⟩, fun k hk => bk1 k (by omega), bl_up (Int32.lt_of_lt_of_le r1.1.2 h17.2) (bk1 _ (by omega)) (fun t ht et => nr t (fun j hj => ?_))⟩, ⟨Int32.le_trans (by decide) r1.1.1, r1.1.2⟩⟩
          by_cases e : j = (i + (-1)).toNatClampNeg
          · rw [e]; exact et
          · exact ht j (by omega))
        clear ih hN hP hneg hpos hno hm hg hF rp bk bl rp1 bk1 bl1 p3 pb nr
        simp only [q252_59, q252_60, q252_61, q252_64, q252_67, q252_70, q252_126, m_0 hS, m_K hS, as_nil, as_i, as_r, Nat.reduceAdd, Nat.reduceLeDiff, z_eq0, z_eq1, z_or, z_em, Classical.not_not, not_false_eq_true, not_true_eq_false, true_and, and_true, false_and, and_false, and_self, true_implies, false_implies, implies_true, Option.toList_some, Option.toList_none, List.cons_append, List.nil_append, Nat.add_eq_zero_iff, a_nl_i, a_nl_r, a_nl_n, true_or, or_true, eq_self, ok_4, ok_5, ok_6, ok_7, ok_9, ok_10, ok_20, ok_21, ok_24, ok_30, ok_48, ok_50, ok_60, ok_80, ok_120, ok_180, ok_192, ok_200, ok_900, ok_1000, ok_84000, hsl, ea]
        try simp only [true_and, and_true, true_implies, false_implies, implies_true, not_true_eq_false, not_false_eq_true]
        rw [ea] at hp
        first
          | exact hp
          | grind
    clear ih hN hP hneg hpos hno hm hg hF rp bk bl p3 pb
    simp only [q252_52, q252_53, q252_56, q252_57, q252_58, m_0 hS, m_K hS, mR_ringAsk hS, mK_ringAsk hS, mL_ringAsk hS, as_nil, as_i, as_r, Nat.reduceAdd, Nat.reduceLeDiff, z_eq0, z_eq1, z_or, z_em, Classical.not_not, not_false_eq_true, not_true_eq_false, true_and, and_true, false_and, and_false, and_self, true_implies, false_implies, implies_true, Option.toList_some, Option.toList_none, List.cons_append, List.nil_append, Nat.add_eq_zero_iff, a_nl_i, a_nl_r, a_nl_n, true_or, or_true, eq_self, ok_4, ok_5, ok_6, ok_7, ok_9, ok_10, ok_20, ok_21, ok_24, ok_30, ok_48, ok_50, ok_60, ok_80, ok_120, ok_180, ok_192, ok_200, ok_900, ok_1000, ok_84000, ui_ap, ne_MM, ne_M0, ne_0M, Nat.reduceEqDiff, reduceIte, if_true, if_false, i6]
    try simp only [true_and, and_true, true_implies, false_implies, implies_true, not_true_eq_false, not_false_eq_true]
    first
      | exact hmain
      | exact ⟨i6, hmain⟩
      | grind) (J (M + 48) i.toNatClampNeg + 1) w0.2.2.2 w0.1 w0.2.1 w0.2.2.1 bl
  clear ih hN hP hneg hpos hno hm hg hF rp bk bl
  simp only [q252_17, q252_20, q252_21, q252_24, q252_25, q252_26, q252_27, q252_28, m_0 hS, m_K hS, mR_ringAsk hS, mK_ringAsk hS, mL_ringAsk hS, as_nil, as_i, as_r, Nat.reduceAdd, Nat.reduceLeDiff, z_eq0, z_eq1, z_or, z_em, Classical.not_not, not_false_eq_true, not_true_eq_false, true_and, and_true, false_and, and_false, and_self, true_implies, false_implies, implies_true, Option.toList_some, Option.toList_none, List.cons_append, List.nil_append, Nat.add_eq_zero_iff, a_nl_i, a_nl_r, a_nl_n, true_or, or_true, eq_self, ok_4, ok_5, ok_6, ok_7, ok_9, ok_10, ok_20, ok_21, ok_24, ok_30, ok_48, ok_50, ok_60, ok_80, ok_120, ok_180, ok_192, ok_200, ok_900, ok_1000, ok_84000, ci, i6]
  try simp only [true_and, and_true, true_implies, false_implies, implies_true, not_true_eq_false, not_false_eq_true]
  first
    | exact hl
    | exact ⟨i6, hl⟩
    | grind
end ZGG
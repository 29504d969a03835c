/-! hosts: who stands -/
section ZV0
variable {Y Z : Nat → Nat → Int32}
theorem le_199 (x : Int32) : (x ≤ 199) = (x < 200) := propext ⟨fun q => Int32.lt_of_le_of_lt q (by decide), fun q => by grind⟩
theorem or_r0 (x : Int32) : x ||| 0 = x := bq_ext (fun i _ => by rw [bq_or, bq_0, Bool.or_false])
theorem or_l0 (x : Int32) : 0 ||| x = x := bq_ext (fun i _ => by rw [bq_or, bq_0, Bool.false_or])
/-- the hosts at a place, ASK by ASK -/
def hoU (Y : Nat → Nat → Int32) (b s : Int32) : Nat → Int32 → Int32 → Int32
  | 0, _, e => e
  | k + 1, a, e => hoU Y b s k (a + 1) (e ||| (if 0 ≤ Y 20 a.toNatClampNeg ∧ Y 20 a.toNatClampNeg = b ∧ Y 21 a.toNatClampNeg ≤ s ∧ s < Y 21 a.toNatClampNeg + Y 10 a.toNatClampNeg then Y 22 (4 * a + (s - Y 21 a.toNatClampNeg)).toNatClampNeg else 0))
def hoV (Y : Nat → Nat → Int32) (b s : Int32) : Int32 := if ¬ ((0 ≤ b ∧ b < Y 0 6) ∧ (0 ≤ s ∧ s < 200)) then -1 else hoU Y b s (Y 0 17).toNatClampNeg 0 0
theorem ho_ix {a s x l : Int32} (ha : 0 ≤ a ∧ a < 30) (hs : 0 ≤ s ∧ s < 200) (hx : 0 ≤ x ∧ x ≤ 200) (hl : 0 ≤ l ∧ l ≤ 4) (hxl : x + l ≤ 200) (h1 : x ≤ s) (h2 : s < x + l) : 0 ≤ 4 * a + s - x ∧ 4 * a + s - x < 120 := by
  have c0 : (0 : Int32).toInt = 0 := rfl
  have c4 : (4 : Int32).toInt = 4 := rfl
  have c30 : (30 : Int32).toInt = 30 := rfl
  have c120 : (120 : Int32).toInt = 120 := rfl
  have c200 : (200 : Int32).toInt = 200 := rfl
  have a1 := Int32.le_iff_toInt_le.mp ha.1
  have a2 := Int32.lt_iff_toInt_lt.mp ha.2
  have s1 := Int32.le_iff_toInt_le.mp hs.1
  have s2 := Int32.lt_iff_toInt_lt.mp hs.2
  have x1 := Int32.le_iff_toInt_le.mp hx.1
  have x2 := Int32.le_iff_toInt_le.mp hx.2
  have l1 := Int32.le_iff_toInt_le.mp hl.1
  have l2 := Int32.le_iff_toInt_le.mp hl.2
  have q1 := Int32.le_iff_toInt_le.mp h1
  have q2 := Int32.lt_iff_toInt_lt.mp h2
  rw [c0] at a1 s1 x1 l1
  rw [c30] at a2
  rw [c200] at s2 x2
  rw [c4] at l2
  rw [Int32.toInt_add, in_bm (by omega) (by omega)] at q2
  have e1 : (4 * a).toInt = 4 * a.toInt := by rw [Int32.toInt_mul, c4, in_bm (by omega) (by omega)]
  have e2 : (4 * a + s).toInt = 4 * a.toInt + s.toInt := by rw [Int32.toInt_add, e1, in_bm (by omega) (by omega)]
  have e3 : (4 * a + s - x).toInt = 4 * a.toInt + s.toInt - x.toInt := by rw [Int32.toInt_sub, e2, in_bm (by omega) (by omega)]
  exact ⟨by rw [Int32.le_iff_toInt_le, e3, c0]; omega, by rw [Int32.lt_iff_toInt_lt, e3, c120]; omega⟩
theorem hoU_0 {b s z : Int32} (hz : z ≤ 30) : ∀ (k : Nat) (a e : Int32), 0 ≤ a → a ≤ z → z.toNatClampNeg = a.toNatClampNeg + k → (∀ x : Int32, a ≤ x → x < z → ¬ (0 ≤ Y 20 x.toNatClampNeg ∧ Y 20 x.toNatClampNeg = b ∧ Y 21 x.toNatClampNeg ≤ s ∧ s < Y 21 x.toNatClampNeg + Y 10 x.toNatClampNeg)) → hoU Y b s k a e = e := by
  intro k
  induction k with
  | zero => intro a e _ _ _ _; rfl
  | succ k ih =>
    intro a e h0 h1 hk h
    have haz : a < z := cl_lt2 h0 (Int32.le_trans h0 h1) (by omega)
    obtain ⟨-, s2, s3, s4⟩ := lp_st h0 haz
    unfold hoU
    rw [if_neg (h a (Int32.le_refl a) haz), or_r0]
    exact ih _ _ s2 s3 (by omega) (fun x x0 x1 => h x (by ((try clear ih); (try clear h)); grind) x1)
theorem hoU_1 {b s z o : Int32} (hz : z ≤ 30) (hh : 0 ≤ Y 20 o.toNatClampNeg ∧ Y 20 o.toNatClampNeg = b ∧ Y 21 o.toNatClampNeg ≤ s ∧ s < Y 21 o.toNatClampNeg + Y 10 o.toNatClampNeg) : ∀ (k : Nat) (a : Int32), 0 ≤ a → a ≤ o → o < z → z.toNatClampNeg = a.toNatClampNeg + k → (∀ x : Int32, a ≤ x → x < z → ¬ x = o → ¬ (0 ≤ Y 20 x.toNatClampNeg ∧ Y 20 x.toNatClampNeg = b ∧ Y 21 x.toNatClampNeg ≤ s ∧ s < Y 21 x.toNatClampNeg + Y 10 x.toNatClampNeg)) → hoU Y b s k a 0 = Y 22 (4 * o + (s - Y 21 o.toNatClampNeg)).toNatClampNeg := by
  intro k
  induction k with
  | zero =>
    intro a h0 h1 h2 hk h
    have := cl_lt h0 (Int32.lt_of_le_of_lt h1 h2)
    omega
  | succ k ih =>
    intro a h0 h1 h2 hk h
    have haz : a < z := Int32.lt_of_le_of_lt h1 h2
    obtain ⟨-, s2, s3, s4⟩ := lp_st h0 haz
    unfold hoU
    by_cases e : a = o
    · subst e
      rw [if_pos hh, or_l0]
      exact hoU_0 hz k _ _ s2 s3 (by omega) (fun x x0 x1 => h x (by ((try clear ih); (try clear h)); grind) x1 (by ((try clear ih); (try clear h)); grind))
    · rw [if_neg (h a (Int32.le_refl a) haz e), or_r0]
      exact ih _ s2 (by ((try clear ih); (try clear h)); grind) h2 (by omega) (fun x x0 x1 => h x (by ((try clear ih); (try clear h)); grind) x1)
theorem hoU_pl {W T : Int32 → Nat → Int32} (hp : plP W T Y) (hl : ∀ j, 0 ≤ Y 10 j ∧ Y 10 j ≤ 4) (hn : 0 ≤ Y 0 17 ∧ Y 0 17 ≤ 30) {b s : Int32} (hb : 0 ≤ b ∧ b < Y 0 6) (hs : 0 ≤ s ∧ s < 200) : T b s.toNatClampNeg = hoU Y b s (Y 0 17).toNatClampNeg 0 0 := by
  have key : ∀ x : Int32, 0 ≤ x → x < Y 0 17 → (0 ≤ Y 20 x.toNatClampNeg ∧ Y 20 x.toNatClampNeg = b ∧ Y 21 x.toNatClampNeg ≤ s ∧ s < Y 21 x.toNatClampNeg + Y 10 x.toNatClampNeg) → W b s.toNatClampNeg = x ∧ T b s.toNatClampNeg = Y 22 (4 * x + (s - Y 21 x.toNatClampNeg)).toNatClampNeg := fun x x0 x1 hh => by
    obtain ⟨q1, q2, q3, q4⟩ := hp.1 x x0 x1 hh.1
    have lx := hl x.toNatClampNeg
    obtain ⟨r1, r2, r3, r4⟩ := hh
    have d0 : 0 ≤ s - Y 21 x.toNatClampNeg := by ((try clear q4); (try clear hp); (try clear hl)); grind
    have d1 : s - Y 21 x.toNatClampNeg < Y 10 x.toNatClampNeg := by ((try clear q4); (try clear hp); (try clear hl)); grind
    have d2 : Y 21 x.toNatClampNeg + (s - Y 21 x.toNatClampNeg) = s := by ((try clear q4); (try clear hp); (try clear hl)); grind
    have q := q4 _ d0 d1
    rw [d2, r2] at q
    exact q
  have z0 : (Y 0 17).toNatClampNeg = (0 : Int32).toNatClampNeg + (Y 0 17).toNatClampNeg := by rw [show (0 : Int32).toNatClampNeg = 0 from rfl]; omega
  rcases hp.2 b s hb.1 hb.2 hs.1 hs.2 with ⟨w1, w2⟩ | ⟨o, i, o0, o1, e1, i0, i1, e2⟩
  · rw [w2]
    refine (hoU_0 hn.2 _ 0 0 (by decide) hn.1 z0 (fun x x0 x1 hh => ?_)).symm
    have q := (key x x0 x1 hh).1
    rw [w1] at q
    rw [← q] at x0
    exact absurd x0 (by decide)
  · have q := hp.1 o o0 o1 (by rw [e1]; exact hb.1)
    have lo := hl o.toNatClampNeg
    have hh : 0 ≤ Y 20 o.toNatClampNeg ∧ Y 20 o.toNatClampNeg = b ∧ Y 21 o.toNatClampNeg ≤ s ∧ s < Y 21 o.toNatClampNeg + Y 10 o.toNatClampNeg := by
      obtain ⟨-, q2, q3, -⟩ := q
      refine ⟨by rw [e1]; exact hb.1, e1, ?_, ?_⟩
      · ((try clear hp); (try clear hl); (try clear key); (try clear q)); grind
      · ((try clear hp); (try clear hl); (try clear key); (try clear q)); grind
    have ko := key o o0 o1 hh
    rw [ko.2]
    refine (hoU_1 hn.2 hh _ 0 (by decide) o0 o1 z0 (fun x x0 x1 ne h => ne ?_)).symm
    rw [← (key x x0 x1 h).1, ko.1]
theorem hoU_p (h : psE Y Z) (h17 : Y 0 17 ≤ 30) {b s : Int32} : ∀ (k : Nat) (a e : Int32), 0 ≤ a → a ≤ Y 0 17 → (Y 0 17).toNatClampNeg = a.toNatClampNeg + k → (∀ j, 0 ≤ Y 10 j ∧ Y 10 j ≤ 4) → inP Y → hoU Z b s k a e = hoU Y b s k a e := by
  intro k
  induction k with
  | zero => intro a e _ _ _ _ _; rfl
  | succ k ih =>
    intro a e h0 h1 hk hl hin
    have haz : a < Y 0 17 := cl_lt2 h0 (Int32.le_trans h0 h1) (by omega)
    have a3 : a < 30 := Int32.lt_of_lt_of_le haz h17
    obtain ⟨-, s2, s3, s4⟩ := lp_st h0 haz
    unfold hoU
    have hin' := hin a.toNatClampNeg (a_lt30 ⟨h0, a3⟩)
    have lx := hl a.toNatClampNeg
    rw [pr_r h (k := 20) (by omega), pr_r h (k := 21) (by omega), pr_r h (k := 10) (by omega), ih _ _ s2 s3 (by omega) hl hin]
    by_cases c : 0 ≤ Y 20 a.toNatClampNeg ∧ Y 20 a.toNatClampNeg = b ∧ Y 21 a.toNatClampNeg ≤ s ∧ s < Y 21 a.toNatClampNeg + Y 10 a.toNatClampNeg
    · rw [if_pos c, if_pos c]
      obtain ⟨c1, c2, c3, c4⟩ := c
      obtain ⟨⟨p1, p2, p3⟩, -⟩ := hin' c1
      rw [h.2 a h0 a3 c1 _ (by ((try clear ih); (try clear h); (try clear hl); (try clear hin); (try clear hin')); grind) (by ((try clear ih); (try clear h); (try clear hl); (try clear hin); (try clear hin')); grind)]
    · rw [if_neg c, if_neg c]
theorem hoV_p (h : psE Y Z) (hy : yoP Y) {b s : Int32} : hoV Z b s = hoV Y b s := by
  have h17 := hy.2.2.2.2.1
  unfold hoV
  rw [h.1 0 6 (by unfold ps1; omega), h.1 0 17 (by unfold ps1; omega), hoU_p h h17.2 _ 0 0 (by decide) h17.1 (by rw [show (0 : Int32).toNatClampNeg = 0 from rfl]; omega) hy.2.1 hy.2.2.2.2.2.2.1]
end ZV0
section ZV1
variable {d n t C c : Nat} {K L : Nat → Nat} {I I0 J J0 J1 J2 : Nat → Nat → Int32} {R : Nat → Nat → Nat} {P : Option Value → AH → Prop}
variable {Y Z W : Nat → Nat → Int32}
theorem cv_hosts (hH : cH C c (n + 1) t K L I R) (hu : cuP C K L I R Y) {b s : Int32} (hP : ∀ J, P (some (.int (hoV Y b s))) (n + 1, t, K, L, J, R)) : a_does (d + 70) 140 [a_rf C, .int b, .int s] (n + 1, t, K, L, I, R) P := by
  have hT := hH.1
  have hS := hT.s
  have gA := hT.g_asksR
  have gB := hT.g_benchesR
  have gX := hT.g_textsR
  have hc := hu.1
  have h17 := hc.2.2.2.2.2.2.2.2.1
  have e4 : I (C + 14) 4 = Y 0 17 := hc.2.2.1.1
  have h6 := hc.2.2.2.2.2.2.2.2.2.1
  have e5 : I (C + 14) 5 = Y 0 6 := hc.2.1.1
  have hr : ¬ ((0 ≤ b ∧ b < Y 0 6) ∧ (0 ≤ s ∧ s < 200)) → ∀ x, a_does (d + 69) 10 [a_rf C, .int (-1)] (n + 1, t, K, L, I, R) (fun r h' => a_at (d + 69) (a_xm a_m140) 25 [some (a_rf C), some (.int b), some (.int s), x] (r.toList ++ []) h' P) := fun q x => by
    unfold hoV at hP
    rw [if_pos q] at hP
    refine cr_refuse (d := d + 68) hH (fun J _ => ?_)
    have hp := hP J
    ((try clear hP); (try clear hc); (try clear hu))
    simp only [q140_25, as_nil, as_i, as_r, Nat.reduceAdd, Nat.reduceLeDiff, z_eq0, z_eq1, z_or, z_em, Classical.not_not, not_false_eq_true, not_true_eq_false, true_and, and_true, false_and, and_false, and_self, true_implies, false_implies, implies_true, Option.toList_some, Option.toList_none, List.cons_append, List.nil_append, Nat.add_eq_zero_iff, a_nl_i, a_nl_r, a_nl_n, true_or, or_true, eq_self, a_isRA_22, a_isRA_24, a_isRA_32, a_isA_20, ok_4, ok_5, ok_6, ok_7, ok_9, ok_20, ok_21, ok_30, ok_50, ok_180, ok_192, ok_200]
    exact hp
  by_cases c2 : 0 ≤ b ∧ b < Y 0 6
  · have hbc : 0 ≤ b ∧ b < I (C + 14) 5 ∧ b < 6 := ⟨c2.1, by rw [e5]; exact c2.2, Int32.lt_of_lt_of_le c2.2 h6.2⟩
    obtain ⟨kb, kb0, -⟩ := hc.2.1.2.2.1 b c2.1 c2.2
    have b0 : (R (C + 16) b.toNatClampNeg = 0) = False := eq_false kb0
    by_cases c3 : 0 ≤ s ∧ s < 200
    · obtain ⟨-, -, ⟨w1, w2, w3⟩, -⟩ := hT.g_bnc _ kb
      have w0 : (R (R (C + 16) b.toNatClampNeg) 3 = 0) = False := eq_false (by omega)
      have eh : I (R (R (C + 16) b.toNatClampNeg) 3) s.toNatClampNeg = hoV Y b s := by
        unfold hoV
        rw [if_neg (fun q => q ⟨c2, c3⟩)]
        exact hoU_pl hc.2.1.2.2.2 hc.2.2.2.2.2.1 h17 c2 c3
      have hp := hP I
      rw [← eh] at hp
      ((try clear hP); (try clear hc); (try clear hu); (try clear hr); (try clear eh))
      rw [a_enter1 (M := a_m140) rfl (a_cat_rf (a_cat_int (a_cat_int a_cat_nil))) (show 3 ≤ 4 by decide)]
      show a_at _ (a_xm a_m140) 0 [some (a_rf C), some (.int b), some (.int s), none] [] _ _
      simp only [q140_0, q140_1, q140_4, q140_5, q140_8, q140_9, q140_10, q140_13, q140_14, q140_17, q140_20, q140_21, q140_22, q140_25, q140_26, q140_27, q140_30, q140_31, q140_32, k_0 hS, z_C hS, r_0_4 hS, k_14 hS, z_14, sp_benchAt hS gB, sp_isShiftC, as_nil, as_i, as_r, Nat.reduceAdd, Nat.reduceLeDiff, z_eq0, z_eq1, z_or, z_em, Classical.not_not, not_false_eq_true, not_true_eq_false, true_and, and_true, false_and, and_false, and_self, true_implies, false_implies, implies_true, Option.toList_some, Option.toList_none, List.cons_append, List.nil_append, Nat.add_eq_zero_iff, a_nl_i, a_nl_r, a_nl_n, true_or, or_true, eq_self, a_isRA_22, a_isRA_24, a_isRA_32, a_isA_20, ok_4, ok_5, ok_6, ok_7, ok_9, ok_20, ok_21, ok_30, ok_50, ok_180, ok_192, ok_200, hbc, c3, b0, kb, w0, w2, w3]
      try simp only [true_and, and_true, true_implies, false_implies, implies_true, not_true_eq_false, not_false_eq_true]
      first
        | exact hp
        | grind
    · have hr := hr (fun q => c3 q.2)
      ((try clear hP); (try clear hc); (try clear hu))
      rw [a_enter1 (M := a_m140) rfl (a_cat_rf (a_cat_int (a_cat_int a_cat_nil))) (show 3 ≤ 4 by decide)]
      show a_at _ (a_xm a_m140) 0 [some (a_rf C), some (.int b), some (.int s), none] [] _ _
      simp only [q140_0, q140_1, q140_4, q140_5, q140_8, q140_9, q140_10, q140_13, q140_14, q140_17, q140_20, q140_21, q140_22, k_0 hS, z_C hS, r_0_4 hS, k_14 hS, z_14, sp_benchAt hS gB, sp_isShiftC, as_nil, as_i, as_r, Nat.reduceAdd, Nat.reduceLeDiff, z_eq0, z_eq1, z_or, z_em, Classical.not_not, not_false_eq_true, not_true_eq_false, true_and, and_true, false_and, and_false, and_self, true_implies, false_implies, implies_true, Option.toList_some, Option.toList_none, List.cons_append, List.nil_append, Nat.add_eq_zero_iff, a_nl_i, a_nl_r, a_nl_n, true_or, or_true, eq_self, a_isRA_22, a_isRA_24, a_isRA_32, a_isA_20, ok_4, ok_5, ok_6, ok_7, ok_9, ok_20, ok_21, ok_30, ok_50, ok_180, ok_192, ok_200, hbc, c3, b0, kb]
      try simp only [true_and, and_true, true_implies, false_implies, implies_true, not_true_eq_false, not_false_eq_true]
      first
        | exact hr _
        | grind
  · have hbc : ¬ (0 ≤ b ∧ b < I (C + 14) 5 ∧ b < 6) := fun q => c2 ⟨q.1, by rw [← e5]; exact q.2.1⟩
    have hr := hr (fun q => c2 q.1)
    ((try clear hP); (try clear hc); (try clear hu))
    rw [a_enter1 (M := a_m140) rfl (a_cat_rf (a_cat_int (a_cat_int a_cat_nil))) (show 3 ≤ 4 by decide)]
    show a_at _ (a_xm a_m140) 0 [some (a_rf C), some (.int b), some (.int s), none] [] _ _
    simp only [q140_0, q140_1, q140_4, q140_5, q140_8, q140_9, q140_10, q140_13, q140_14, q140_17, q140_20, q140_21, q140_22, k_0 hS, z_C hS, r_0_4 hS, k_14 hS, z_14, sp_benchAt hS gB, sp_isShiftC, as_nil, as_i, as_r, Nat.reduceAdd, Nat.reduceLeDiff, z_eq0, z_eq1, z_or, z_em, Classical.not_not, not_false_eq_true, not_true_eq_false, true_and, and_true, false_and, and_false, and_self, true_implies, false_implies, implies_true, Option.toList_some, Option.toList_none, List.cons_append, List.nil_append, Nat.add_eq_zero_iff, a_nl_i, a_nl_r, a_nl_n, true_or, or_true, eq_self, a_isRA_22, a_isRA_24, a_isRA_32, a_isA_20, ok_4, ok_5, ok_6, ok_7, ok_9, ok_20, ok_21, ok_30, ok_50, ok_180, ok_192, ok_200, hbc]
    try simp only [true_and, and_true, true_implies, false_implies, implies_true, not_true_eq_false, not_false_eq_true]
    first
      | exact hr _
      | grind
end ZV1
section ZV2
variable {d n t M : Nat} {K L : Nat → Nat} {I I0 J J0 J1 J2 : Nat → Nat → Int32} {R : Nat → Nat → Nat} {P : Option Value → AH → Prop} {f : Nat → Int32} {e : Int32}
variable {Y Z W : Nat → Nat → Int32}
theorem xv_hosts_26 (hS : m_S M K L R) (hR : mR M I) (hi : inP (yv M I)) {b s : Int32} (hs : 0 ≤ s ∧ s < 200) {V : Int32} (hP : P (some (.int V)) (n, t, K, L, I, R)) : ∀ a : Int32, a ≤ 30 → ∀ e, 0 ≤ a → a ≤ I M 17 → hoU (yv M I) b s ((I M 17).toNatClampNeg - a.toNatClampNeg) a e = V → a_at (d + 2) (a_xm a_m245) 26 [some (a_rf M), some (.int b), some (.int s), some (.int e), some (.int a)] [] (n, t, K, L, I, R) P := by
  have g1 := rg_asks hR
  refine up_ind 30 (fun a ha ih => ?_)
  intro e h0 h1 hV
  have g2 := rg_length hR a.toNatClampNeg
  have hexit : ¬ a < I M 17 → P (some (.int e)) (n, t, K, L, I, R) := fun w => by
    rw [(lp_end h1 w).1] at hV
    rw [show e = V from hV]
    exact hP
  have hgo : a < I M 17 → a_at (d + 2) (a_xm a_m245) 26 [some (a_rf M), some (.int b), some (.int s), some (.int (e ||| (if 0 ≤ I (M + 20) a.toNatClampNeg ∧ I (M + 20) a.toNatClampNeg = b ∧ I (M + 21) a.toNatClampNeg ≤ s ∧ s < I (M + 21) a.toNatClampNeg + I (M + 10) a.toNatClampNeg then I (M + 22) (4 * a + (s - I (M + 21) a.toNatClampNeg)).toNatClampNeg else 0))), some (.int (a + 1))] [] (n, t, K, L, I, R) P := fun w => by
    obtain ⟨s1, s2, s3, s4⟩ := lp_st h0 w
    rw [s1] at hV
    exact ih (by ((try clear ih); (try clear hV); (try clear hexit); (try clear hP)); grind) _ s2 s3 hV
  have hbody : a < I M 17 → a_at (d + 2) (a_xm a_m245) 35 [some (a_rf M), some (.int b), some (.int s), some (.int e), some (.int a)] [] (n, t, K, L, I, R) P := fun w => by
    have hgo := hgo w
    have a3 : 0 ≤ a ∧ a < 30 := ⟨h0, by ((try clear ih); (try clear hV); (try clear hexit); (try clear hgo); (try clear hP)); grind⟩
    have hin : 0 ≤ I (M + 20) a.toNatClampNeg → (0 ≤ I (M + 21) a.toNatClampNeg ∧ I (M + 21) a.toNatClampNeg ≤ 200 ∧ I (M + 21) a.toNatClampNeg + I (M + 10) a.toNatClampNeg ≤ 200) ∧ I (M + 20) a.toNatClampNeg ≤ 5 := hi a.toNatClampNeg (a_lt30 a3)
    have ei : 4 * a + (s - I (M + 21) a.toNatClampNeg) = 4 * a + s - I (M + 21) a.toNatClampNeg := by ((try clear ih); (try clear hV); (try clear hexit); (try clear hgo); (try clear hP); (try clear hin)); grind
    have n10 : ¬ (1 : Int32) = 0 := by decide
    by_cases c : 0 ≤ I (M + 20) a.toNatClampNeg ∧ I (M + 20) a.toNatClampNeg = b ∧ I (M + 21) a.toNatClampNeg ≤ s ∧ s < I (M + 21) a.toNatClampNeg + I (M + 10) a.toNatClampNeg
    · rw [if_pos c, ei] at hgo
      have hin := hin c.1
      have gi : 0 ≤ 4 * a + s - I (M + 21) a.toNatClampNeg ∧ 4 * a + s - I (M + 21) a.toNatClampNeg < 120 := by
        obtain ⟨c1, c2, c3, c4⟩ := c
        exact ho_ix a3 hs ⟨hin.1.1, hin.1.2.1⟩ g2 hin.1.2.2 c3 c4
      have ct := eq_true c
      ((try clear ih); (try clear hV); (try clear hexit); (try clear hP); (try clear hi); (try clear hin); (try clear ei))
      simp only [q245_35, q245_36, q245_37, q245_39, q245_40, q245_41, q245_44, q245_47, q245_48, q245_51, q245_52, q245_54, q245_55, q245_56, q245_57, q245_58, q245_61, q245_63, q245_64, q245_65, q245_66, q245_69, q245_70, q245_71, q245_72, q245_75, m_0 hS, m_K hS, mR_standing hS, mK_standing hS, mL_standing hS, mR_atShift hS, mK_atShift hS, mL_atShift hS, sp_holdsAt hS, as_nil, as_i, as_r, Nat.reduceAdd, Nat.reduceLeDiff, z_eq0, z_eq1, z_or, z_em, Classical.not_not, not_false_eq_true, not_true_eq_false, true_and, and_true, false_and, and_false, and_self, true_implies, false_implies, implies_true, Option.toList_some, Option.toList_none, List.cons_append, List.nil_append, Nat.add_eq_zero_iff, a_nl_i, a_nl_r, a_nl_n, true_or, or_true, eq_self, ok_4, ok_5, ok_6, ok_7, ok_9, ok_10, ok_20, ok_21, ok_24, ok_30, ok_48, ok_50, ok_60, ok_80, ok_120, ok_180, ok_192, ok_200, ok_900, ok_1000, ok_84000, ct, a3, gi, n10, if_true]
      try simp only [true_and, and_true, true_implies, false_implies, implies_true, not_true_eq_false, not_false_eq_true]
      first
        | exact hgo
        | grind
    · rw [if_neg c] at hgo
      have ct := eq_false c
      ((try clear ih); (try clear hV); (try clear hexit); (try clear hP); (try clear hi); (try clear hin); (try clear ei))
      simp only [q245_35, q245_36, q245_37, q245_39, q245_40, q245_41, q245_44, q245_47, q245_48, q245_51, q245_52, q245_54, q245_55, q245_56, q245_57, q245_58, q245_61, q245_63, q245_64, q245_65, q245_66, q245_69, q245_70, q245_71, q245_72, q245_75, m_0 hS, m_K hS, mR_standing hS, mK_standing hS, mL_standing hS, mR_atShift hS, mK_atShift hS, mL_atShift hS, sp_holdsAt hS, as_nil, as_i, as_r, Nat.reduceAdd, Nat.reduceLeDiff, z_eq0, z_eq1, z_or, z_em, Classical.not_not, not_false_eq_true, not_true_eq_false, true_and, and_true, false_and, and_false, and_self, true_implies, false_implies, implies_true, Option.toList_some, Option.toList_none, List.cons_append, List.nil_append, Nat.add_eq_zero_iff, a_nl_i, a_nl_r, a_nl_n, true_or, or_true, eq_self, ok_4, ok_5, ok_6, ok_7, ok_9, ok_10, ok_20, ok_21, ok_24, ok_30, ok_48, ok_50, ok_60, ok_80, ok_120, ok_180, ok_192, ok_200, ok_900, ok_1000, ok_84000, ct, a3, n10, if_false]
      try simp only [true_and, and_true, true_implies, false_implies, implies_true, not_true_eq_false, not_false_eq_true]
      first
        | exact hgo
        | grind
  ((try clear ih); (try clear hV); (try clear hP); (try clear hgo); (try clear hi))
  rw [q245_26]
  repeat' first
    | with_reducible apply And.intro
    | with_reducible assumption
    | with_reducible intro _
    | refine hexit ?_
    | refine hbody ?_
    | simp only [q245_28, q245_29, q245_32, q245_78, q245_79, m_0 hS, m_K hS, as_nil, as_i, as_r, Nat.reduceAdd, Nat.reduceLeDiff, z_eq0, z_eq1, z_or, z_em, Classical.not_not, not_false_eq_true, not_true_eq_false, true_and, and_true, false_and, and_false, and_self, true_implies, false_implies, implies_true, Option.toList_some, Option.toList_none, List.cons_append, List.nil_append, Nat.add_eq_zero_iff, a_nl_i, a_nl_r, a_nl_n, true_or, or_true, eq_self, ok_4, ok_5, ok_6, ok_7, ok_9, ok_10, ok_20, ok_21, ok_24, ok_30, ok_48, ok_50, ok_60, ok_80, ok_120, ok_180, ok_192, ok_200, ok_900, ok_1000, ok_84000]
  all_goals ((try clear hS); (try clear hR); grind [ui_ap])
theorem xv_hosts (hS : m_S M K L R) (hm : okY Y) (hg : gs M I0 I Y) {b s : Int32} (hP : ∀ J, P (some (.int (hoV Y b s))) (n, t, K, L, J, R)) : a_does (d + 16) 245 [a_rf M, .int b, .int s] (n, t, K, L, I, R) P := by
  have hy := hm.1
  have hR := hg.1
  have h17 := hy.2.2.2.2.1
  have h10 := hy.2.1
  have h6 := hy.2.2.2.2.2.1
  have hl := hy.2.2.1
  have e17 : I M 17 = Y 0 17 := hg.2.2.1 0 17 (by unfold ps1; omega)
  have e6 : I M 6 = Y 0 6 := hg.2.2.1 0 6 (by unfold ps1; omega)
  have e0 : I M 0 = Y 0 0 := hg.2.2.1 0 0 (by unfold ps1; omega)
  have m17 : ∀ x : Int32, (x ≤ Y 0 17 - 1) = (x < Y 0 17) := fun x => le_m1 h17
  have m6 : ∀ x : Int32, (x ≤ Y 0 6 - 1) = (x < Y 0 6) := fun x => le_m1 ⟨h6.1, Int32.le_trans h6.2 (by decide)⟩
  have m199 : ∀ x : Int32, (x ≤ 199) = (x < 200) := le_199
  by_cases c : (0 ≤ b ∧ b < Y 0 6) ∧ (0 ≤ s ∧ s < 200)
  · have hV : hoV Y b s = hoU (yv M I) b s (I M 17).toNatClampNeg 0 0 := by
      rw [← hoV_p hg.2.2 hy]
      unfold hoV
      rw [if_neg (fun q => q ⟨by rw [hg.2.2.1 0 6 (by unfold ps1; omega)]; exact c.1, c.2⟩)]
      rfl
    have hlp := xv_hosts_26 (d := d + 13) (P := P) hS hR (inP_p hy.2.2.2.2.2.2.1 hg.2.2) (b := b) c.2 (V := hoV Y b s) (hP I) 0 (by decide) 0 (by decide) (by rw [e17]; exact h17.1) (by rw [lp_0]; exact hV.symm)
    ((try clear hP); (try clear hm); (try clear hy); (try clear hl); (try clear hg); (try clear hV))
    rw [a_enter1 (M := a_m245) rfl (a_cat_rf (a_cat_int (a_cat_int a_cat_nil))) (show 3 ≤ 5 by decide)]
    show a_at _ (a_xm a_m245) 0 [some (a_rf M), some (.int b), some (.int s), none, none] [] _ _
    simp only [q245_0, q245_1, q245_2, q245_5, q245_8, q245_9, q245_12, q245_15, q245_16, q245_17, q245_20, q245_21, q245_22, q245_23, q245_24, m_0 hS, m_K hS, sp_isBench hS, sp_isShift, sp_refuse_1 hS, sp_refuse_2 hS, sp_refuse_3 hS, sp_refuse_4 hS, sp_refuse_5 hS, sp_refuse_6 hS, as_nil, as_i, as_r, Nat.reduceAdd, Nat.reduceLeDiff, z_eq0, z_eq1, z_or, z_em, Classical.not_not, not_false_eq_true, not_true_eq_false, true_and, and_true, false_and, and_false, and_self, true_implies, false_implies, implies_true, Option.toList_some, Option.toList_none, List.cons_append, List.nil_append, Nat.add_eq_zero_iff, a_nl_i, a_nl_r, a_nl_n, true_or, or_true, eq_self, ok_4, ok_5, ok_6, ok_7, ok_9, ok_10, ok_20, ok_21, ok_24, ok_30, ok_48, ok_50, ok_60, ok_80, ok_120, ok_180, ok_192, ok_200, ok_900, ok_1000, ok_84000, e6, m6, m199, c]
    try simp only [true_and, and_true, true_implies, false_implies, implies_true, not_true_eq_false, not_false_eq_true]
    first
      | exact hlp
      | grind
  · unfold hoV at hP
    rw [if_pos c] at hP
    have hr := hP (a_ui I (M + 23) 1 (I (M + 23) 1 + 1))
    ((try clear hP); (try clear hm); (try clear hy); (try clear hl); (try clear hg))
    rw [a_enter1 (M := a_m245) rfl (a_cat_rf (a_cat_int (a_cat_int a_cat_nil))) (show 3 ≤ 5 by decide)]
    show a_at _ (a_xm a_m245) 0 [some (a_rf M), some (.int b), some (.int s), none, none] [] _ _
    simp only [q245_0, q245_1, q245_2, q245_5, q245_8, q245_9, q245_12, q245_15, q245_16, q245_17, q245_20, m_0 hS, m_K hS, sp_isBench hS, sp_isShift, sp_refuse_1 hS, sp_refuse_2 hS, sp_refuse_3 hS, sp_refuse_4 hS, sp_refuse_5 hS, sp_refuse_6 hS, as_nil, as_i, as_r, Nat.reduceAdd, Nat.reduceLeDiff, z_eq0, z_eq1, z_or, z_em, Classical.not_not, not_false_eq_true, not_true_eq_false, true_and, and_true, false_and, and_false, and_self, true_implies, false_implies, implies_true, Option.toList_some, Option.toList_none, List.cons_append, List.nil_append, Nat.add_eq_zero_iff, a_nl_i, a_nl_r, a_nl_n, true_or, or_true, eq_self, ok_4, ok_5, ok_6, ok_7, ok_9, ok_10, ok_20, ok_21, ok_24, ok_30, ok_48, ok_50, ok_60, ok_80, ok_120, ok_180, ok_192, ok_200, ok_900, ok_1000, ok_84000, e6, m6, m199]
    try simp only [true_and, and_true, true_implies, false_implies, implies_true, not_true_eq_false, not_false_eq_true]
    by_cases q1 : 0 ≤ b ∧ b < Y 0 6
    · have q3 : ¬ (0 ≤ s ∧ s < 200) := fun q => c ⟨q1, q⟩
      simp only [q1, q3]
      try simp only [true_and, and_true, true_implies, false_implies, implies_true, not_true_eq_false, not_false_eq_true]
      first
        | exact hr
        | grind
    · simp only [q1]
      try simp only [true_and, and_true, true_implies, false_implies, implies_true, not_true_eq_false, not_false_eq_true]
      first
        | exact hr
        | grind
end ZV2
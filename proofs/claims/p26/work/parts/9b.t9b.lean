/-! the class: the search, just so -/
section Z9B
variable {d n t C c : Nat} {K L : Nat → Nat} {I I0 J J0 J1 J2 : Nat → Nat → Int32} {R : Nat → Nat → Nat} {P : Option Value → AH → Prop}
variable {Y Z W : Nat → Nat → Int32} {R' R1 R2 : Nat → Nat → Nat} {g way : Nat → Int32} {r f e : Int32} {pl : Nat}
/-- what can still be reached from member k on -/
def reZ (Y : Nat → Nat → Int32) (g : Nat → Int32) (r f e : Int32) (pl mn : Nat) : Nat → Int32
  | 0 => 0
  | z + 1 => reZ Y g r f e pl mn z + (if 0 < cnB Y r f e (g (mn - (z + 1))) pl then bwt Y g (mn - (z + 1)) else 0)
def reB (Y : Nat → Nat → Int32) (g : Nat → Int32) (r f e : Int32) (pl mn k : Nat) : Int32 := reZ Y g r f e pl mn (mn - k)
theorem re_m {mn : Nat} : reB Y g r f e pl mn mn = 0 := by
  unfold reB
  rw [Nat.sub_self]
  rfl
theorem re_r {mn k : Nat} (hk : k < mn) : reB Y g r f e pl mn k = reB Y g r f e pl mn (k + 1) + (if 0 < cnB Y r f e (g k) pl then bwt Y g k else 0) := by
  unfold reB
  rw [show mn - k = (mn - (k + 1)) + 1 by omega]
  conv => lhs; unfold reZ
  rw [show mn - (mn - (k + 1) + 1) = k by omega]
/-- the members, in the order of their numbers -/
def meB (r : Int32) : Nat → (Nat → Int32) × Nat
  | 0 => (fun _ => 0, 0)
  | k + 1 => if bq r k = true then (up1 (meB r k).1 (meB r k).2 (Int32.ofNat k), (meB r k).2 + 1) else meB r k
theorem me_in : ∀ n, n ≤ 900 → ∀ j, j < (meB r n).2 → ∃ k, k < n ∧ (meB r n).1 j = Int32.ofNat k ∧ bq r k = true := by
  intro n
  induction n with
  | zero => intro _ j hj; exact absurd hj (Nat.not_lt_zero j)
  | succ n ih =>
    intro hn j hj
    unfold meB at hj ⊢
    by_cases c : bq r n = true
    · rw [if_pos c] at hj ⊢
      show ∃ k, k < n + 1 ∧ up1 (meB r n).1 (meB r n).2 (Int32.ofNat n) j = Int32.ofNat k ∧ bq r k = true
      have hj2 : j < (meB r n).2 + 1 := hj
      unfold up1
      by_cases c2 : j = (meB r n).2
      · rw [if_pos c2]
        exact ⟨n, by omega, rfl, c⟩
      · rw [if_neg c2]
        obtain ⟨k, k1, k2, k3⟩ := ih (by omega) j (by omega)
        exact ⟨k, by omega, k2, k3⟩
    · rw [if_neg c] at hj ⊢
      obtain ⟨k, k1, k2, k3⟩ := ih (by omega) j hj
      exact ⟨k, by omega, k2, k3⟩
theorem me_up : ∀ n, n ≤ 900 → ∀ i j, i < j → j < (meB r n).2 → (meB r n).1 i < (meB r n).1 j := by
  intro n
  induction n with
  | zero => intro _ i j _ hj; exact absurd hj (Nat.not_lt_zero j)
  | succ n ih =>
    intro hn i j hij hj
    unfold meB at hj ⊢
    by_cases c : bq r n = true
    · rw [if_pos c] at hj ⊢
      show up1 (meB r n).1 (meB r n).2 (Int32.ofNat n) i < up1 (meB r n).1 (meB r n).2 (Int32.ofNat n) j
      have hj2 : j < (meB r n).2 + 1 := hj
      unfold up1
      rw [if_neg (by omega)]
      by_cases c2 : j = (meB r n).2
      · rw [if_pos c2]
        obtain ⟨k, k1, k2, -⟩ := me_in (r := r) n (by omega) i (by omega)
        rw [k2, io_lt (by omega) (by omega)]
        exact k1
      · rw [if_neg c2]
        exact ih (by omega) i j hij (by omega)
    · rw [if_neg c] at hj ⊢
      exact ih (by omega) i j hij hj
theorem me_pn (h0 : 0 ≤ r) : ∀ n, n ≤ 32 → (meB r n).2 = pn n r.toInt.toNat := by
  have e0 : r.toInt.toNat = r.toBitVec.toNat := by
    have h1 := Int32.le_iff_toInt_le.mp h0
    have c0 : (0 : Int32).toInt = 0 := rfl
    rw [c0, ← Int32.toInt_toBitVec, BitVec.toInt_eq_toNat_cond] at h1
    rw [← Int32.toInt_toBitVec, BitVec.toInt_eq_toNat_cond]
    split at h1
    · rename_i h2
      rw [if_pos h2]
      omega
    · have := r.toBitVec.isLt
      omega
  have hb : ∀ k, bq r k = decide (r.toInt.toNat / 2 ^ k % 2 = 1) := fun k => by
    rw [e0]
    unfold bq
    exact Nat.testBit_eq_decide_div_mod_eq
  intro n
  induction n with
  | zero => intro _; rfl
  | succ n ih =>
    intro hn
    rw [pn_step, ← ih (by omega)]
    have h := hb n
    conv => lhs; unfold meB
    by_cases c : r.toInt.toNat / 2 ^ n % 2 = 1
    · rw [if_pos (h.trans (decide_eq_true c)), c]
    · rw [if_neg (by rw [h, decide_eq_true_iff]; exact c), show r.toInt.toNat / 2 ^ n % 2 = 0 by omega, Nat.add_zero]
theorem me_mono {a : Nat} : ∀ d, (meB r a).2 ≤ (meB r (a + d)).2 := by
  intro d
  induction d with
  | zero => exact Nat.le_refl _
  | succ d ih =>
    rw [show a + (d + 1) = (a + d) + 1 by omega]
    conv => rhs; unfold meB
    by_cases c : bq r (a + d) = true
    · rw [if_pos c]
      show (meB r a).2 ≤ (meB r (a + d)).2 + 1
      omega
    · rw [if_neg c]
      exact ih
theorem lz_search_125 {m : Int32} (hm4 : 0 ≤ m ∧ m ≤ 4) (hyo : yoP Y) (h48 : pl ≤ 48) (bm : ∀ k, k < m.toNatClampNeg → (0 ≤ g k ∧ g k < Y 0 17) ∧ R (C + 28) k = R (C + 15) (g k).toNatClampNeg) (hT0 : cT C K L I R) (hc : cpP C K L I R Y) (hm : I (C + 27) 8 = m) (hsp : (∀ k, k < m.toNatClampNeg → spE C Y r f e (g k) k pl I)) (hN : ∀ J u i, cT C K L J R → (∀ x j, ¬ x = C + 32 → J x j = I x j) → (∀ k, k ≤ m.toNatClampNeg → J (C + 32) k = reB Y g r f e pl m.toNatClampNeg k) → a_at (d + 30) (a_xm a_m132) 173 [some (a_rf (C + 27)), some (.int f), some (.int e), some (.int r), some (.int i), u] [] (n, t, K, L, J, R) P) : ∀ i : Int32, -1 ≤ i → ∀ J u, i < m → cT C K L J R → (∀ x j, ¬ x = C + 32 → J x j = I x j) → (∀ k, (i + 1).toNatClampNeg ≤ k → k ≤ m.toNatClampNeg → J (C + 32) k = reB Y g r f e pl m.toNatClampNeg k) → a_at (d + 30) (a_xm a_m132) 125 [some (a_rf (C + 27)), some (.int f), some (.int e), some (.int r), some (.int i), u] [] (n, t, K, L, J, R) P := by
  refine dn_ind (-1) (fun i hk ih => ?_)
  intro J u q0 hT hf hrc
  have hS := hT.s
  rw [q132_125]
  by_cases ci : i < 0
  · have ei : i = -1 := by ((try clear hN); (try clear ih); (try clear hc); (try clear bm); (try clear hsp); (try clear hrc)); grind
    have hex := hN J u i hT hf (fun k hk => hrc k (by rw [ei]; exact Nat.zero_le _) hk)
    ((try clear hN); (try clear ih); (try clear hc); (try clear bm); (try clear hsp); (try clear hrc))
    simp only [q132_127, as_nil, as_i, as_r, Nat.reduceAdd, Nat.reduceLeDiff, z_eq0, z_eq1, z_or, z_em, Classical.not_not, not_false_eq_true, not_true_eq_false, true_and, and_true, false_and, and_false, and_self, true_implies, false_implies, implies_true, Option.toList_some, Option.toList_none, List.cons_append, List.nil_append, Nat.add_eq_zero_iff, a_nl_i, a_nl_r, a_nl_n, true_or, or_true, eq_self, a_isRA_22, a_isRA_24, a_isRA_32, a_isA_20, ok_4, ok_5, ok_6, ok_7, ok_9, ok_20, ok_21, ok_30, ok_50, ok_180, ok_192, ok_200, ci]
    try simp only [true_and, and_true, true_implies, false_implies, implies_true, not_true_eq_false, not_false_eq_true]
    first
      | exact hex
      | grind
  · have i0 := Int32.not_lt.mp ci
    have x3 : 0 ≤ i ∧ i < 4 := ⟨i0, Int32.lt_of_lt_of_le q0 hm4.2⟩
    have x1 : 0 ≤ i + 1 ∧ i + 1 < 5 := by ((try clear hN); (try clear ih); (try clear hc); (try clear bm); (try clear hsp); (try clear hrc)); grind
    have x2 : 0 ≤ i ∧ i < 5 := by ((try clear hN); (try clear ih); (try clear hc); (try clear bm); (try clear hsp); (try clear hrc)); grind
    have him : i.toNatClampNeg < m.toNatClampNeg := cl_lt i0 q0
    obtain ⟨-, t2, t3, t4⟩ := lp_st i0 q0
    obtain ⟨⟨a0, a1⟩, er⟩ := bm i.toNatClampNeg him
    have cp : cpP C K L J R Y := cp_fr hT0 hc (fun k j hk => hf _ _ (by omega)) (fun x j kx => by
      have := (hT0.g_ask x kx).1
      exact hf _ _ (by omega)) (fun x j kx _ => by
      have := (hT0.g_bnc x kx).1
      exact hf _ _ (by omega)) (fun x j kx => by
      have := (hT0.g_txt x kx).1
      exact hf _ _ (by omega)) (fun k k0 k1 j => by
      have := (hT0.g_txt _ (hc.2.2.2.1.2 k k0 k1).1).2.1
      exact hf _ _ (by omega)) (fun b b0 b1 j => by
      obtain ⟨-, ⟨w1, -⟩, ⟨s1, -⟩, -⟩ := hT0.g_bnc _ (hc.2.1.2.2.1 b b0 b1).1
      exact ⟨hf _ _ (by omega), hf _ _ (by omega)⟩)
    have hn : ¬ R (C + 28) i.toNatClampNeg = 0 := by rw [er]; exact (hc.2.2.1.2.1 _ a0 a1).2.1
    have e31 : J (C + 31) i.toNatClampNeg = Int32.ofNat (cnB Y r f e (g i.toNatClampNeg) pl) := (hf _ _ (by omega)).trans (hsp _ him).1
    have e32 : J (C + 32) (i + 1).toNatClampNeg = reB Y g r f e pl m.toNatClampNeg (i.toNatClampNeg + 1) := by
      rw [t4]
      exact hrc _ (by rw [t4]; exact Nat.le_refl _) (by omega)
    have cle := cn_le (Y := Y) (f := f) (e := e) (r := r) (a := (g i.toNatClampNeg)) pl
    have ih := ih (by ((try clear hN); (try clear ih); (try clear hc); (try clear bm); (try clear hsp); (try clear hrc); (try clear cp)); grind)
    have hs : ∀ v, reB Y g r f e pl m.toNatClampNeg i.toNatClampNeg = reB Y g r f e pl m.toNatClampNeg (i.toNatClampNeg + 1) + v → a_at (d + 30) (a_xm a_m132) 165 [some (a_rf (C + 27)), some (.int f), some (.int e), some (.int r), some (.int i), u] [.int v, .int (J (C + 32) (i + 1).toNatClampNeg), .int i, a_rf (C + 32)] (n, t, K, L, J, R) P := fun v hv => by
      have im : i + (-1) + 1 = i := by ((try clear hN); (try clear ih); (try clear hc); (try clear bm); (try clear hsp); (try clear hrc); (try clear cp)); grind
      have hi := ih (a_ui J (C + 32) i.toNatClampNeg (J (C + 32) (i + 1).toNatClampNeg + v)) u (by ((try clear hN); (try clear ih); (try clear hc); (try clear bm); (try clear hsp); (try clear hrc); (try clear cp)); grind) (sT_Best_reach hT) (fun x j e => by rw [ui_ap, if_neg (fun q => e q.1)]; exact hf x j e) (fun k k0 k1 => by
        rw [im] at k0
        rw [ui_ap]
        by_cases c : k = i.toNatClampNeg
        · rw [if_pos ⟨rfl, c⟩, c, e32]
          exact hv.symm
        · rw [if_neg (fun q => c q.2)]
          exact hrc k (by rw [t4]; omega) k1)
      ((try clear hN); (try clear ih); (try clear hc); (try clear bm); (try clear hsp); (try clear hrc); (try clear cp))
      simp only [q132_165, q132_166, q132_167, q132_170, as_nil, as_i, as_r, Nat.reduceAdd, Nat.reduceLeDiff, z_eq0, z_eq1, z_or, z_em, Classical.not_not, not_false_eq_true, not_true_eq_false, true_and, and_true, false_and, and_false, and_self, true_implies, false_implies, implies_true, Option.toList_some, Option.toList_none, List.cons_append, List.nil_append, Nat.add_eq_zero_iff, a_nl_i, a_nl_r, a_nl_n, true_or, or_true, eq_self, a_isRA_22, a_isRA_24, a_isRA_32, a_isA_20, ok_4, ok_5, ok_6, ok_7, ok_9, ok_20, ok_21, ok_30, ok_50, ok_180, ok_192, ok_200, ui_ap, cc_ne, cc_n0, cc_0n, Nat.reduceEqDiff, reduceIte, if_true, if_false, k_32 hS, l_32 hS, z_32]
      try simp only [true_and, and_true, true_implies, false_implies, implies_true, not_true_eq_false, not_false_eq_true]
      first
        | exact ⟨x2, hi⟩
        | exact hi
        | grind
    have hr := re_r (Y := Y) (g := g) (r := r) (f := f) (e := e) (pl := pl) him
    have h0 : Int32.ofNat (cnB Y r f e (g i.toNatClampNeg) pl) ≤ 0 → a_at (d + 30) (a_xm a_m132) 164 [some (a_rf (C + 27)), some (.int f), some (.int e), some (.int r), some (.int i), u] [.int (J (C + 32) (i + 1).toNatClampNeg), .int i, a_rf (C + 32)] (n, t, K, L, J, R) P := fun hle => by
      have hg := hs 0 (by
        rw [hr, if_neg ?_]
        intro q
        rw [show (0 : Int32) = Int32.ofNat 0 from rfl, io_le (by omega) (by omega)] at hle
        omega)
      ((try clear hN); (try clear ih); (try clear hc); (try clear bm); (try clear hsp); (try clear hrc); (try clear cp); (try clear hs))
      simp only [q132_164, as_nil, as_i, as_r, Nat.reduceAdd, Nat.reduceLeDiff, z_eq0, z_eq1, z_or, z_em, Classical.not_not, not_false_eq_true, not_true_eq_false, true_and, and_true, false_and, and_false, and_self, true_implies, false_implies, implies_true, Option.toList_some, Option.toList_none, List.cons_append, List.nil_append, Nat.add_eq_zero_iff, a_nl_i, a_nl_r, a_nl_n, true_or, or_true, eq_self, a_isRA_22, a_isRA_24, a_isRA_32, a_isA_20, ok_4, ok_5, ok_6, ok_7, ok_9, ok_20, ok_21, ok_30, ok_50, ok_180, ok_192, ok_200, ui_ap, cc_ne, cc_n0, cc_0n, Nat.reduceEqDiff, reduceIte, if_true, if_false]
      exact hg
    have h1 : ¬ Int32.ofNat (cnB Y r f e (g i.toNatClampNeg) pl) ≤ 0 → a_does (d + 30) 137 [a_rf (C + 27), .int i] (n, t, K, L, J, R) (fun r' h' => a_at (d + 30) (a_xm a_m132) 161 [some (a_rf (C + 27)), some (.int f), some (.int e), some (.int r), some (.int i), u] (r'.toList ++ [.int (J (C + 32) (i + 1).toNatClampNeg), .int i, a_rf (C + 32)]) h' P) := fun hle => by
      refine ce_worth (d := d + 28) (W := Y) hT cp (fun _ _ _ => rfl) x3 ⟨a0, a1⟩ er ?_
      have hg := hs (bwt Y g i.toNatClampNeg) (by
        rw [hr, if_pos ?_]
        rw [show (0 : Int32) = Int32.ofNat 0 from rfl, io_le (by omega) (by omega)] at hle
        omega)
      ((try clear hN); (try clear ih); (try clear hc); (try clear bm); (try clear hsp); (try clear hrc); (try clear cp); (try clear hs))
      simp only [q132_161, as_nil, as_i, as_r, Nat.reduceAdd, Nat.reduceLeDiff, z_eq0, z_eq1, z_or, z_em, Classical.not_not, not_false_eq_true, not_true_eq_false, true_and, and_true, false_and, and_false, and_self, true_implies, false_implies, implies_true, Option.toList_some, Option.toList_none, List.cons_append, List.nil_append, Nat.add_eq_zero_iff, a_nl_i, a_nl_r, a_nl_n, true_or, or_true, eq_self, a_isRA_22, a_isRA_24, a_isRA_32, a_isA_20, ok_4, ok_5, ok_6, ok_7, ok_9, ok_20, ok_21, ok_30, ok_50, ok_180, ok_192, ok_200, ui_ap, cc_ne, cc_n0, cc_0n, Nat.reduceEqDiff, reduceIte, if_true, if_false]
      exact hg
    ((try clear hN); (try clear ih); (try clear hc); (try clear bm); (try clear hsp); (try clear hrc); (try clear cp); (try clear hs))
    simp only [q132_127, q132_130, q132_131, q132_134, q132_136, q132_137, q132_140, q132_142, q132_143, q132_144, q132_145, q132_146, q132_149, q132_151, q132_152, q132_155, q132_156, q132_158, k_27 hS, z_27, r_27_5 hS, k_32 hS, l_32 hS, z_32, r_27_4 hS, k_31 hS, l_31 hS, z_31, as_nil, as_i, as_r, Nat.reduceAdd, Nat.reduceLeDiff, z_eq0, z_eq1, z_or, z_em, Classical.not_not, not_false_eq_true, not_true_eq_false, true_and, and_true, false_and, and_false, and_self, true_implies, false_implies, implies_true, Option.toList_some, Option.toList_none, List.cons_append, List.nil_append, Nat.add_eq_zero_iff, a_nl_i, a_nl_r, a_nl_n, true_or, or_true, eq_self, a_isRA_22, a_isRA_24, a_isRA_32, a_isA_20, ok_4, ok_5, ok_6, ok_7, ok_9, ok_20, ok_21, ok_30, ok_50, ok_180, ok_192, ok_200, ci, e31]
    try simp only [true_and, and_true, true_implies, false_implies, implies_true, not_true_eq_false, not_false_eq_true]
    repeat' first
      | exact x1
      | exact x3
      | exact h0
      | exact h1
      | with_reducible apply And.intro
      | exact x1.1
      | exact x1.2
      | exact x3.1
      | exact x3.2
      | exact h0 (by assumption)
      | exact h1 (by assumption)
      | exact h0 (Int32.not_lt.mp (by assumption))
      | exact h1 (Int32.not_le.mpr (by assumption))
      | with_reducible intro _
theorem lz_search_83 (hH : cH C c n t K L I R) (hc : cpP C K L I R Y) {m : Int32} (hm4 : 0 ≤ m ∧ m ≤ 4) (hse : seP C R Y) (hno : noP Y) (hyo : yoP Y) (hpr : plR Y f e pl) (hpn : pl = (e + 1 - f).toNatClampNeg * (Y 0 6).toNatClampNeg) (hfe : f ≤ e ∧ e - f ≤ 7) (bm : ∀ k, k < m.toNatClampNeg → (0 ≤ g k ∧ g k < Y 0 17) ∧ R (C + 28) k = R (C + 15) (g k).toNatClampNeg) (bd : ∀ k j, k < j → j < m.toNatClampNeg → ¬ (g k).toNatClampNeg = (g j).toNatClampNeg) (br : ∀ k, k < m.toNatClampNeg → bq r (g k).toNatClampNeg = true) (bu : ∀ k, k < m.toNatClampNeg → ¬ 0 ≤ Y 20 (g k).toNatClampNeg) (hm : I (C + 27) 8 = m) (hP : ∀ J, cT C K L J R → (∀ x j, ¬ x = C + 9 → ¬ x = C + 10 → ¬ (C + 27 ≤ x ∧ x ≤ C + 34) → J x j = I x j) → J (C + 27) 8 = m → sbH C Y f pl m.toNatClampNeg (bsR (bfi Y f e g) (bpu Y f g) (bwt Y g) pl m.toNatClampNeg 0 Y 0 (fun _ => 0) (-1, fun _ => 0)) J → P none (n, t, K, L, J, R)) : ∀ i : Int32, i ≤ 4 → ∀ J u, 0 ≤ i → i ≤ m → cT C K L J R → fcP C I J → (∀ j, j < i.toNatClampNeg → spE C Y r f e (g j) j pl J) → a_at (d + 30) (a_xm a_m132) 83 [some (a_rf (C + 27)), some (.int f), some (.int e), some (.int r), some (.int i), u] [] (n, t, K, L, J, R) P := by
  have h48 := hpr.1
  refine up_ind 4 (fun i hk ih => ?_)
  intro J u q0 q1 hT hf sp
  have hS := hT.s
  have e8 : J (C + 27) 8 = m := (hf _ _ (by omega) (by omega) (by omega) (by omega) (by omega)).trans hm
  rw [q132_83]
  by_cases ci : i < m
  · obtain ⟨t1, t2, t3, t4⟩ := lp_st q0 ci
    have hi : 0 ≤ i ∧ i < 4 := ⟨q0, Int32.lt_of_lt_of_le ci hm4.2⟩
    obtain ⟨ai, er⟩ := bm i.toNatClampNeg (cl_lt q0 ci)
    have c' : ¬ m ≤ i := Int32.not_le.mpr ci
    have hcall := cz_collect (d := d + 22) (n := n) (t := t) hH.1 hc hi ai er hpr hpn hfe hT hf sp (P := fun r' h' => a_at (d + 30) (a_xm a_m132) 101 [some (a_rf (C + 27)), some (.int f), some (.int e), some (.int r), some (.int i), u] (r'.toList ++ []) h' P) (fun J2 T2 f2 s2 => by
      have hS2 := T2.s
      have hg := ih hi.2 J2 u t2 t3 T2 f2 (fun j hj => by
        rw [t4] at hj
        by_cases ej : j = i.toNatClampNeg
        · rw [ej]; exact s2.2
        · exact s2.1 j (by omega))
      ((try clear ih); (try clear hP); (try clear hc); (try clear bm); (try clear bd); (try clear bu); (try clear br); (try clear hpr))
      simp only [q132_101, q132_104, as_nil, as_i, as_r, Nat.reduceAdd, Nat.reduceLeDiff, z_eq0, z_eq1, z_or, z_em, Classical.not_not, not_false_eq_true, not_true_eq_false, true_and, and_true, false_and, and_false, and_self, true_implies, false_implies, implies_true, Option.toList_some, Option.toList_none, List.cons_append, List.nil_append, Nat.add_eq_zero_iff, a_nl_i, a_nl_r, a_nl_n, true_or, or_true, eq_self, a_isRA_22, a_isRA_24, a_isRA_32, a_isA_20, ok_4, ok_5, ok_6, ok_7, ok_9, ok_20, ok_21, ok_30, ok_50, ok_180, ok_192, ok_200, ui_ap, cc_ne, cc_n0, cc_0n, Nat.reduceEqDiff, reduceIte, if_true, if_false]
      exact hg)
    ((try clear ih); (try clear hP); (try clear hc); (try clear bm); (try clear bd); (try clear bu); (try clear br); (try clear sp); (try clear hf); (try clear hpr))
    simp only [q132_85, q132_86, q132_89, q132_92, q132_93, q132_95, q132_96, q132_97, q132_98, k_27 hS, z_27, as_nil, as_i, as_r, Nat.reduceAdd, Nat.reduceLeDiff, z_eq0, z_eq1, z_or, z_em, Classical.not_not, not_false_eq_true, not_true_eq_false, true_and, and_true, false_and, and_false, and_self, true_implies, false_implies, implies_true, Option.toList_some, Option.toList_none, List.cons_append, List.nil_append, Nat.add_eq_zero_iff, a_nl_i, a_nl_r, a_nl_n, true_or, or_true, eq_self, a_isRA_22, a_isRA_24, a_isRA_32, a_isA_20, ok_4, ok_5, ok_6, ok_7, ok_9, ok_20, ok_21, ok_30, ok_50, ok_180, ok_192, ok_200, e8, c']
    try simp only [true_and, and_true, true_implies, false_implies, implies_true, not_true_eq_false, not_false_eq_true]
    first
      | exact hcall
      | grind
  · have eim := (lp_end q1 ci).2
    have c' : m ≤ i := Int32.not_lt.mp ci
    have hs5 : 0 ≤ m ∧ m < 5 := ⟨hm4.1, Int32.lt_of_le_of_lt hm4.2 (by decide)⟩
    have hcJ := fc_cp hH.1 hc hf
    have hT1 : cT C K L (a_ui J (C + 32) m.toNatClampNeg 0) R := sT_Best_reach hT
    have hc1 := cp_sc hT hcJ (k := 32) (j := m.toNatClampNeg) (v := 0) (by omega) (by omega)
    have m1 : m - 1 + 1 = m := by ((try clear ih); (try clear hP); (try clear hc); (try clear bm); (try clear bd); (try clear bu); (try clear br); (try clear sp); (try clear hf); (try clear hcJ); (try clear hc1); (try clear hpr)); grind
    have hl := lz_search_125 (d := d) (n := n) (t := t) (P := P) (pl := pl) (f := f) (e := e) (r := r) hm4 hyo h48 bm hT1 hc1 (by rw [ui_ap, if_neg (by omega)]; exact e8) (fun k hk => se_C (sp k (by rw [eim]; exact hk)) (fun q j hq => by rw [ui_ap, if_neg (by omega)])) (fun J2 u2 i2 T2 f2 hrc => by
      have hS2 := T2.s
      have hT3 : cT C K L (a_ui J2 (C + 27) 9 (-1)) R := sT_Best_sum T2
      have s0 := Int32.le_iff_toInt_le.mp hm4.1
      have s1 := Int32.le_iff_toInt_le.mp hm4.2
      have c0 : (0 : Int32).toInt = 0 := rfl
      have c4 : (4 : Int32).toInt = 4 := rfl
      have em : (m.toNatClampNeg : Int) = m.toInt := by
        show ((m.toInt.toNat : Nat) : Int) = _
        omega
      have fJ : ∀ x j, ¬ x = C + 32 → ¬ (x = C + 27 ∧ j = 9) → a_ui J2 (C + 27) 9 (-1) x j = J x j := fun x j e1 e2 => by
        rw [ui_ap, if_neg e2, f2 x j e1, ui_ap, if_neg (fun q => e1 q.1)]
      have xcp : cpP C K L (a_ui J2 (C + 27) 9 (-1)) R Y := cp_fr hT hcJ (fun k j hk => fJ _ _ (by omega) (by omega)) (fun x j kx => by
        have := (hT.g_ask x kx).1
        exact fJ _ _ (by omega) (by omega)) (fun x j kx _ => by
        have := (hT.g_bnc x kx).1
        exact fJ _ _ (by omega) (by omega)) (fun x j kx => by
        have := (hT.g_txt x kx).1
        exact fJ _ _ (by omega) (by omega)) (fun k k0 k1 j => by
        have := (hT.g_txt _ (hcJ.2.2.2.1.2 k k0 k1).1).2.1
        exact fJ _ _ (by omega) (by omega)) (fun b b0 b1 j => by
        obtain ⟨-, ⟨w1, -⟩, ⟨s1, -⟩, -⟩ := hT.g_bnc _ (hcJ.2.1.2.2.1 b b0 b1).1
        exact ⟨fJ _ _ (by omega) (by omega), fJ _ _ (by omega) (by omega)⟩)
      have hx := ky_all (n := n) (t := t) (rch := reB Y g r f e pl m.toNatClampNeg) (r := r) (f := f) (e := e) (pl := pl) hm4 hse hyo hpr bm bd br bu re_m (fun k hk => re_r hk) m.toNatClampNeg 0 0 (a_ui J2 (C + 27) 9 (-1)) Y (-1, fun _ => 0) (fun _ => 0) (d + 30) (fun r' h' => a_at (d + 30) (a_xm a_m132) 184 [some (a_rf (C + 27)), some (.int f), some (.int e), some (.int r), some (.int i2), u2] (r'.toList ++ []) h' P) (by decide) (by rw [em]; omega) (by omega) hT3 xcp ex_refl hno (fun _ _ _ _ => ⟨rfl, rfl⟩) ((fJ _ _ (by omega) (by omega)).trans e8) (fun k hk => se_C (sp k (by rw [eim]; exact hk)) (fun q j hq => fJ _ _ (by omega) (by omega))) (fun k hk => by rw [ui_ap, if_neg (by omega)]; exact hrc k hk) (fun k _ k1 => bu k k1) ⟨by decide, by rw [c0]; omega⟩ ⟨by decide, by decide⟩ ⟨by rw [ui_ap, if_pos ⟨rfl, rfl⟩], fun q => absurd q (by decide)⟩ (fun k hk => absurd hk (Nat.not_lt_zero k)) (fun J3 T3 x3 sb3 _ => by
        have hS3 := T3.s
        have hp := hP J3 T3 (fun x j a1 a2 a3 => by
          rw [x3 x j a1 a2 (by omega) (by omega) (by omega), fJ x j (by omega) (by omega)]
          exact hf x j a1 a2 (by omega) (by omega) (by omega)) (by rw [x3 _ _ (by omega) (by omega) (by omega) (by omega) (by omega), fJ _ _ (by omega) (by omega)]; exact e8) sb3
        ((try clear ih); (try clear hP); (try clear hc); (try clear bm); (try clear bd); (try clear bu); (try clear br); (try clear sp); (try clear hf); (try clear f2); (try clear hcJ); (try clear hc1); (try clear fJ); (try clear xcp); (try clear x3); (try clear sb3); (try clear hrc); (try clear hpr))
        simp only [q132_184, as_nil, as_i, as_r, Nat.reduceAdd, Nat.reduceLeDiff, z_eq0, z_eq1, z_or, z_em, Classical.not_not, not_false_eq_true, not_true_eq_false, true_and, and_true, false_and, and_false, and_self, true_implies, false_implies, implies_true, Option.toList_some, Option.toList_none, List.cons_append, List.nil_append, Nat.add_eq_zero_iff, a_nl_i, a_nl_r, a_nl_n, true_or, or_true, eq_self, a_isRA_22, a_isRA_24, a_isRA_32, a_isA_20, ok_4, ok_5, ok_6, ok_7, ok_9, ok_20, ok_21, ok_30, ok_50, ok_180, ok_192, ok_200, ui_ap, cc_ne, cc_n0, cc_0n, Nat.reduceEqDiff, reduceIte, if_true, if_false]
        exact hp)
      ((try clear ih); (try clear hP); (try clear hc); (try clear bm); (try clear bd); (try clear bu); (try clear br); (try clear sp); (try clear hf); (try clear f2); (try clear hcJ); (try clear hc1); (try clear fJ); (try clear xcp); (try clear hrc); (try clear hpr))
      simp only [q132_173, q132_174, q132_175, q132_178, q132_179, q132_180, q132_181, k_27 hS, z_27, as_nil, as_i, as_r, Nat.reduceAdd, Nat.reduceLeDiff, z_eq0, z_eq1, z_or, z_em, Classical.not_not, not_false_eq_true, not_true_eq_false, true_and, and_true, false_and, and_false, and_self, true_implies, false_implies, implies_true, Option.toList_some, Option.toList_none, List.cons_append, List.nil_append, Nat.add_eq_zero_iff, a_nl_i, a_nl_r, a_nl_n, true_or, or_true, eq_self, a_isRA_22, a_isRA_24, a_isRA_32, a_isA_20, ok_4, ok_5, ok_6, ok_7, ok_9, ok_20, ok_21, ok_30, ok_50, ok_180, ok_192, ok_200, ui_ap, cc_ne, cc_n0, cc_0n, Nat.reduceEqDiff, reduceIte, if_true, if_false]
      exact hx) (m - 1) (by ((try clear ih); (try clear hP); (try clear hc); (try clear bm); (try clear bd); (try clear bu); (try clear br); (try clear sp); (try clear hf); (try clear hcJ); (try clear hc1); (try clear hpr)); grind) (a_ui J (C + 32) m.toNatClampNeg 0) u (by ((try clear ih); (try clear hP); (try clear hc); (try clear bm); (try clear bd); (try clear bu); (try clear br); (try clear sp); (try clear hf); (try clear hcJ); (try clear hc1); (try clear hpr)); grind) hT1 (fun _ _ _ => rfl) (fun k k0 k1 => by
      rw [m1] at k0
      have ek : k = m.toNatClampNeg := by omega
      rw [ek, ui_ap, if_pos ⟨rfl, rfl⟩]
      exact re_m.symm)
    ((try clear ih); (try clear hP); (try clear hc); (try clear bm); (try clear bd); (try clear bu); (try clear br); (try clear sp); (try clear hf); (try clear hcJ); (try clear hc1); (try clear hpr))
    simp only [q132_85, q132_86, q132_89, q132_107, q132_108, q132_111, q132_112, q132_115, q132_116, q132_117, q132_118, q132_121, q132_122, q132_123, k_27 hS, z_27, r_27_5 hS, k_32 hS, l_32 hS, z_32, as_nil, as_i, as_r, Nat.reduceAdd, Nat.reduceLeDiff, z_eq0, z_eq1, z_or, z_em, Classical.not_not, not_false_eq_true, not_true_eq_false, true_and, and_true, false_and, and_false, and_self, true_implies, false_implies, implies_true, Option.toList_some, Option.toList_none, List.cons_append, List.nil_append, Nat.add_eq_zero_iff, a_nl_i, a_nl_r, a_nl_n, true_or, or_true, eq_self, a_isRA_22, a_isRA_24, a_isRA_32, a_isA_20, ok_4, ok_5, ok_6, ok_7, ok_9, ok_20, ok_21, ok_30, ok_50, ok_180, ok_192, ok_200, ui_ap, cc_ne, cc_n0, cc_0n, Nat.reduceEqDiff, reduceIte, if_true, if_false, e8, c']
    try simp only [true_and, and_true, true_implies, false_implies, implies_true, not_true_eq_false, not_false_eq_true]
    first
      | exact ⟨hs5, hl⟩
      | exact hl
      | grind
end Z9B
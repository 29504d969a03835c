/-! the words of the best -/
section Z9C
variable {d n t C c : Nat} {K L : Nat → Nat} {I I0 J J0 J1 J2 : Nat → Nat → Int32} {R : Nat → Nat → Nat} {P : Option Value → AH → Prop}
variable {Y Z W : Nat → Nat → Int32} {R' R1 R2 : Nat → Nat → Nat} {r f e : Int32} {pl : Nat}
/-- all of a set are without place, and none is withdrawn -/
def afB (Y : Nat → Nat → Int32) (r : Int32) : Nat → Int32 → Bool
  | 0, _ => true
  | k + 1, i => if bq r i.toNatClampNeg = true ∧ (0 ≤ Y 20 i.toNatClampNeg ∨ ¬ Y 18 i.toNatClampNeg = 0) then false else afB Y r k (i + 1)
def plN (Y : Nat → Nat → Int32) (f e : Int32) : Nat := (e + 1 - f).toNatClampNeg * (Y 0 6).toNatClampNeg
def beR (Y : Nat → Nat → Int32) (f e r : Int32) : bB := bsR (bfi Y f e (meB r (Y 0 17).toNatClampNeg).1) (bpu Y f (meB r (Y 0 17).toNatClampNeg).1) (bwt Y (meB r (Y 0 17).toNatClampNeg).1) (plN Y f e) (meB r (Y 0 17).toNatClampNeg).2 0 Y 0 (fun _ => 0) (-1, fun _ => 0)
/-- where a member stands in the best -/
def soI (g v : Nat → Int32) (w : Int32) : Nat → Nat → Int32
  | 0, _ => -9
  | k + 1, i => if g i = w then v i else soI g v w k (i + 1)
def beV (Y : Nat → Nat → Int32) (x y r w : Int32) : Int32 := if ¬ (((0 ≤ x ∧ x < 200) ∧ (0 ≤ y ∧ y < 200) ∧ x ≤ y) ∧ (0 ≤ r ∧ r.toInt.toNat < 2 ^ (Y 0 17).toNatClampNeg) ∧ (0 ≤ w → ((0 ≤ w ∧ w < 30) ∧ bq r w.toNatClampNeg = true))) then -1 else if w < -1 then -2 else if 8 ≤ y - x ∨ 4 < bcf r then -6 else if afB Y r (Y 0 17).toNatClampNeg 0 = false then -3 else if w = -1 then (beR Y x y r).1 else soI (meB r (Y 0 17).toNatClampNeg).1 (fun k => enB Y x (plN Y x y) ((beR Y x y r).2 k)) w (meB r (Y 0 17).toNatClampNeg).2 0
theorem af_free {m : Int32} : ∀ (k : Nat) (i : Int32), 0 ≤ i → i ≤ m → m.toNatClampNeg = i.toNatClampNeg + k → afB Y r k i = true → ∀ x : Int32, i ≤ x → x < m → bq r x.toNatClampNeg = true → ¬ 0 ≤ Y 20 x.toNatClampNeg := by
  intro k
  induction k with
  | zero =>
    intro i i0 im hk _ x x0 x1
    have := cl_lt (Int32.le_trans i0 x0) x1
    have := cl_le0 i0 x0
    omega
  | succ k ih =>
    intro i i0 im hk ha x x0 x1 hb hp
    have hlt : i < m := cl_lt2 i0 (Int32.le_trans i0 im) (by omega)
    obtain ⟨-, t2, t3, t4⟩ := lp_st i0 hlt
    unfold afB at ha
    by_cases c : bq r i.toNatClampNeg = true ∧ (0 ≤ Y 20 i.toNatClampNeg ∨ ¬ Y 18 i.toNatClampNeg = 0)
    · rw [if_pos c] at ha
      exact absurd ha (by decide)
    · rw [if_neg c] at ha
      by_cases e : x = i
      · exact c ⟨by rw [← e]; exact hb, Or.inl (by rw [← e]; exact hp)⟩
      · exact ih (i + 1) t2 t3 (by omega) ha x (by ((try clear ih)); grind) x1 hb hp
/-- the places there are, from the first shift to the last -/
theorem pl_mk (h6 : 0 ≤ Y 0 6 ∧ Y 0 6 ≤ 6) (hf : 0 ≤ f ∧ f ≤ 199) (he : e ≤ 199) (hfe : f ≤ e ∧ e - f ≤ 7) : plR Y f e (plN Y f e) := by
  have c0 : (0 : Int32).toInt = 0 := rfl
  have c1 : (1 : Int32).toInt = 1 := rfl
  have c6 : (6 : Int32).toInt = 6 := rfl
  have c7 : (7 : Int32).toInt = 7 := rfl
  have c199 : (199 : Int32).toInt = 199 := rfl
  have b0 := Int32.le_iff_toInt_le.mp h6.1
  have b1 := Int32.le_iff_toInt_le.mp h6.2
  have f0 := Int32.le_iff_toInt_le.mp hf.1
  have f1 := Int32.le_iff_toInt_le.mp hf.2
  have e1 := Int32.le_iff_toInt_le.mp he
  have d0 := Int32.le_iff_toInt_le.mp hfe.1
  have ed : (e - f).toInt = e.toInt - f.toInt := by
    rw [Int32.toInt_sub]
    simp only [Int.bmod_def]
    omega
  have d1 := Int32.le_iff_toInt_le.mp hfe.2
  have ed1 : (e + 1 - f).toInt = e.toInt - f.toInt + 1 := by
    have ea : (e + 1).toInt = e.toInt + 1 := by rw [ti_add (by omega)]; omega
    rw [Int32.toInt_sub, ea]
    simp only [Int.bmod_def]
    omega
  have xn : ((e + 1 - f).toNatClampNeg : Int) = e.toInt - f.toInt + 1 := by
    show (((e + 1 - f).toInt.toNat : Nat) : Int) = _
    omega
  have bn : ((Y 0 6).toNatClampNeg : Int) = (Y 0 6).toInt := by
    show (((Y 0 6).toInt.toNat : Nat) : Int) = _
    omega
  have hN : plN Y f e ≤ 48 := by
    unfold plN
    exact Nat.le_trans (Nat.mul_le_mul (show (e + 1 - f).toNatClampNeg ≤ 8 by omega) (show (Y 0 6).toNatClampNeg ≤ 6 by omega)) (by decide)
  refine ⟨hN, h6, hf, he, fun p hp => ?_⟩
  have hB : 0 < (Y 0 6).toNatClampNeg := by
    rcases Nat.eq_zero_or_pos (Y 0 6).toNatClampNeg with q | q
    · unfold plN at hp
      rw [q, Nat.mul_zero] at hp
      exact absurd hp (Nat.not_lt_zero p)
    · exact q
  have hB2 : 0 < Y 0 6 := by rw [Int32.lt_iff_toInt_lt]; omega
  refine ⟨hB2, ?_⟩
  have hq : p / (Y 0 6).toNatClampNeg < (e + 1 - f).toNatClampNeg := (Nat.div_lt_iff_lt_mul hB).mpr hp
  have hv : (Int32.ofNat p / Y 0 6).toInt = ((p / (Y 0 6).toNatClampNeg : Nat) : Int) := by
    rw [ti_div (io_0 (by omega)) hB2, (io (n := p) (by omega)).1, ← bn]
    rfl
  generalize p / (Y 0 6).toNatClampNeg = q at hq hv
  rw [Int32.le_iff_toInt_le, ti_add (by omega)]
  omega
theorem lz_search_8 (hH0 : cH C c n t K L I R) (hc : cpP C K L I R Y) (hse : seP C R Y) (hno : noP Y) (hpr : plR Y f e (plN Y f e)) (hfe : f ≤ e ∧ e - f ≤ 7) (hfr : ∀ k : Int32, 0 ≤ k → k < Y 0 17 → bq r k.toNatClampNeg = true → ¬ 0 ≤ Y 20 k.toNatClampNeg) (h4 : (meB r (Y 0 17).toNatClampNeg).2 ≤ 4) (hP : ∀ J R1, fbP C c n t K L I R J R1 → J (C + 27) 8 = Int32.ofNat (meB r (Y 0 17).toNatClampNeg).2 → (∀ k, k < (meB r (Y 0 17).toNatClampNeg).2 → R1 (C + 28) k = R1 (C + 15) ((meB r (Y 0 17).toNatClampNeg).1 k).toNatClampNeg) → sbH C Y f (plN Y f e) (meB r (Y 0 17).toNatClampNeg).2 (beR Y f e r) J → P none (n, t, K, L, J, R1)) : ∀ i : Int32, i ≤ 30 → ∀ J R1 u, 0 ≤ i → i ≤ Y 0 17 → fbP C c n t K L I R J R1 → J (C + 27) 8 = Int32.ofNat (meB r i.toNatClampNeg).2 → (∀ k, k < (meB r i.toNatClampNeg).2 → R1 (C + 28) k = R1 (C + 15) ((meB r i.toNatClampNeg).1 k).toNatClampNeg) → a_at (d + 30) (a_xm a_m132) 8 [some (a_rf (C + 27)), some (.int f), some (.int e), some (.int r), some (.int i), u] [] (n, t, K, L, J, R1) P := by
  have y17 := hc.2.2.2.2.2.2.2.2.1
  have n30 : (Y 0 17).toNatClampNeg ≤ 30 := cl_le0 y17.1 y17.2
  refine up_ind 30 (fun i hk ih => ?_)
  intro J R1 u h0 h1 hq2 sz mb
  have hT := hq2.1.1
  have hS := hT.s
  have gA := hT.g_asksR
  have gB := hT.g_benchesR
  have gX := hT.g_textsR
  have hcJ := fb_cp hH0.1 hc hq2
  have e4 : J (C + 14) 4 = Y 0 17 := hcJ.2.2.1.1
  rw [q132_8]
  by_cases ci : i < Y 0 17
  · obtain ⟨t1, t2, t3, t4⟩ := lp_st h0 ci
    have hi30 : 0 ≤ i ∧ i < 30 := ⟨h0, Int32.lt_of_lt_of_le ci y17.2⟩
    have hia : 0 ≤ i ∧ i < Y 0 17 ∧ i < 30 := ⟨h0, ci, hi30.2⟩
    obtain ⟨-, ⟨ha, an0, -⟩, -, al⟩ := aa_of hcJ h0 ci
    have nc : ¬ Y 0 17 ≤ i := Int32.not_le.mpr ci
    have in17 := cl_lt h0 ci
    have hmo := me_mono (r := r) (a := i.toNatClampNeg) ((Y 0 17).toNatClampNeg - i.toNatClampNeg)
    rw [show i.toNatClampNeg + ((Y 0 17).toNatClampNeg - i.toNatClampNeg) = (Y 0 17).toNatClampNeg by omega] at hmo
    have hmo1 := me_mono (r := r) (a := i.toNatClampNeg + 1) ((Y 0 17).toNatClampNeg - (i.toNatClampNeg + 1))
    rw [show i.toNatClampNeg + 1 + ((Y 0 17).toNatClampNeg - (i.toNatClampNeg + 1)) = (Y 0 17).toNatClampNeg by omega] at hmo1
    have hnext : ∀ J R1 u, fbP C c n t K L I R J R1 → J (C + 27) 8 = Int32.ofNat (meB r (i.toNatClampNeg + 1)).2 → (∀ k, k < (meB r (i.toNatClampNeg + 1)).2 → R1 (C + 28) k = R1 (C + 15) ((meB r (i.toNatClampNeg + 1)).1 k).toNatClampNeg) → a_at (d + 30) (a_xm a_m132) 74 [some (a_rf (C + 27)), some (.int f), some (.int e), some (.int r), some (.int i), u] [] (n, t, K, L, J, R1) P := fun J R1 u q s m => by
      have hS := q.1.1.s
      have hg := ih hi30.2 J R1 u t2 t3 q (by rw [t4]; exact s) (by rw [t4]; exact m)
      ((try clear ih); (try clear hP); (try clear hc); (try clear hcJ); (try clear mb); (try clear hq2); (try clear hpr))
      simp only [q132_74, q132_77, as_nil, as_i, as_r, Nat.reduceAdd, Nat.reduceLeDiff, z_eq0, z_eq1, z_or, z_em, Classical.not_not, not_false_eq_true, not_true_eq_false, true_and, and_true, false_and, and_false, and_self, true_implies, false_implies, implies_true, Option.toList_some, Option.toList_none, List.cons_append, List.nil_append, Nat.add_eq_zero_iff, a_nl_i, a_nl_r, a_nl_n, true_or, or_true, eq_self, a_isRA_22, a_isRA_24, a_isRA_32, a_isA_20, ok_4, ok_5, ok_6, ok_7, ok_9, ok_20, ok_21, ok_30, ok_50, ok_180, ok_192, ok_200, ui_ap, cc_ne, cc_n0, cc_0n, Nat.reduceEqDiff, reduceIte, if_true, if_false]
      exact hg
    have hcall : a_does (d + 30) 130 [.int r, .int i] (n, t, K, L, J, R1) (fun r' h' => a_at (d + 30) (a_xm a_m132) 42 [some (a_rf (C + 27)), some (.int f), some (.int e), some (.int r), some (.int i), some (a_rf (R1 (C + 15) i.toNatClampNeg))] (r'.toList ++ []) h' P) := by
      refine ce_isIn (d := d + 29) hi30 ?_
      by_cases cb : bq r i.toNatClampNeg = true
      · rw [if_pos cb]
        have em : meB r (i.toNatClampNeg + 1) = (up1 (meB r i.toNatClampNeg).1 (meB r i.toNatClampNeg).2 (Int32.ofNat i.toNatClampNeg), (meB r i.toNatClampNeg).2 + 1) := if_pos cb
        have em2 : (meB r (i.toNatClampNeg + 1)).2 = (meB r i.toNatClampNeg).2 + 1 := by rw [em]
        have c3 : (meB r i.toNatClampNeg).2 < 4 := by omega
        have szn := (io (n := (meB r i.toNatClampNeg).2) (by omega)).2
        have sz4 := io_k (n := (meB r i.toNatClampNeg).2) (k := 4) c3 (by omega)
        have c4' : ¬ 4 ≤ Int32.ofNat (meB r i.toNatClampNeg).2 := Int32.not_le.mpr sz4.2
        have ss := io_s (n := (meB r i.toNatClampNeg).2) (by omega)
        have s5 : 0 ≤ Int32.ofNat ((meB r i.toNatClampNeg).2 + 1) ∧ Int32.ofNat ((meB r i.toNatClampNeg).2 + 1) ≤ 4 := ⟨io_0 (by omega), by rw [show (4 : Int32) = Int32.ofNat 4 from rfl, io_le (by omega) (by omega)]; omega⟩
        have hg := hnext (a_ui J (C + 27) 8 (Int32.ofNat ((meB r i.toNatClampNeg).2 + 1))) (a_ur R1 (C + 28) (meB r i.toNatClampNeg).2 (R1 (C + 15) i.toNatClampNeg)) (some (a_rf (R1 (C + 15) i.toNatClampNeg))) (fb_T (fb_R hq2 (Or.inr ha)) (sT_Best_size (fb_R hq2 (j := (meB r i.toNatClampNeg).2) (Or.inr ha)).1.1 s5) (fun x j _ _ a3 => by rw [ui_ap, if_neg (by omega)])) (by rw [ui_ap, if_pos ⟨rfl, rfl⟩, em2]) (fun k hk => by
          rw [em2] at hk
          rw [em]
          show a_ur R1 (C + 28) (meB r i.toNatClampNeg).2 (R1 (C + 15) i.toNatClampNeg) (C + 28) k = a_ur R1 (C + 28) (meB r i.toNatClampNeg).2 (R1 (C + 15) i.toNatClampNeg) (C + 15) (up1 (meB r i.toNatClampNeg).1 (meB r i.toNatClampNeg).2 (Int32.ofNat i.toNatClampNeg) k).toNatClampNeg
          rw [ur_ap, ur_ap]
          unfold up1
          by_cases e1 : k = (meB r i.toNatClampNeg).2
          · rw [if_pos ⟨rfl, e1⟩, if_neg (by omega), if_pos e1, (io (n := i.toNatClampNeg) (by omega)).2]
          · rw [if_neg (fun q => e1 q.2), if_neg (by omega), if_neg e1]
            exact mb k (by omega))
        ((try clear ih); (try clear hP); (try clear hc); (try clear hcJ); (try clear mb); (try clear hq2); (try clear hnext); (try clear hfr); (try clear hpr); (try clear em); (try clear em2))
        simp only [q132_42, q132_45, q132_46, q132_49, q132_50, q132_53, q132_54, q132_57, q132_58, q132_61, q132_63, q132_64, q132_65, q132_66, q132_69, q132_70, q132_71, k_27 hS, z_27, r_27_1 hS, k_28 hS, l_28 hS, z_28, as_nil, as_i, as_r, Nat.reduceAdd, Nat.reduceLeDiff, z_eq0, z_eq1, z_or, z_em, Classical.not_not, not_false_eq_true, not_true_eq_false, true_and, and_true, false_and, and_false, and_self, true_implies, false_implies, implies_true, Option.toList_some, Option.toList_none, List.cons_append, List.nil_append, Nat.add_eq_zero_iff, a_nl_i, a_nl_r, a_nl_n, true_or, or_true, eq_self, a_isRA_22, a_isRA_24, a_isRA_32, a_isA_20, ok_4, ok_5, ok_6, ok_7, ok_9, ok_20, ok_21, ok_30, ok_50, ok_180, ok_192, ok_200, ui_ap, cc_ne, cc_n0, cc_0n, Nat.reduceEqDiff, reduceIte, if_true, if_false, sz, ha, an0, c4', szn, ss]
        try simp only [true_and, and_true, true_implies, false_implies, implies_true, not_true_eq_false, not_false_eq_true]
        repeat' first
          | with_reducible apply And.intro
          | with_reducible intro _
          | exact hg
          | exact sz4.1
          | exact sz4.2
          | (right; rfl)
          | (exfalso; rename_i h9; exact absurd h9 (by decide))
          | decide
      · rw [if_neg cb]
        have em : meB r (i.toNatClampNeg + 1) = meB r i.toNatClampNeg := if_neg cb
        have hg := hnext J R1 (some (a_rf (R1 (C + 15) i.toNatClampNeg))) hq2 (by rw [em]; exact sz) (by rw [em]; exact mb)
        ((try clear ih); (try clear hP); (try clear hc); (try clear hcJ); (try clear mb); (try clear hq2); (try clear hnext); (try clear hfr); (try clear hpr); (try clear em))
        simp only [q132_42, as_nil, as_i, as_r, Nat.reduceAdd, Nat.reduceLeDiff, z_eq0, z_eq1, z_or, z_em, Classical.not_not, not_false_eq_true, not_true_eq_false, true_and, and_true, false_and, and_false, and_self, true_implies, false_implies, implies_true, Option.toList_some, Option.toList_none, List.cons_append, List.nil_append, Nat.add_eq_zero_iff, a_nl_i, a_nl_r, a_nl_n, true_or, or_true, eq_self, a_isRA_22, a_isRA_24, a_isRA_32, a_isA_20, ok_4, ok_5, ok_6, ok_7, ok_9, ok_20, ok_21, ok_30, ok_50, ok_180, ok_192, ok_200, ui_ap, cc_ne, cc_n0, cc_0n, Nat.reduceEqDiff, reduceIte, if_true, if_false]
        try simp only [true_and, and_true, true_implies, false_implies, implies_true, not_true_eq_false, not_false_eq_true]
        first
          | exact hg
          | grind
    ((try clear ih); (try clear hP); (try clear hc); (try clear hcJ); (try clear mb); (try clear hq2); (try clear hnext); (try clear hfr); (try clear hpr))
    simp only [q132_10, q132_11, q132_14, q132_17, q132_20, q132_21, q132_24, q132_26, q132_29, q132_31, q132_33, q132_36, q132_37, q132_39, k_27 hS, z_27, r_27_0 hS, k_14 hS, z_14, sp_askAt hS gA, as_nil, as_i, as_r, Nat.reduceAdd, Nat.reduceLeDiff, z_eq0, z_eq1, z_or, z_em, Classical.not_not, not_false_eq_true, not_true_eq_false, true_and, and_true, false_and, and_false, and_self, true_implies, false_implies, implies_true, Option.toList_some, Option.toList_none, List.cons_append, List.nil_append, Nat.add_eq_zero_iff, a_nl_i, a_nl_r, a_nl_n, true_or, or_true, eq_self, a_isRA_22, a_isRA_24, a_isRA_32, a_isA_20, ok_4, ok_5, ok_6, ok_7, ok_9, ok_20, ok_21, ok_30, ok_50, ok_180, ok_192, ok_200, e4, hia, ha, an0, nc]
    try simp only [true_and, and_true, true_implies, false_implies, implies_true, not_true_eq_false, not_false_eq_true]
    first
      | exact hcall
      | grind
  · have nc : Y 0 17 ≤ i := Int32.not_lt.mp ci
    have ei := (lp_end h1 ci).2
    subst ei
    have mn := (io (n := (meB r (Y 0 17).toNatClampNeg).2) (by omega)).2
    have mem : ∀ k, k < (meB r (Y 0 17).toNatClampNeg).2 → (0 ≤ (meB r (Y 0 17).toNatClampNeg).1 k ∧ (meB r (Y 0 17).toNatClampNeg).1 k < Y 0 17) ∧ bq r ((meB r (Y 0 17).toNatClampNeg).1 k).toNatClampNeg = true := fun k hk => by
      obtain ⟨q, q1, q2, q3⟩ := me_in (r := r) (Y 0 17).toNatClampNeg (by omega) k hk
      rw [q2, (io (n := q) (by omega)).2]
      exact ⟨⟨io_0 (by omega), cl_lt2 (io_0 (by omega)) y17.1 (by rw [(io (n := q) (by omega)).2]; exact q1)⟩, q3⟩
    have hl := lz_search_83 (d := d) (n := n) (t := t) (P := P) (m := Int32.ofNat (meB r (Y 0 17).toNatClampNeg).2) (g := (meB r (Y 0 17).toNatClampNeg).1) (r := r) (f := f) (e := e) (pl := plN Y f e) hq2.1 hcJ ⟨io_0 (by omega), by rw [show (4 : Int32) = Int32.ofNat 4 from rfl, io_le (by omega) (by omega)]; exact h4⟩ (fb_se hH0.1 hc hse hq2) hno hc.2.2.2.2 hpr rfl hfe (fun k hk => by
      rw [mn] at hk
      exact ⟨(mem k hk).1, mb k hk⟩) (fun k j hkj hj e => by
      rw [mn] at hj
      have e2 := cl_inj (mem k (by omega)).1.1 (mem j hj).1.1 e
      exact absurd (me_up (r := r) (Y 0 17).toNatClampNeg (by omega) k j hkj hj) (by rw [e2]; exact Int32.lt_irrefl)) (fun k hk => by
      rw [mn] at hk
      exact (mem k hk).2) (fun k hk => by
      rw [mn] at hk
      exact hfr _ (mem k hk).1.1 (mem k hk).1.2 (mem k hk).2) sz (fun J2 T2 f2 e2 sb => by
      rw [mn] at sb
      exact hP J2 R1 (fb_T hq2 T2 f2) e2 mb sb) 0 (by decide) J u (by decide) (io_0 (by omega)) hT fc_refl (fun k hk => absurd hk (Nat.not_lt_zero k))
    ((try clear ih); (try clear hP); (try clear hc); (try clear hcJ); (try clear mb); (try clear hq2); (try clear hfr); (try clear hpr); (try clear mem))
    simp only [q132_10, q132_11, q132_14, q132_17, q132_80, q132_81, k_27 hS, z_27, r_27_0 hS, k_14 hS, z_14, as_nil, as_i, as_r, Nat.reduceAdd, Nat.reduceLeDiff, z_eq0, z_eq1, z_or, z_em, Classical.not_not, not_false_eq_true, not_true_eq_false, true_and, and_true, false_and, and_false, and_self, true_implies, false_implies, implies_true, Option.toList_some, Option.toList_none, List.cons_append, List.nil_append, Nat.add_eq_zero_iff, a_nl_i, a_nl_r, a_nl_n, true_or, or_true, eq_self, a_isRA_22, a_isRA_24, a_isRA_32, a_isA_20, ok_4, ok_5, ok_6, ok_7, ok_9, ok_20, ok_21, ok_30, ok_50, ok_180, ok_192, ok_200, e4, nc]
    try simp only [true_and, and_true, true_implies, false_implies, implies_true, not_true_eq_false, not_false_eq_true]
    first
      | exact hl
      | grind
theorem cz_search (hH : cH C c n t K L I R) (hc : cpP C K L I R Y) (hse : seP C R Y) (hno : noP Y) (hpr : plR Y f e (plN Y f e)) (hfe : f ≤ e ∧ e - f ≤ 7) (hfr : ∀ k : Int32, 0 ≤ k → k < Y 0 17 → bq r k.toNatClampNeg = true → ¬ 0 ≤ Y 20 k.toNatClampNeg) (h4 : (meB r (Y 0 17).toNatClampNeg).2 ≤ 4) (hP : ∀ J R1, fbP C c n t K L I R J R1 → J (C + 27) 8 = Int32.ofNat (meB r (Y 0 17).toNatClampNeg).2 → (∀ k, k < (meB r (Y 0 17).toNatClampNeg).2 → R1 (C + 28) k = R1 (C + 15) ((meB r (Y 0 17).toNatClampNeg).1 k).toNatClampNeg) → sbH C Y f (plN Y f e) (meB r (Y 0 17).toNatClampNeg).2 (beR Y f e r) J → P none (n, t, K, L, J, R1)) : a_does (d + 31) 132 [a_rf (C + 27), .int f, .int e, .int r] (n, t, K, L, I, R) P := by
  have hT := hH.1
  have hS := hT.s
  have hl := fun u => lz_search_8 (d := d) (n := n) (t := t) (P := P) hH hc hse hno hpr hfe hfr h4 hP 0 (by decide) (a_ui I (C + 27) 8 0) R u (by decide) hc.2.2.2.2.2.2.2.2.1.1 ⟨cH_J hH (sT_Best_size hT (by decide)), fun _ _ _ _ _ => rfl, fun x j _ _ a3 => by rw [ui_ap, if_neg (by omega)]⟩ (by rw [ui_ap, if_pos ⟨rfl, rfl⟩]; rfl) (fun k hk => absurd hk (Nat.not_lt_zero k))
  ((try clear hP); (try clear hc); (try clear hfr); (try clear hpr))
  rw [a_enter1 (M := a_m132) rfl (a_cat_rf (a_cat_int (a_cat_int (a_cat_int a_cat_nil)))) (show 4 ≤ 6 by decide)]
  show a_at _ (a_xm a_m132) 0 [some (a_rf (C + 27)), some (.int f), some (.int e), some (.int r), none, none] [] _ _
  simp only [q132_0, q132_1, q132_2, q132_5, q132_6, k_27 hS, z_27, as_nil, as_i, as_r, Nat.reduceAdd, Nat.reduceLeDiff, z_eq0, z_eq1, z_or, z_em, Classical.not_not, not_false_eq_true, not_true_eq_false, true_and, and_true, false_and, and_false, and_self, true_implies, false_implies, implies_true, Option.toList_some, Option.toList_none, List.cons_append, List.nil_append, Nat.add_eq_zero_iff, a_nl_i, a_nl_r, a_nl_n, true_or, or_true, eq_self, a_isRA_22, a_isRA_24, a_isRA_32, a_isA_20, ok_4, ok_5, ok_6, ok_7, ok_9, ok_20, ok_21, ok_30, ok_50, ok_180, ok_192, ok_200, ui_ap, cc_ne, cc_n0, cc_0n, Nat.reduceEqDiff, reduceIte, if_true, if_false]
  exact hl _
/-- where one stands -/
theorem lz_spotOf_2 (hT : cT C K L I R) (hc : cpP C K L I R Y) {g v : Nat → Int32} {mn : Nat} {w : Int32} (h4 : mn ≤ 4) (h8 : I (C + 27) 8 = Int32.ofNat mn) (hm : ∀ k, k < mn → (0 ≤ g k ∧ g k < Y 0 17) ∧ R (C + 28) k = R (C + 15) (g k).toNatClampNeg) (hv : ∀ k, k < mn → I (C + 34) k = v k) {V : Int32} (hP : P (some (.int V)) (n, t, K, L, I, R)) : ∀ (z i : Nat), i + z = mn → soI g v w z i = V → a_at d (a_xm a_m139) 2 [some (a_rf (C + 27)), some (.int w), some (.int (Int32.ofNat i))] [] (n, t, K, L, I, R) P := by
  have hS := hT.s
  intro z
  induction z with
  | zero =>
    intro i hi hV
    have e : i = mn := by omega
    subst e
    have hV2 : (-9 : Int32) = V := hV
    rw [← hV2] at hP
    have le : (Int32.ofNat i ≤ Int32.ofNat i) = True := eq_true (Int32.le_refl _)
    ((try clear hc); (try clear hm); (try clear hv))
    rw [q139_2]
    simp only [q139_3, q139_4, q139_7, q139_36, q139_38, k_27 hS, z_27, as_nil, as_i, as_r, Nat.reduceAdd, Nat.reduceLeDiff, z_eq0, z_eq1, z_or, z_em, Classical.not_not, not_false_eq_true, not_true_eq_false, true_and, and_true, false_and, and_false, and_self, true_implies, false_implies, implies_true, Option.toList_some, Option.toList_none, List.cons_append, List.nil_append, Nat.add_eq_zero_iff, a_nl_i, a_nl_r, a_nl_n, true_or, or_true, eq_self, a_isRA_22, a_isRA_24, a_isRA_32, a_isA_20, ok_4, ok_5, ok_6, ok_7, ok_9, ok_20, ok_21, ok_30, ok_50, ok_180, ok_192, ok_200, h8, le]
    try simp only [true_and, and_true, true_implies, false_implies, implies_true, not_true_eq_false, not_false_eq_true]
    first
      | exact hP
      | grind
  | succ z ih =>
    intro i hi hV
    have hlt : i < mn := by omega
    have hle : (Int32.ofNat mn ≤ Int32.ofNat i) = False := by rw [io_le (by omega) (by omega)]; exact eq_false (by omega)
    have i4 := io_k (n := i) (k := 4) (by omega) (by omega)
    have ni := (io (n := i) (by omega)).2
    obtain ⟨⟨a0, a1⟩, er⟩ := hm i hlt
    obtain ⟨-, ⟨ha, an0, a4⟩, -⟩ := aa_of hc a0 a1
    have e34 := hv i hlt
    unfold soI at hV
    by_cases c : g i = w
    · rw [if_pos c] at hV
      rw [← hV] at hP
      ((try clear hc); (try clear hm); (try clear hv); (try clear ih))
      rw [q139_2]
      simp only [q139_3, q139_4, q139_7, q139_10, q139_11, q139_14, q139_15, q139_16, q139_19, q139_20, q139_23, q139_24, q139_27, q139_28, q139_29, k_27 hS, z_27, r_27_1 hS, k_28 hS, l_28 hS, z_28, r_27_7 hS, k_34 hS, l_34 hS, z_34, as_nil, as_i, as_r, Nat.reduceAdd, Nat.reduceLeDiff, z_eq0, z_eq1, z_or, z_em, Classical.not_not, not_false_eq_true, not_true_eq_false, true_and, and_true, false_and, and_false, and_self, true_implies, false_implies, implies_true, Option.toList_some, Option.toList_none, List.cons_append, List.nil_append, Nat.add_eq_zero_iff, a_nl_i, a_nl_r, a_nl_n, true_or, or_true, eq_self, a_isRA_22, a_isRA_24, a_isRA_32, a_isA_20, ok_4, ok_5, ok_6, ok_7, ok_9, ok_20, ok_21, ok_30, ok_50, ok_180, ok_192, ok_200, h8, hle, i4, ni, er, ha, an0, a4, c, e34]
      try simp only [true_and, and_true, true_implies, false_implies, implies_true, not_true_eq_false, not_false_eq_true]
      first
        | exact hP
        | exact ⟨i4, hP⟩
        | grind
    · rw [if_neg c] at hV
      have hg := ih (i + 1) (by omega) hV
      rw [← io_s (by omega)] at hg
      ((try clear hc); (try clear hm); (try clear hv); (try clear ih))
      rw [q139_2]
      simp only [q139_3, q139_4, q139_7, q139_10, q139_11, q139_14, q139_15, q139_16, q139_19, q139_20, q139_30, q139_33, k_27 hS, z_27, r_27_1 hS, k_28 hS, l_28 hS, z_28, as_nil, as_i, as_r, Nat.reduceAdd, Nat.reduceLeDiff, z_eq0, z_eq1, z_or, z_em, Classical.not_not, not_false_eq_true, not_true_eq_false, true_and, and_true, false_and, and_false, and_self, true_implies, false_implies, implies_true, Option.toList_some, Option.toList_none, List.cons_append, List.nil_append, Nat.add_eq_zero_iff, a_nl_i, a_nl_r, a_nl_n, true_or, or_true, eq_self, a_isRA_22, a_isRA_24, a_isRA_32, a_isA_20, ok_4, ok_5, ok_6, ok_7, ok_9, ok_20, ok_21, ok_30, ok_50, ok_180, ok_192, ok_200, h8, hle, i4, ni, er, ha, an0, a4, c]
      try simp only [true_and, and_true, true_implies, false_implies, implies_true, not_true_eq_false, not_false_eq_true]
      first
        | exact hg
        | exact ⟨i4, hg⟩
        | grind
theorem cz_spotOf (hT : cT C K L I R) (hc : cpP C K L I R Y) {g v : Nat → Int32} {mn : Nat} {w : Int32} (h4 : mn ≤ 4) (h8 : I (C + 27) 8 = Int32.ofNat mn) (hm : ∀ k, k < mn → (0 ≤ g k ∧ g k < Y 0 17) ∧ R (C + 28) k = R (C + 15) (g k).toNatClampNeg) (hv : ∀ k, k < mn → I (C + 34) k = v k) (hP : P (some (.int (soI g v w mn 0))) (n, t, K, L, I, R)) : a_does (d + 1) 139 [a_rf (C + 27), .int w] (n, t, K, L, I, R) P := by
  have hS := hT.s
  have hl : a_at d (a_xm a_m139) 2 [some (a_rf (C + 27)), some (.int w), some (.int 0)] [] (n, t, K, L, I, R) P := lz_spotOf_2 (d := d) (n := n) (t := t) hT hc h4 h8 hm hv hP mn 0 (Nat.zero_add _) rfl
  ((try clear hP); (try clear hc); (try clear hm); (try clear hv))
  rw [a_enter1 (M := a_m139) rfl (a_cat_rf (a_cat_int a_cat_nil)) (show 2 ≤ 3 by decide)]
  show a_at _ (a_xm a_m139) 0 [some (a_rf (C + 27)), some (.int w), none] [] _ _
  simp only [q139_0, q139_1, as_nil, as_i, as_r, Nat.reduceAdd, Nat.reduceLeDiff, z_eq0, z_eq1, z_or, z_em, Classical.not_not, not_false_eq_true, not_true_eq_false, true_and, and_true, false_and, and_false, and_self, true_implies, false_implies, implies_true, Option.toList_some, Option.toList_none, List.cons_append, List.nil_append, Nat.add_eq_zero_iff, a_nl_i, a_nl_r, a_nl_n, true_or, or_true, eq_self, a_isRA_22, a_isRA_24, a_isRA_32, a_isA_20, ok_4, ok_5, ok_6, ok_7, ok_9, ok_20, ok_21, ok_30, ok_50, ok_180, ok_192, ok_200]
  exact hl
/-- a set of the asks there are -/
theorem sh_fin : ∀ k : Fin 31, ((Int32.ofNat k.val) &&& 31).toBitVec.smod 32 = (Int32.ofNat k.val).toBitVec ∧ (Int32.ofNat k.val).toBitVec.toNat = k.val := by decide +kernel
theorem shr_0 {x a : Int32} (hx : 0 ≤ x) (ha : 0 ≤ a ∧ a ≤ 30) : (x >>> (a &&& 31) = 0) ↔ x.toInt.toNat < 2 ^ a.toNatClampNeg := by
  have c0 : (0 : Int32).toInt = 0 := rfl
  have x0 := Int32.le_iff_toInt_le.mp hx
  have an : a.toNatClampNeg < 31 := by
    have := cl_le0 ha.1 ha.2
    rw [show (30 : Int32).toNatClampNeg = 30 from rfl] at this
    omega
  have fin := sh_fin ⟨a.toNatClampNeg, an⟩
  rw [← on_cl ha.1] at fin
  have e2 : (x >>> (a &&& 31)).toInt = x.toInt / ((2 ^ a.toNatClampNeg : Nat) : Int) := by
    rw [← Int32.toInt_toBitVec, Int32.toBitVec_shiftRight, BitVec.sshiftRight', BitVec.toInt_sshiftRight, Int.shiftRight_eq_div_pow, fin.1, fin.2]
    rfl
  have e3 : x.toInt = (x.toInt.toNat : Int) := by omega
  have hp : 0 < 2 ^ a.toNatClampNeg := Nat.two_pow_pos _
  constructor
  · intro h
    have h2 := congrArg Int32.toInt h
    rw [e2, c0, e3] at h2
    have h3 : x.toInt.toNat / 2 ^ a.toNatClampNeg = 0 := by
      have : ((x.toInt.toNat / 2 ^ a.toNatClampNeg : Nat) : Int) = 0 := h2
      omega
    exact (Nat.div_eq_zero_iff_lt hp).mp h3
  · intro h
    refine Int32.toInt_inj.mp ?_
    rw [e2, c0, e3]
    have h3 : x.toInt.toNat / 2 ^ a.toNatClampNeg = 0 := Nat.div_eq_of_lt h
    have : ((x.toInt.toNat / 2 ^ a.toNatClampNeg : Nat) : Int) = 0 := by rw [h3]; rfl
    exact this
theorem ce_areAsks (hT : cT C K L I R) (hc : cpP C K L I R Y) (hP : P (some (.int (if (0 ≤ r ∧ r.toInt.toNat < 2 ^ (Y 0 17).toNatClampNeg) then 1 else 0))) (n, t, K, L, I, R)) : a_does (d + 1) 129 [a_rf (C + 14), .int r] (n, t, K, L, I, R) P := by
  have hS := hT.s
  have y17 := hc.2.2.2.2.2.2.2.2.1
  have e4 : I (C + 14) 4 = Y 0 17 := hc.2.2.1.1
  have n30 : (Y 0 17).toNatClampNeg ≤ 30 := cl_le0 y17.1 y17.2
  have c0 : (0 : Int32).toInt = 0 := rfl
  have c30 : (1073741824 : Int32).toInt = 1073741824 := rfl
  by_cases c : (0 ≤ r ∧ r.toInt.toNat < 2 ^ (Y 0 17).toNatClampNeg)
  · rw [if_pos c] at hP
    have s0 := (shr_0 c.1 y17).mpr c.2
    have big : r < 1073741824 := by
      have := Nat.pow_le_pow_right (n := 2) (by decide) n30
      have x0 := Int32.le_iff_toInt_le.mp c.1
      rw [Int32.lt_iff_toInt_lt, c30]
      have h30 : (2 : Nat) ^ 30 = 1073741824 := by decide
      omega
    have n0 : ¬ r < 0 := Int32.not_lt.mpr c.1
    have n1 : ¬ 1073741824 ≤ r := Int32.not_le.mpr big
    ((try clear hc))
    rw [a_enter1 (M := a_m129) rfl (a_cat_rf (a_cat_int a_cat_nil)) (show 2 ≤ 2 by decide)]
    show a_at _ (a_xm a_m129) 0 [some (a_rf (C + 14)), some (.int r)] [] _ _
    simp only [q129_0, q129_1, q129_4, q129_5, q129_7, q129_10, q129_11, q129_12, q129_15, q129_16, q129_19, q129_20, q129_23, q129_24, k_14 hS, z_14, as_nil, as_i, as_r, Nat.reduceAdd, Nat.reduceLeDiff, z_eq0, z_eq1, z_or, z_em, Classical.not_not, not_false_eq_true, not_true_eq_false, true_and, and_true, false_and, and_false, and_self, true_implies, false_implies, implies_true, Option.toList_some, Option.toList_none, List.cons_append, List.nil_append, Nat.add_eq_zero_iff, a_nl_i, a_nl_r, a_nl_n, true_or, or_true, eq_self, a_isRA_22, a_isRA_24, a_isRA_32, a_isA_20, ok_4, ok_5, ok_6, ok_7, ok_9, ok_20, ok_21, ok_30, ok_50, ok_180, ok_192, ok_200, e4, n0, n1, s0]
    try simp only [true_and, and_true, true_implies, false_implies, implies_true, not_true_eq_false, not_false_eq_true]
    first
      | exact hP
      | grind
  · rw [if_neg c] at hP
    by_cases n0 : r < 0
    · ((try clear hc); (try clear c))
      rw [a_enter1 (M := a_m129) rfl (a_cat_rf (a_cat_int a_cat_nil)) (show 2 ≤ 2 by decide)]
      show a_at _ (a_xm a_m129) 0 [some (a_rf (C + 14)), some (.int r)] [] _ _
      simp only [q129_0, q129_1, q129_4, q129_5, q129_7, q129_10, q129_11, q129_12, q129_15, q129_16, q129_19, q129_20, q129_23, q129_24, k_14 hS, z_14, as_nil, as_i, as_r, Nat.reduceAdd, Nat.reduceLeDiff, z_eq0, z_eq1, z_or, z_em, Classical.not_not, not_false_eq_true, not_true_eq_false, true_and, and_true, false_and, and_false, and_self, true_implies, false_implies, implies_true, Option.toList_some, Option.toList_none, List.cons_append, List.nil_append, Nat.add_eq_zero_iff, a_nl_i, a_nl_r, a_nl_n, true_or, or_true, eq_self, a_isRA_22, a_isRA_24, a_isRA_32, a_isA_20, ok_4, ok_5, ok_6, ok_7, ok_9, ok_20, ok_21, ok_30, ok_50, ok_180, ok_192, ok_200, e4, n0]
      try simp only [true_and, and_true, true_implies, false_implies, implies_true, not_true_eq_false, not_false_eq_true]
      first
        | exact hP
        | grind
    · have s0 : ¬ r >>> (Y 0 17 &&& 31) = 0 := fun q => c ⟨Int32.not_lt.mp n0, (shr_0 (Int32.not_lt.mp n0) y17).mp q⟩
      by_cases n1 : 1073741824 ≤ r
      · ((try clear hc); (try clear c))
        rw [a_enter1 (M := a_m129) rfl (a_cat_rf (a_cat_int a_cat_nil)) (show 2 ≤ 2 by decide)]
        show a_at _ (a_xm a_m129) 0 [some (a_rf (C + 14)), some (.int r)] [] _ _
        simp only [q129_0, q129_1, q129_4, q129_5, q129_7, q129_10, q129_11, q129_12, q129_15, q129_16, q129_19, q129_20, q129_23, q129_24, k_14 hS, z_14, as_nil, as_i, as_r, Nat.reduceAdd, Nat.reduceLeDiff, z_eq0, z_eq1, z_or, z_em, Classical.not_not, not_false_eq_true, not_true_eq_false, true_and, and_true, false_and, and_false, and_self, true_implies, false_implies, implies_true, Option.toList_some, Option.toList_none, List.cons_append, List.nil_append, Nat.add_eq_zero_iff, a_nl_i, a_nl_r, a_nl_n, true_or, or_true, eq_self, a_isRA_22, a_isRA_24, a_isRA_32, a_isA_20, ok_4, ok_5, ok_6, ok_7, ok_9, ok_20, ok_21, ok_30, ok_50, ok_180, ok_192, ok_200, e4, n0, n1]
        try simp only [true_and, and_true, true_implies, false_implies, implies_true, not_true_eq_false, not_false_eq_true]
        first
          | exact hP
          | grind
      · ((try clear hc); (try clear c))
        rw [a_enter1 (M := a_m129) rfl (a_cat_rf (a_cat_int a_cat_nil)) (show 2 ≤ 2 by decide)]
        show a_at _ (a_xm a_m129) 0 [some (a_rf (C + 14)), some (.int r)] [] _ _
        simp only [q129_0, q129_1, q129_4, q129_5, q129_7, q129_10, q129_11, q129_12, q129_15, q129_16, q129_19, q129_20, q129_23, q129_24, k_14 hS, z_14, as_nil, as_i, as_r, Nat.reduceAdd, Nat.reduceLeDiff, z_eq0, z_eq1, z_or, z_em, Classical.not_not, not_false_eq_true, not_true_eq_false, true_and, and_true, false_and, and_false, and_self, true_implies, false_implies, implies_true, Option.toList_some, Option.toList_none, List.cons_append, List.nil_append, Nat.add_eq_zero_iff, a_nl_i, a_nl_r, a_nl_n, true_or, or_true, eq_self, a_isRA_22, a_isRA_24, a_isRA_32, a_isA_20, ok_4, ok_5, ok_6, ok_7, ok_9, ok_20, ok_21, ok_30, ok_50, ok_180, ok_192, ok_200, e4, n0, n1, s0]
        try simp only [true_and, and_true, true_implies, false_implies, implies_true, not_true_eq_false, not_false_eq_true]
        first
          | exact hP
          | grind
theorem lz_areAllFree_2 (hT : cT C K L I R) (hc : cpP C K L I R Y) {V : Bool} (hP : P (some (.int (if V = true then 1 else 0))) (n, t, K, L, I, R)) : ∀ i : Int32, i ≤ 30 → ∀ u, 0 ≤ i → i ≤ Y 0 17 → afB Y r ((Y 0 17).toNatClampNeg - i.toNatClampNeg) i = V → a_at (d + 1) (a_xm a_m131) 2 [some (a_rf (C + 14)), some (.int r), some (.int i), u] [] (n, t, K, L, I, R) P := by
  have y17 := hc.2.2.2.2.2.2.2.2.1
  have hS := hT.s
  have gA := hT.g_asksR
  have gB := hT.g_benchesR
  have gX := hT.g_textsR
  refine up_ind 30 (fun i hk ih => ?_)
  intro u h0 h1 hV
  have e4 : I (C + 14) 4 = Y 0 17 := hc.2.2.1.1
  rw [q131_2]
  by_cases ci : i < Y 0 17
  · obtain ⟨t1, t2, t3, t4⟩ := lp_st h0 ci
    have hi30 : 0 ≤ i ∧ i < 30 := ⟨h0, Int32.lt_of_lt_of_le ci y17.2⟩
    have hia : 0 ≤ i ∧ i < Y 0 17 ∧ i < 30 := ⟨h0, ci, hi30.2⟩
    obtain ⟨-, ⟨ha, an0, -⟩, -, al⟩ := aa_of hc h0 ci
    have f13 : I (R (C + 15) i.toNatClampNeg) 13 = Y 20 i.toNatClampNeg := al.2.2.2.1.1
    have f15 : (I (R (C + 15) i.toNatClampNeg) 15 = 0) = (Y 18 i.toNatClampNeg = 0) := propext al.2.2.2.2.1
    have nc : ¬ Y 0 17 ≤ i := Int32.not_le.mpr ci
    rw [t1] at hV
    unfold afB at hV
    have hnext : ¬ (bq r i.toNatClampNeg = true ∧ (0 ≤ Y 20 i.toNatClampNeg ∨ ¬ Y 18 i.toNatClampNeg = 0)) → ∀ u, a_at (d + 1) (a_xm a_m131) 44 [some (a_rf (C + 14)), some (.int r), some (.int i), u] [] (n, t, K, L, I, R) P := fun q u => by
      rw [if_neg q] at hV
      have hg := ih hi30.2 u t2 t3 hV
      ((try clear ih); (try clear hP); (try clear hc))
      simp only [q131_44, q131_47, as_nil, as_i, as_r, Nat.reduceAdd, Nat.reduceLeDiff, z_eq0, z_eq1, z_or, z_em, Classical.not_not, not_false_eq_true, not_true_eq_false, true_and, and_true, false_and, and_false, and_self, true_implies, false_implies, implies_true, Option.toList_some, Option.toList_none, List.cons_append, List.nil_append, Nat.add_eq_zero_iff, a_nl_i, a_nl_r, a_nl_n, true_or, or_true, eq_self, a_isRA_22, a_isRA_24, a_isRA_32, a_isA_20, ok_4, ok_5, ok_6, ok_7, ok_9, ok_20, ok_21, ok_30, ok_50, ok_180, ok_192, ok_200]
      exact hg
    have hfal : (bq r i.toNatClampNeg = true ∧ (0 ≤ Y 20 i.toNatClampNeg ∨ ¬ Y 18 i.toNatClampNeg = 0)) → P (some (.int 0)) (n, t, K, L, I, R) := fun q => by
      rw [if_pos q] at hV
      rw [← hV] at hP
      exact hP
    have hcall : a_does (d + 1) 130 [.int r, .int i] (n, t, K, L, I, R) (fun r' h' => a_at (d + 1) (a_xm a_m131) 21 [some (a_rf (C + 14)), some (.int r), some (.int i), some (a_rf (R (C + 15) i.toNatClampNeg))] (r'.toList ++ []) h' P) := by
      refine ce_isIn (d := d) hi30 ?_
      by_cases cb : bq r i.toNatClampNeg = true
      · rw [if_pos cb]
        by_cases cp : 0 ≤ Y 20 i.toNatClampNeg
        · have hg := hfal ⟨cb, Or.inl cp⟩
          ((try clear ih); (try clear hP); (try clear hc); (try clear hnext); (try clear hfal); (try clear hV))
          simp only [q131_21, q131_24, q131_25, q131_28, q131_29, q131_32, q131_35, q131_36, q131_39, q131_42, q131_43, k_14 hS, z_14, sp_isPlaced, as_nil, as_i, as_r, Nat.reduceAdd, Nat.reduceLeDiff, z_eq0, z_eq1, z_or, z_em, Classical.not_not, not_false_eq_true, not_true_eq_false, true_and, and_true, false_and, and_false, and_self, true_implies, false_implies, implies_true, Option.toList_some, Option.toList_none, List.cons_append, List.nil_append, Nat.add_eq_zero_iff, a_nl_i, a_nl_r, a_nl_n, true_or, or_true, eq_self, a_isRA_22, a_isRA_24, a_isRA_32, a_isA_20, ok_4, ok_5, ok_6, ok_7, ok_9, ok_20, ok_21, ok_30, ok_50, ok_180, ok_192, ok_200, ha, an0, f13, cp]
          try simp only [true_and, and_true, true_implies, false_implies, implies_true, not_true_eq_false, not_false_eq_true]
          first
            | exact hg
            | grind
        · by_cases cg : Y 18 i.toNatClampNeg = 0
          · have hg := hnext (fun q => q.2.elim cp (fun y => y cg))
            ((try clear ih); (try clear hP); (try clear hc); (try clear hnext); (try clear hfal); (try clear hV))
            simp only [q131_21, q131_24, q131_25, q131_28, q131_29, q131_32, q131_35, q131_36, q131_39, q131_42, q131_43, k_14 hS, z_14, sp_isPlaced, as_nil, as_i, as_r, Nat.reduceAdd, Nat.reduceLeDiff, z_eq0, z_eq1, z_or, z_em, Classical.not_not, not_false_eq_true, not_true_eq_false, true_and, and_true, false_and, and_false, and_self, true_implies, false_implies, implies_true, Option.toList_some, Option.toList_none, List.cons_append, List.nil_append, Nat.add_eq_zero_iff, a_nl_i, a_nl_r, a_nl_n, true_or, or_true, eq_self, a_isRA_22, a_isRA_24, a_isRA_32, a_isA_20, ok_4, ok_5, ok_6, ok_7, ok_9, ok_20, ok_21, ok_30, ok_50, ok_180, ok_192, ok_200, ha, an0, f13, cp, f15, cg]
            try simp only [true_and, and_true, true_implies, false_implies, implies_true, not_true_eq_false, not_false_eq_true]
            first
              | exact hg _
              | grind
          · have hg := hfal ⟨cb, Or.inr cg⟩
            ((try clear ih); (try clear hP); (try clear hc); (try clear hnext); (try clear hfal); (try clear hV))
            simp only [q131_21, q131_24, q131_25, q131_28, q131_29, q131_32, q131_35, q131_36, q131_39, q131_42, q131_43, k_14 hS, z_14, sp_isPlaced, as_nil, as_i, as_r, Nat.reduceAdd, Nat.reduceLeDiff, z_eq0, z_eq1, z_or, z_em, Classical.not_not, not_false_eq_true, not_true_eq_false, true_and, and_true, false_and, and_false, and_self, true_implies, false_implies, implies_true, Option.toList_some, Option.toList_none, List.cons_append, List.nil_append, Nat.add_eq_zero_iff, a_nl_i, a_nl_r, a_nl_n, true_or, or_true, eq_self, a_isRA_22, a_isRA_24, a_isRA_32, a_isA_20, ok_4, ok_5, ok_6, ok_7, ok_9, ok_20, ok_21, ok_30, ok_50, ok_180, ok_192, ok_200, ha, an0, f13, cp, f15, cg]
            try simp only [true_and, and_true, true_implies, false_implies, implies_true, not_true_eq_false, not_false_eq_true]
            first
              | exact hg
              | grind
      · rw [if_neg cb]
        have hg := hnext (fun q => cb q.1)
        ((try clear ih); (try clear hP); (try clear hc); (try clear hnext); (try clear hfal); (try clear hV))
        simp only [q131_21, as_nil, as_i, as_r, Nat.reduceAdd, Nat.reduceLeDiff, z_eq0, z_eq1, z_or, z_em, Classical.not_not, not_false_eq_true, not_true_eq_false, true_and, and_true, false_and, and_false, and_self, true_implies, false_implies, implies_true, Option.toList_some, Option.toList_none, List.cons_append, List.nil_append, Nat.add_eq_zero_iff, a_nl_i, a_nl_r, a_nl_n, true_or, or_true, eq_self, a_isRA_22, a_isRA_24, a_isRA_32, a_isA_20, ok_4, ok_5, ok_6, ok_7, ok_9, ok_20, ok_21, ok_30, ok_50, ok_180, ok_192, ok_200]
        try simp only [true_and, and_true, true_implies, false_implies, implies_true, not_true_eq_false, not_false_eq_true]
        first
          | exact hg _
          | grind
    ((try clear ih); (try clear hP); (try clear hc); (try clear hnext); (try clear hfal); (try clear hV))
    simp only [q131_3, q131_4, q131_7, q131_10, q131_11, q131_12, q131_15, q131_16, q131_17, q131_18, k_14 hS, z_14, sp_askAt hS gA, as_nil, as_i, as_r, Nat.reduceAdd, Nat.reduceLeDiff, z_eq0, z_eq1, z_or, z_em, Classical.not_not, not_false_eq_true, not_true_eq_false, true_and, and_true, false_and, and_false, and_self, true_implies, false_implies, implies_true, Option.toList_some, Option.toList_none, List.cons_append, List.nil_append, Nat.add_eq_zero_iff, a_nl_i, a_nl_r, a_nl_n, true_or, or_true, eq_self, a_isRA_22, a_isRA_24, a_isRA_32, a_isA_20, ok_4, ok_5, ok_6, ok_7, ok_9, ok_20, ok_21, ok_30, ok_50, ok_180, ok_192, ok_200, e4, hia, nc]
    try simp only [true_and, and_true, true_implies, false_implies, implies_true, not_true_eq_false, not_false_eq_true]
    first
      | exact hcall
      | grind
  · obtain ⟨ez, e⟩ := lp_end h1 ci
    rw [ez] at hV
    have hV2 : true = V := hV
    rw [← hV2] at hP
    have hp : P (some (.int 1)) (n, t, K, L, I, R) := hP
    have nc : Y 0 17 ≤ i := Int32.not_lt.mp ci
    ((try clear ih); (try clear hP); (try clear hc))
    simp only [q131_3, q131_4, q131_7, q131_50, q131_51, k_14 hS, z_14, as_nil, as_i, as_r, Nat.reduceAdd, Nat.reduceLeDiff, z_eq0, z_eq1, z_or, z_em, Classical.not_not, not_false_eq_true, not_true_eq_false, true_and, and_true, false_and, and_false, and_self, true_implies, false_implies, implies_true, Option.toList_some, Option.toList_none, List.cons_append, List.nil_append, Nat.add_eq_zero_iff, a_nl_i, a_nl_r, a_nl_n, true_or, or_true, eq_self, a_isRA_22, a_isRA_24, a_isRA_32, a_isA_20, ok_4, ok_5, ok_6, ok_7, ok_9, ok_20, ok_21, ok_30, ok_50, ok_180, ok_192, ok_200, e4, nc]
    try simp only [true_and, and_true, true_implies, false_implies, implies_true, not_true_eq_false, not_false_eq_true]
    first
      | exact hp
      | grind
theorem cz_areAllFree (hT : cT C K L I R) (hc : cpP C K L I R Y) (hP : P (some (.int (if afB Y r (Y 0 17).toNatClampNeg 0 = true then 1 else 0))) (n, t, K, L, I, R)) : a_does (d + 2) 131 [a_rf (C + 14), .int r] (n, t, K, L, I, R) P := by
  have hS := hT.s
  have hl := fun u => lz_areAllFree_2 (d := d) (n := n) (t := t) (r := r) hT hc hP 0 (by decide) u (by decide) hc.2.2.2.2.2.2.2.2.1.1 (by rw [lp_0])
  ((try clear hP); (try clear hc))
  rw [a_enter1 (M := a_m131) rfl (a_cat_rf (a_cat_int a_cat_nil)) (show 2 ≤ 4 by decide)]
  show a_at _ (a_xm a_m131) 0 [some (a_rf (C + 14)), some (.int r), none, none] [] _ _
  simp only [q131_0, q131_1, as_nil, as_i, as_r, Nat.reduceAdd, Nat.reduceLeDiff, z_eq0, z_eq1, z_or, z_em, Classical.not_not, not_false_eq_true, not_true_eq_false, true_and, and_true, false_and, and_false, and_self, true_implies, false_implies, implies_true, Option.toList_some, Option.toList_none, List.cons_append, List.nil_append, Nat.add_eq_zero_iff, a_nl_i, a_nl_r, a_nl_n, true_or, or_true, eq_self, a_isRA_22, a_isRA_24, a_isRA_32, a_isA_20, ok_4, ok_5, ok_6, ok_7, ok_9, ok_20, ok_21, ok_30, ok_50, ok_180, ok_192, ok_200]
  exact hl _
end Z9C
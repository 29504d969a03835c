/-! the class's best: its value -/
section Z9D
variable {d n t C c : Nat} {K L : Nat → Nat} {I I0 J J0 J1 J2 : Nat → Nat → Int32} {R : Nat → Nat → Nat} {P : Option Value → AH → Prop}
variable {Y Z W : Nat → Nat → Int32} {R' R1 R2 : Nat → Nat → Nat} {r : Int32}
/-- in the end the sum isn't below zero -/
theorem bsR_pos {St : Type} {fit : St → Nat → Nat → Bool} {put : St → Nat → Nat → St} {wt : Nat → Int32} {pl : Nat} (hw : ∀ k, 0 ≤ wt k ∧ wt k ≤ 100) : ∀ (z i : Nat) (X : St) (acc : Int32) (way : Nat → Int32) (B : bB), 0 ≤ acc → acc.toInt + 100 * z ≤ 400 → B.1 ≤ 400 → 0 ≤ (bsR fit put wt pl z i X acc way B).1 := by
  intro z
  induction z with
  | zero =>
    intro i X acc way B h0 h1 h2
    show 0 ≤ (bsU acc way B).1
    unfold bsU
    by_cases c : B.1 < acc
    · rw [if_pos c]
      exact h0
    · rw [if_neg c]
      exact Int32.le_trans h0 (Int32.not_lt.mp c)
  | succ z ih =>
    intro i X acc way B h0 h1 h2
    have w1 := hw i
    have c0 : (0 : Int32).toInt = 0 := rfl
    have c100 : (100 : Int32).toInt = 100 := rfl
    have e0 := Int32.le_iff_toInt_le.mp h0
    have e1 := Int32.le_iff_toInt_le.mp w1.1
    have e2 := Int32.le_iff_toInt_le.mp w1.2
    have ea : (acc + wt i).toInt = acc.toInt + (wt i).toInt := ti_add (by omega)
    have a0 : 0 ≤ acc + wt i := by rw [Int32.le_iff_toInt_le]; omega
    have key : ∀ (k p : Nat) (B : bB), p + k = pl → B.1 ≤ 400 → 0 ≤ (bsL fit put wt pl (bsR fit put wt pl z (i + 1)) i X acc way (k + 1) p B).1 := by
      intro k
      induction k with
      | zero =>
        intro p B hp hB
        have e : p = pl := by omega
        subst e
        rw [bsL_last]
        exact ih (i + 1) X acc _ B h0 (by omega) hB
      | succ k ihk =>
        intro p B hp hB
        unfold bsL
        rw [if_pos (by omega)]
        by_cases c2 : fit X i p = true
        · rw [if_pos c2]
          exact ihk (p + 1) _ (by omega) (bsR_rng hw z (i + 1) (put X i p) (acc + wt i) (up1 way i (Int32.ofNat p)) B a0 (by omega) hB).2
        · rw [if_neg c2]
          exact ihk (p + 1) B (by omega) hB
    have := key pl 0 B (Nat.zero_add _) h2
    exact this
/-- what lay there at the start doesn't matter -/
theorem bsR_j {St : Type} {fit : St → Nat → Nat → Bool} {put : St → Nat → Nat → St} {wt : Nat → Int32} {pl : Nat} (hw : ∀ k, 0 ≤ wt k ∧ wt k ≤ 100) {q q' : Nat → Int32} : ∀ (z i : Nat) (X : St) (acc : Int32) (way : Nat → Int32), 0 ≤ acc → acc.toInt + 100 * z ≤ 400 → bsR fit put wt pl z i X acc way (-1, q) = bsR fit put wt pl z i X acc way (-1, q') := by
  intro z
  induction z with
  | zero =>
    intro i X acc way h0 h1
    show bsU acc way (-1, q) = bsU acc way (-1, q')
    have c : (-1 : Int32) < acc := Int32.lt_of_lt_of_le (by decide) h0
    unfold bsU
    rw [if_pos c, if_pos c]
  | succ z ih =>
    intro i X acc way h0 h1
    have w1 := hw i
    have c0 : (0 : Int32).toInt = 0 := rfl
    have c100 : (100 : Int32).toInt = 100 := rfl
    have e0 := Int32.le_iff_toInt_le.mp h0
    have e1 := Int32.le_iff_toInt_le.mp w1.1
    have e2 := Int32.le_iff_toInt_le.mp w1.2
    have ea : (acc + wt i).toInt = acc.toInt + (wt i).toInt := ti_add (by omega)
    have a0 : 0 ≤ acc + wt i := by rw [Int32.le_iff_toInt_le]; omega
    have key : ∀ (k p : Nat), p + k = pl → bsL fit put wt pl (bsR fit put wt pl z (i + 1)) i X acc way (k + 1) p (-1, q) = bsL fit put wt pl (bsR fit put wt pl z (i + 1)) i X acc way (k + 1) p (-1, q') := by
      intro k
      induction k with
      | zero =>
        intro p hp
        have e : p = pl := by omega
        subst e
        rw [bsL_last, bsL_last]
        exact ih (i + 1) X acc _ h0 (by omega)
      | succ k ihk =>
        intro p hp
        have hpl : p < pl := by omega
        conv => lhs; unfold bsL
        conv => rhs; unfold bsL
        rw [if_pos hpl, if_pos hpl]
        by_cases c2 : fit X i p = true
        · rw [if_pos c2, if_pos c2, ih (i + 1) (put X i p) (acc + wt i) _ a0 (by omega)]
        · rw [if_neg c2, if_neg c2]
          exact ihk (p + 1) (by omega)
    exact key pl 0 (Nat.zero_add _)
theorem ce_isInG {a b : Int32} {h : AH} (hP : P (some (.int (if ((0 ≤ b ∧ b < 30) ∧ bq a b.toNatClampNeg = true) then 1 else 0))) h) : a_does (d + 1) 130 [.int a, .int b] h P := by
  by_cases hb : 0 ≤ b ∧ b < 30
  · refine ce_isIn (d := d) hb ?_
    by_cases c : bq a b.toNatClampNeg = true
    · rw [if_pos ⟨hb, c⟩] at hP
      rw [if_pos c]
      exact hP
    · rw [if_neg (fun q => c q.2)] at hP
      rw [if_neg c]
      exact hP
  · rw [if_neg (fun q => hb q.1)] at hP
    by_cases n0 : b < 0
    ·
      rw [a_enter1 (M := a_m130) rfl (a_cat_int (a_cat_int a_cat_nil)) (show 2 ≤ 2 by decide)]
      show a_at _ (a_xm a_m130) 0 [some (.int a), some (.int b)] [] _ _
      simp only [q130_0, q130_1, q130_4, q130_5, q130_7, q130_10, q130_11, q130_12, q130_13, q130_14, q130_15, q130_18, q130_19, q130_22, q130_23, as_nil, as_i, as_r, Nat.reduceAdd, Nat.reduceLeDiff, z_eq0, z_eq1, z_or, z_em, Classical.not_not, not_false_eq_true, not_true_eq_false, true_and, and_true, false_and, and_false, and_self, true_implies, false_implies, implies_true, Option.toList_some, Option.toList_none, List.cons_append, List.nil_append, Nat.add_eq_zero_iff, a_nl_i, a_nl_r, a_nl_n, true_or, or_true, eq_self, a_isRA_22, a_isRA_24, a_isRA_32, a_isA_20, ok_4, ok_5, ok_6, ok_7, ok_9, ok_20, ok_21, ok_30, ok_50, ok_180, ok_192, ok_200, n0]
      try simp only [true_and, and_true, true_implies, false_implies, implies_true, not_true_eq_false, not_false_eq_true]
      first
        | exact hP
        | grind
    · have n1 : 30 ≤ b := Int32.not_lt.mp (fun q => hb ⟨Int32.not_lt.mp n0, q⟩)
      rw [a_enter1 (M := a_m130) rfl (a_cat_int (a_cat_int a_cat_nil)) (show 2 ≤ 2 by decide)]
      show a_at _ (a_xm a_m130) 0 [some (.int a), some (.int b)] [] _ _
      simp only [q130_0, q130_1, q130_4, q130_5, q130_7, q130_10, q130_11, q130_12, q130_13, q130_14, q130_15, q130_18, q130_19, q130_22, q130_23, as_nil, as_i, as_r, Nat.reduceAdd, Nat.reduceLeDiff, z_eq0, z_eq1, z_or, z_em, Classical.not_not, not_false_eq_true, not_true_eq_false, true_and, and_true, false_and, and_false, and_self, true_implies, false_implies, implies_true, Option.toList_some, Option.toList_none, List.cons_append, List.nil_append, Nat.add_eq_zero_iff, a_nl_i, a_nl_r, a_nl_n, true_or, or_true, eq_self, a_isRA_22, a_isRA_24, a_isRA_32, a_isA_20, ok_4, ok_5, ok_6, ok_7, ok_9, ok_20, ok_21, ok_30, ok_50, ok_180, ok_192, ok_200, n0, n1]
      try simp only [true_and, and_true, true_implies, false_implies, implies_true, not_true_eq_false, not_false_eq_true]
      first
        | exact hP
        | grind
theorem me_4 (h0 : 0 ≤ r) (h4 : ¬ 4 < bcf r) (hn : (Y 0 17).toNatClampNeg ≤ 30) : (meB r (Y 0 17).toNatClampNeg).2 ≤ 4 := by
  have c4 : (4 : Int32).toInt = 4 := rfl
  have e := bcf_pn h0
  have h := Int32.le_iff_toInt_le.mp (Int32.not_lt.mp h4)
  rw [me_pn h0 (Y 0 17).toNatClampNeg (by omega)]
  have := pn_le (Y 0 17).toNatClampNeg 31 r.toInt.toNat (by omega)
  omega
theorem cv_best (hH : cH C c (n + 1) t K L I R) (hu : cuP C K L I R Y) {x y r w : Int32} (hP : ∀ J R1, P (some (.int (beV Y x y r w))) (n + 1, t, K, L, J, R1)) : a_does (d + 70) 128 [a_rf C, .int x, .int y, .int r, .int w] (n + 1, t, K, L, I, R) P := by
  have hT := hH.1
  have hS := hT.s
  have gA := hT.g_asksR
  have gB := hT.g_benchesR
  have gX := hT.g_textsR
  have hc := hu.1
  have y17 := hc.2.2.2.2.2.2.2.2.1
  have n30 : (Y 0 17).toNatClampNeg ≤ 30 := cl_le0 y17.1 y17.2
  have hq : ∀ v : Int32, beV Y x y r w = v → ∀ Q : Option Value → AH → Prop, (∀ J R1, P (some (.int v)) (n + 1, t, K, L, J, R1) → Q (some (.int v)) (n + 1, t, K, L, J, R1)) → a_does (d + 69) 10 [a_rf C, .int v] (n + 1, t, K, L, I, R) Q := fun v hv Q hQ => ge_refuse (d := d + 68) hH hu (fun J z u2 => hQ J R (by rw [← hv]; exact hP J R))
  have r38 : beV Y x y r w = -1 → a_does (d + 69) 10 [a_rf C, .int (-1)] (n + 1, t, K, L, I, R) (fun r' h' => a_at (d + 69) (a_xm a_m128) 38 [some (a_rf C), some (.int x), some (.int y), some (.int r), some (.int w)] (r'.toList ++ []) h' P) := fun hv => hq (-1) hv _ (fun J R1 hp => by
    simp only [q128_38, as_nil, as_i, as_r, Nat.reduceAdd, Nat.reduceLeDiff, z_eq0, z_eq1, z_or, z_em, Classical.not_not, not_false_eq_true, not_true_eq_false, true_and, and_true, false_and, and_false, and_self, true_implies, false_implies, implies_true, Option.toList_some, Option.toList_none, List.cons_append, List.nil_append, Nat.add_eq_zero_iff, a_nl_i, a_nl_r, a_nl_n, true_or, or_true, eq_self, a_isRA_22, a_isRA_24, a_isRA_32, a_isA_20, ok_4, ok_5, ok_6, ok_7, ok_9, ok_20, ok_21, ok_30, ok_50, ok_180, ok_192, ok_200]
    exact hp)
  by_cases c1 : ((0 ≤ x ∧ x < 200) ∧ (0 ≤ y ∧ y < 200) ∧ x ≤ y)
  · have a1 : a_does (d + 69) 129 [a_rf (C + 14), .int r] (n + 1, t, K, L, I, R) (fun r' h' => a_at (d + 69) (a_xm a_m128) 16 [some (a_rf C), some (.int x), some (.int y), some (.int r), some (.int w)] (r'.toList ++ []) h' P) := by
      refine ce_areAsks (d := d + 68) hT hc ?_
      by_cases c2 : (0 ≤ r ∧ r.toInt.toNat < 2 ^ (Y 0 17).toNatClampNeg)
      · rw [if_pos c2]
        have h39 : (0 ≤ w → ((0 ≤ w ∧ w < 30) ∧ bq r w.toNatClampNeg = true)) → a_at (d + 69) (a_xm a_m128) 39 [some (a_rf C), some (.int x), some (.int y), some (.int r), some (.int w)] [] (n + 1, t, K, L, I, R) P := fun c3 => by
          have cc : ¬ ¬ (((0 ≤ x ∧ x < 200) ∧ (0 ≤ y ∧ y < 200) ∧ x ≤ y) ∧ (0 ≤ r ∧ r.toInt.toNat < 2 ^ (Y 0 17).toNatClampNeg) ∧ (0 ≤ w → ((0 ≤ w ∧ w < 30) ∧ bq r w.toNatClampNeg = true))) := fun q => q ⟨c1, c2, c3⟩
          by_cases c4 : w < -1
          · have hr := hq (-2) (by unfold beV; rw [if_neg cc, if_pos c4]) (fun r' h' => a_at (d + 69) (a_xm a_m128) 51 [some (a_rf C), some (.int x), some (.int y), some (.int r), some (.int w)] (r'.toList ++ []) h' P) (fun J R1 hp => by
              simp only [q128_51, as_nil, as_i, as_r, Nat.reduceAdd, Nat.reduceLeDiff, z_eq0, z_eq1, z_or, z_em, Classical.not_not, not_false_eq_true, not_true_eq_false, true_and, and_true, false_and, and_false, and_self, true_implies, false_implies, implies_true, Option.toList_some, Option.toList_none, List.cons_append, List.nil_append, Nat.add_eq_zero_iff, a_nl_i, a_nl_r, a_nl_n, true_or, or_true, eq_self, a_isRA_22, a_isRA_24, a_isRA_32, a_isA_20, ok_4, ok_5, ok_6, ok_7, ok_9, ok_20, ok_21, ok_30, ok_50, ok_180, ok_192, ok_200]
              exact hp)
            have c4' : ¬ -1 ≤ w := Int32.not_le.mpr c4
            ((try clear hP); (try clear hu); (try clear hq); (try clear r38); (try clear hH); (try clear hc))
            simp only [q128_39, q128_41, q128_42, q128_45, q128_46, q128_48, k_0 hS, z_C hS, as_nil, as_i, as_r, Nat.reduceAdd, Nat.reduceLeDiff, z_eq0, z_eq1, z_or, z_em, Classical.not_not, not_false_eq_true, not_true_eq_false, true_and, and_true, false_and, and_false, and_self, true_implies, false_implies, implies_true, Option.toList_some, Option.toList_none, List.cons_append, List.nil_append, Nat.add_eq_zero_iff, a_nl_i, a_nl_r, a_nl_n, true_or, or_true, eq_self, a_isRA_22, a_isRA_24, a_isRA_32, a_isA_20, ok_4, ok_5, ok_6, ok_7, ok_9, ok_20, ok_21, ok_30, ok_50, ok_180, ok_192, ok_200, c4, c4']
            try simp only [true_and, and_true, true_implies, false_implies, implies_true, not_true_eq_false, not_false_eq_true]
            first
              | exact hr
              | grind
          · have c4' : -1 ≤ w := Int32.not_lt.mp c4
            have r74 : (8 ≤ y - x ∨ 4 < bcf r) → a_does (d + 69) 10 [a_rf C, .int (-6)] (n + 1, t, K, L, I, R) (fun r' h' => a_at (d + 69) (a_xm a_m128) 74 [some (a_rf C), some (.int x), some (.int y), some (.int r), some (.int w)] (r'.toList ++ []) h' P) := fun c5 => hq (-6) (by unfold beV; rw [if_neg cc, if_neg c4, if_pos c5]) _ (fun J R1 hp => by
              simp only [q128_74, as_nil, as_i, as_r, Nat.reduceAdd, Nat.reduceLeDiff, z_eq0, z_eq1, z_or, z_em, Classical.not_not, not_false_eq_true, not_true_eq_false, true_and, and_true, false_and, and_false, and_self, true_implies, false_implies, implies_true, Option.toList_some, Option.toList_none, List.cons_append, List.nil_append, Nat.add_eq_zero_iff, a_nl_i, a_nl_r, a_nl_n, true_or, or_true, eq_self, a_isRA_22, a_isRA_24, a_isRA_32, a_isA_20, ok_4, ok_5, ok_6, ok_7, ok_9, ok_20, ok_21, ok_30, ok_50, ok_180, ok_192, ok_200]
              exact hp)
            have h75 : ¬ (8 ≤ y - x ∨ 4 < bcf r) → a_at (d + 69) (a_xm a_m128) 75 [some (a_rf C), some (.int x), some (.int y), some (.int r), some (.int w)] [] (n + 1, t, K, L, I, R) P := fun c5 => by
              have hfree := cz_areAllFree (d := d + 67) (n := n + 1) (t := t) (r := r) hT hc (P := fun r' h' => a_at (d + 69) (a_xm a_m128) 83 [some (a_rf C), some (.int x), some (.int y), some (.int r), some (.int w)] (r'.toList ++ []) h' P) (by
                by_cases c6 : afB Y r (Y 0 17).toNatClampNeg 0 = true
                · rw [if_pos c6]
                  have hval : beV Y x y r w = if w = -1 then (beR Y x y r).1 else soI (meB r (Y 0 17).toNatClampNeg).1 (fun k => enB Y x (plN Y x y) ((beR Y x y r).2 k)) w (meB r (Y 0 17).toNatClampNeg).2 0 := by
                    unfold beV
                    rw [if_neg cc, if_neg c4, if_neg c5, if_neg (by rw [c6]; decide)]
                  have m4 := me_4 c2.1 (fun q => c5 (Or.inr q)) n30
                  have y199 : y ≤ 199 := by ((try clear hP); (try clear hu); (try clear hq); (try clear r38); (try clear hH); (try clear hc)); grind
                  have x199 : x ≤ 199 := by ((try clear hP); (try clear hu); (try clear hq); (try clear r38); (try clear hH); (try clear hc)); grind
                  have d7 : y - x ≤ 7 := by ((try clear hP); (try clear hu); (try clear hq); (try clear r38); (try clear hH); (try clear hc)); grind
                  have hpr := pl_mk (Y := Y) (f := x) (e := y) hc.2.2.2.2.2.2.2.2.2.1 ⟨c1.1.1, x199⟩ y199 ⟨c1.2.2, d7⟩
                  have hs := cz_search (d := d + 38) (n := n + 1) (t := t) (f := x) (e := y) (r := r) hH hc hu.2.1 hu.2.2.2.1 hpr ⟨c1.2.2, d7⟩ (fun k k0 k1 hb => af_free (m := Y 0 17) (Y 0 17).toNatClampNeg 0 (by decide) y17.1 (by rw [show (0 : Int32).toNatClampNeg = 0 from rfl, Nat.zero_add]) c6 k k0 k1 hb) m4 (P := fun r' h' => a_at (d + 69) (a_xm a_m128) 103 [some (a_rf C), some (.int x), some (.int y), some (.int r), some (.int w)] (r'.toList ++ []) h' P) (fun J R1 fb e8 em sb => by
                    have hS := fb.1.1.s
                    have hT2 := fb.1.1
                    have hc2 := fb_cp hT hc fb
                    have bp : 0 ≤ (beR Y x y r).1 := bsR_pos (fun _ => bwt_rng) (meB r (Y 0 17).toNatClampNeg).2 0 Y 0 (fun _ => 0) (-1, fun _ => 0) (by decide) (by
                      have c0 : (0 : Int32).toInt = 0 := rfl
                      rw [c0]
                      omega) (by decide)
                    have e9 := sb.1
                    by_cases c7 : w = -1
                    · have hp : P (some (.int (beR Y x y r).1)) (n + 1, t, K, L, J, R1) := by
                        have := hP J R1
                        rw [hval, if_pos c7] at this
                        exact this
                      ((try clear hP); (try clear hu); (try clear hq); (try clear r38); (try clear hH); (try clear hc); (try clear hc2); (try clear sb); (try clear em); (try clear hval))
                      simp only [q128_103, q128_105, q128_106, q128_109, q128_110, q128_113, q128_116, q128_128, k_0 hS, z_C hS, r_0_6 hS, k_27 hS, z_27, as_nil, as_i, as_r, Nat.reduceAdd, Nat.reduceLeDiff, z_eq0, z_eq1, z_or, z_em, Classical.not_not, not_false_eq_true, not_true_eq_false, true_and, and_true, false_and, and_false, and_self, true_implies, false_implies, implies_true, Option.toList_some, Option.toList_none, List.cons_append, List.nil_append, Nat.add_eq_zero_iff, a_nl_i, a_nl_r, a_nl_n, true_or, or_true, eq_self, a_isRA_22, a_isRA_24, a_isRA_32, a_isA_20, ok_4, ok_5, ok_6, ok_7, ok_9, ok_20, ok_21, ok_30, ok_50, ok_180, ok_192, ok_200, c7, e9]
                      try simp only [true_and, and_true, true_implies, false_implies, implies_true, not_true_eq_false, not_false_eq_true]
                      first
                        | exact hp
                        | grind
                    · have hso := cz_spotOf (d := d + 68) (n := n + 1) (t := t) (g := (meB r (Y 0 17).toNatClampNeg).1) (v := fun k => enB Y x (plN Y x y) ((beR Y x y r).2 k)) (mn := (meB r (Y 0 17).toNatClampNeg).2) (w := w) hT2 hc2 m4 e8 (fun k hk => by
                        obtain ⟨q, q1, q2, q3⟩ := me_in (r := r) (Y 0 17).toNatClampNeg (by omega) k hk
                        refine ⟨?_, em k hk⟩
                        rw [q2]
                        exact ⟨io_0 (by omega), cl_lt2 (io_0 (by omega)) y17.1 (by rw [(io (n := q) (by omega)).2]; exact q1)⟩) (sb.2 bp) (P := fun r' h' => a_at (d + 69) (a_xm a_m128) 128 [some (a_rf C), some (.int x), some (.int y), some (.int r), some (.int w)] (r'.toList ++ []) h' P) (by
                        have hp := hP J R1
                        rw [hval, if_neg c7] at hp
                        ((try clear hP); (try clear hu); (try clear hq); (try clear r38); (try clear hH); (try clear hc); (try clear hc2); (try clear sb); (try clear em); (try clear hval))
                        simp only [q128_128, as_nil, as_i, as_r, Nat.reduceAdd, Nat.reduceLeDiff, z_eq0, z_eq1, z_or, z_em, Classical.not_not, not_false_eq_true, not_true_eq_false, true_and, and_true, false_and, and_false, and_self, true_implies, false_implies, implies_true, Option.toList_some, Option.toList_none, List.cons_append, List.nil_append, Nat.add_eq_zero_iff, a_nl_i, a_nl_r, a_nl_n, true_or, or_true, eq_self, a_isRA_22, a_isRA_24, a_isRA_32, a_isA_20, ok_4, ok_5, ok_6, ok_7, ok_9, ok_20, ok_21, ok_30, ok_50, ok_180, ok_192, ok_200]
                        exact hp)
                      ((try clear hP); (try clear hu); (try clear hq); (try clear r38); (try clear hH); (try clear hc); (try clear hc2); (try clear sb); (try clear em); (try clear hval))
                      simp only [q128_103, q128_105, q128_106, q128_109, q128_110, q128_113, q128_116, q128_119, q128_120, q128_123, q128_125, k_0 hS, z_C hS, r_0_6 hS, k_27 hS, z_27, as_nil, as_i, as_r, Nat.reduceAdd, Nat.reduceLeDiff, z_eq0, z_eq1, z_or, z_em, Classical.not_not, not_false_eq_true, not_true_eq_false, true_and, and_true, false_and, and_false, and_self, true_implies, false_implies, implies_true, Option.toList_some, Option.toList_none, List.cons_append, List.nil_append, Nat.add_eq_zero_iff, a_nl_i, a_nl_r, a_nl_n, true_or, or_true, eq_self, a_isRA_22, a_isRA_24, a_isRA_32, a_isA_20, ok_4, ok_5, ok_6, ok_7, ok_9, ok_20, ok_21, ok_30, ok_50, ok_180, ok_192, ok_200, c7]
                      try simp only [true_and, and_true, true_implies, false_implies, implies_true, not_true_eq_false, not_false_eq_true]
                      first
                        | exact hso
                        | grind)
                  ((try clear hP); (try clear hu); (try clear hq); (try clear r38); (try clear hH); (try clear hc); (try clear hval))
                  simp only [q128_83, q128_93, q128_94, q128_97, q128_98, q128_99, q128_100, k_0 hS, z_C hS, r_0_6 hS, k_27 hS, z_27, as_nil, as_i, as_r, Nat.reduceAdd, Nat.reduceLeDiff, z_eq0, z_eq1, z_or, z_em, Classical.not_not, not_false_eq_true, not_true_eq_false, true_and, and_true, false_and, and_false, and_self, true_implies, false_implies, implies_true, Option.toList_some, Option.toList_none, List.cons_append, List.nil_append, Nat.add_eq_zero_iff, a_nl_i, a_nl_r, a_nl_n, true_or, or_true, eq_self, a_isRA_22, a_isRA_24, a_isRA_32, a_isA_20, ok_4, ok_5, ok_6, ok_7, ok_9, ok_20, ok_21, ok_30, ok_50, ok_180, ok_192, ok_200]
                  try simp only [true_and, and_true, true_implies, false_implies, implies_true, not_true_eq_false, not_false_eq_true]
                  first
                    | exact hs
                    | grind
                · rw [if_neg c6]
                  have hr := hq (-3) (by unfold beV; rw [if_neg cc, if_neg c4, if_neg c5, if_pos (Bool.not_eq_true _ ▸ c6)]) (fun r' h' => a_at (d + 69) (a_xm a_m128) 92 [some (a_rf C), some (.int x), some (.int y), some (.int r), some (.int w)] (r'.toList ++ []) h' P) (fun J R1 hp => by
                    simp only [q128_92, as_nil, as_i, as_r, Nat.reduceAdd, Nat.reduceLeDiff, z_eq0, z_eq1, z_or, z_em, Classical.not_not, not_false_eq_true, not_true_eq_false, true_and, and_true, false_and, and_false, and_self, true_implies, false_implies, implies_true, Option.toList_some, Option.toList_none, List.cons_append, List.nil_append, Nat.add_eq_zero_iff, a_nl_i, a_nl_r, a_nl_n, true_or, or_true, eq_self, a_isRA_22, a_isRA_24, a_isRA_32, a_isA_20, ok_4, ok_5, ok_6, ok_7, ok_9, ok_20, ok_21, ok_30, ok_50, ok_180, ok_192, ok_200]
                    exact hp)
                  ((try clear hP); (try clear hu); (try clear hq); (try clear r38); (try clear hH); (try clear hc))
                  simp only [q128_83, q128_86, q128_87, q128_89, k_0 hS, z_C hS, as_nil, as_i, as_r, Nat.reduceAdd, Nat.reduceLeDiff, z_eq0, z_eq1, z_or, z_em, Classical.not_not, not_false_eq_true, not_true_eq_false, true_and, and_true, false_and, and_false, and_self, true_implies, false_implies, implies_true, Option.toList_some, Option.toList_none, List.cons_append, List.nil_append, Nat.add_eq_zero_iff, a_nl_i, a_nl_r, a_nl_n, true_or, or_true, eq_self, a_isRA_22, a_isRA_24, a_isRA_32, a_isA_20, ok_4, ok_5, ok_6, ok_7, ok_9, ok_20, ok_21, ok_30, ok_50, ok_180, ok_192, ok_200]
                  try simp only [true_and, and_true, true_implies, false_implies, implies_true, not_true_eq_false, not_false_eq_true]
                  first
                    | exact hr
                    | grind)
              ((try clear hP); (try clear hu); (try clear hq); (try clear r38); (try clear hH); (try clear hc))
              simp only [q128_75, q128_76, q128_79, q128_80, k_0 hS, z_C hS, r_0_4 hS, k_14 hS, z_14, as_nil, as_i, as_r, Nat.reduceAdd, Nat.reduceLeDiff, z_eq0, z_eq1, z_or, z_em, Classical.not_not, not_false_eq_true, not_true_eq_false, true_and, and_true, false_and, and_false, and_self, true_implies, false_implies, implies_true, Option.toList_some, Option.toList_none, List.cons_append, List.nil_append, Nat.add_eq_zero_iff, a_nl_i, a_nl_r, a_nl_n, true_or, or_true, eq_self, a_isRA_22, a_isRA_24, a_isRA_32, a_isA_20, ok_4, ok_5, ok_6, ok_7, ok_9, ok_20, ok_21, ok_30, ok_50, ok_180, ok_192, ok_200]
              exact hfree
            by_cases c8 : 8 ≤ y - x
            · have hr := r74 (Or.inl c8)
              ((try clear hP); (try clear hu); (try clear hq); (try clear r38); (try clear hH); (try clear hc); (try clear r74); (try clear h75))
              simp only [q128_39, q128_41, q128_42, q128_45, q128_46, q128_48, q128_51, q128_52, q128_53, q128_54, q128_55, q128_57, q128_68, q128_69, q128_71, k_0 hS, z_C hS, as_nil, as_i, as_r, Nat.reduceAdd, Nat.reduceLeDiff, z_eq0, z_eq1, z_or, z_em, Classical.not_not, not_false_eq_true, not_true_eq_false, true_and, and_true, false_and, and_false, and_self, true_implies, false_implies, implies_true, Option.toList_some, Option.toList_none, List.cons_append, List.nil_append, Nat.add_eq_zero_iff, a_nl_i, a_nl_r, a_nl_n, true_or, or_true, eq_self, a_isRA_22, a_isRA_24, a_isRA_32, a_isA_20, ok_4, ok_5, ok_6, ok_7, ok_9, ok_20, ok_21, ok_30, ok_50, ok_180, ok_192, ok_200, c4', c4, c8]
              try simp only [true_and, and_true, true_implies, false_implies, implies_true, not_true_eq_false, not_false_eq_true]
              first
                | exact hr
                | grind
            · by_cases c9 : 4 < bcf r
              · have hr := r74 (Or.inr c9)
                have c9' : ¬ bcf r ≤ 4 := Int32.not_le.mpr c9
                ((try clear hP); (try clear hu); (try clear hq); (try clear r38); (try clear hH); (try clear hc); (try clear r74); (try clear h75))
                simp only [q128_39, q128_41, q128_42, q128_45, q128_46, q128_48, q128_51, q128_52, q128_53, q128_54, q128_55, q128_57, q128_60, q128_61, q128_64, q128_65, q128_68, q128_69, q128_71, k_0 hS, z_C hS, as_nil, as_i, as_r, Nat.reduceAdd, Nat.reduceLeDiff, z_eq0, z_eq1, z_or, z_em, Classical.not_not, not_false_eq_true, not_true_eq_false, true_and, and_true, false_and, and_false, and_self, true_implies, false_implies, implies_true, Option.toList_some, Option.toList_none, List.cons_append, List.nil_append, Nat.add_eq_zero_iff, a_nl_i, a_nl_r, a_nl_n, true_or, or_true, eq_self, a_isRA_22, a_isRA_24, a_isRA_32, a_isA_20, ok_4, ok_5, ok_6, ok_7, ok_9, ok_20, ok_21, ok_30, ok_50, ok_180, ok_192, ok_200, c4', c4, c8, sp_bitCount, c9, c9']
                try simp only [true_and, and_true, true_implies, false_implies, implies_true, not_true_eq_false, not_false_eq_true]
                first
                  | exact hr
                  | grind
              · have hr := h75 (fun q => q.elim c8 c9)
                have c9' : bcf r ≤ 4 := Int32.not_lt.mp c9
                ((try clear hP); (try clear hu); (try clear hq); (try clear r38); (try clear hH); (try clear hc); (try clear r74); (try clear h75))
                simp only [q128_39, q128_41, q128_42, q128_45, q128_46, q128_48, q128_51, q128_52, q128_53, q128_54, q128_55, q128_57, q128_60, q128_61, q128_64, q128_65, k_0 hS, z_C hS, as_nil, as_i, as_r, Nat.reduceAdd, Nat.reduceLeDiff, z_eq0, z_eq1, z_or, z_em, Classical.not_not, not_false_eq_true, not_true_eq_false, true_and, and_true, false_and, and_false, and_self, true_implies, false_implies, implies_true, Option.toList_some, Option.toList_none, List.cons_append, List.nil_append, Nat.add_eq_zero_iff, a_nl_i, a_nl_r, a_nl_n, true_or, or_true, eq_self, a_isRA_22, a_isRA_24, a_isRA_32, a_isA_20, ok_4, ok_5, ok_6, ok_7, ok_9, ok_20, ok_21, ok_30, ok_50, ok_180, ok_192, ok_200, c4', c4, c8, sp_bitCount, c9, c9']
                try simp only [true_and, and_true, true_implies, false_implies, implies_true, not_true_eq_false, not_false_eq_true]
                first
                  | exact hr
                  | grind
        by_cases c3 : 0 ≤ w
        · have hin : a_does (d + 69) 130 [.int r, .int w] (n + 1, t, K, L, I, R) (fun r' h' => a_at (d + 69) (a_xm a_m128) 30 [some (a_rf C), some (.int x), some (.int y), some (.int r), some (.int w)] (r'.toList ++ []) h' P) := by
            refine ce_isInG (d := d + 68) ?_
            by_cases ci : ((0 ≤ w ∧ w < 30) ∧ bq r w.toNatClampNeg = true)
            · rw [if_pos ci]
              have hg := h39 (fun _ => ci)
              ((try clear hP); (try clear hu); (try clear hq); (try clear r38); (try clear hH); (try clear hc); (try clear h39))
              simp only [q128_30, as_nil, as_i, as_r, Nat.reduceAdd, Nat.reduceLeDiff, z_eq0, z_eq1, z_or, z_em, Classical.not_not, not_false_eq_true, not_true_eq_false, true_and, and_true, false_and, and_false, and_self, true_implies, false_implies, implies_true, Option.toList_some, Option.toList_none, List.cons_append, List.nil_append, Nat.add_eq_zero_iff, a_nl_i, a_nl_r, a_nl_n, true_or, or_true, eq_self, a_isRA_22, a_isRA_24, a_isRA_32, a_isA_20, ok_4, ok_5, ok_6, ok_7, ok_9, ok_20, ok_21, ok_30, ok_50, ok_180, ok_192, ok_200]
              try simp only [true_and, and_true, true_implies, false_implies, implies_true, not_true_eq_false, not_false_eq_true]
              first
                | exact hg
                | grind
            · rw [if_neg ci]
              have hr := r38 (by unfold beV; rw [if_pos (fun q => ci (q.2.2 c3))])
              ((try clear hP); (try clear hu); (try clear hq); (try clear r38); (try clear hH); (try clear hc); (try clear h39))
              simp only [q128_30, q128_33, q128_34, q128_35, k_0 hS, z_C hS, as_nil, as_i, as_r, Nat.reduceAdd, Nat.reduceLeDiff, z_eq0, z_eq1, z_or, z_em, Classical.not_not, not_false_eq_true, not_true_eq_false, true_and, and_true, false_and, and_false, and_self, true_implies, false_implies, implies_true, Option.toList_some, Option.toList_none, List.cons_append, List.nil_append, Nat.add_eq_zero_iff, a_nl_i, a_nl_r, a_nl_n, true_or, or_true, eq_self, a_isRA_22, a_isRA_24, a_isRA_32, a_isA_20, ok_4, ok_5, ok_6, ok_7, ok_9, ok_20, ok_21, ok_30, ok_50, ok_180, ok_192, ok_200]
              try simp only [true_and, and_true, true_implies, false_implies, implies_true, not_true_eq_false, not_false_eq_true]
              first
                | exact hr
                | grind
          have c3' : ¬ w < 0 := Int32.not_lt.mpr c3
          ((try clear hP); (try clear hu); (try clear hq); (try clear r38); (try clear hH); (try clear hc); (try clear h39))
          simp only [q128_16, q128_19, q128_21, q128_24, q128_25, q128_27, as_nil, as_i, as_r, Nat.reduceAdd, Nat.reduceLeDiff, z_eq0, z_eq1, z_or, z_em, Classical.not_not, not_false_eq_true, not_true_eq_false, true_and, and_true, false_and, and_false, and_self, true_implies, false_implies, implies_true, Option.toList_some, Option.toList_none, List.cons_append, List.nil_append, Nat.add_eq_zero_iff, a_nl_i, a_nl_r, a_nl_n, true_or, or_true, eq_self, a_isRA_22, a_isRA_24, a_isRA_32, a_isA_20, ok_4, ok_5, ok_6, ok_7, ok_9, ok_20, ok_21, ok_30, ok_50, ok_180, ok_192, ok_200, c3', c3]
          try simp only [true_and, and_true, true_implies, false_implies, implies_true, not_true_eq_false, not_false_eq_true]
          first
            | exact hin
            | grind
        · have hg := h39 (fun q => absurd q c3)
          have c3' : w < 0 := Int32.not_le.mp c3
          ((try clear hP); (try clear hu); (try clear hq); (try clear r38); (try clear hH); (try clear hc); (try clear h39))
          simp only [q128_16, q128_19, q128_21, as_nil, as_i, as_r, Nat.reduceAdd, Nat.reduceLeDiff, z_eq0, z_eq1, z_or, z_em, Classical.not_not, not_false_eq_true, not_true_eq_false, true_and, and_true, false_and, and_false, and_self, true_implies, false_implies, implies_true, Option.toList_some, Option.toList_none, List.cons_append, List.nil_append, Nat.add_eq_zero_iff, a_nl_i, a_nl_r, a_nl_n, true_or, or_true, eq_self, a_isRA_22, a_isRA_24, a_isRA_32, a_isA_20, ok_4, ok_5, ok_6, ok_7, ok_9, ok_20, ok_21, ok_30, ok_50, ok_180, ok_192, ok_200, c3', c3]
          try simp only [true_and, and_true, true_implies, false_implies, implies_true, not_true_eq_false, not_false_eq_true]
          first
            | exact hg
            | grind
      · rw [if_neg c2]
        have hr := r38 (by unfold beV; rw [if_pos (fun q => c2 q.2.1)])
        ((try clear hP); (try clear hu); (try clear hq); (try clear r38); (try clear hH); (try clear hc))
        simp only [q128_16, q128_33, q128_34, q128_35, k_0 hS, z_C hS, as_nil, as_i, as_r, Nat.reduceAdd, Nat.reduceLeDiff, z_eq0, z_eq1, z_or, z_em, Classical.not_not, not_false_eq_true, not_true_eq_false, true_and, and_true, false_and, and_false, and_self, true_implies, false_implies, implies_true, Option.toList_some, Option.toList_none, List.cons_append, List.nil_append, Nat.add_eq_zero_iff, a_nl_i, a_nl_r, a_nl_n, true_or, or_true, eq_self, a_isRA_22, a_isRA_24, a_isRA_32, a_isA_20, ok_4, ok_5, ok_6, ok_7, ok_9, ok_20, ok_21, ok_30, ok_50, ok_180, ok_192, ok_200]
        try simp only [true_and, and_true, true_implies, false_implies, implies_true, not_true_eq_false, not_false_eq_true]
        first
          | exact hr
          | grind
    ((try clear hP); (try clear hu); (try clear hq); (try clear r38); (try clear hH); (try clear hc))
    rw [a_enter1 (M := a_m128) rfl (a_cat_rf (a_cat_int (a_cat_int (a_cat_int (a_cat_int a_cat_nil))))) (show 5 ≤ 5 by decide)]
    show a_at _ (a_xm a_m128) 0 [some (a_rf C), some (.int x), some (.int y), some (.int r), some (.int w)] [] _ _
    simp only [q128_0, q128_1, q128_2, q128_5, q128_8, q128_9, q128_12, q128_13, k_0 hS, z_C hS, r_0_4 hS, k_14 hS, z_14, sp_areShifts, as_nil, as_i, as_r, Nat.reduceAdd, Nat.reduceLeDiff, z_eq0, z_eq1, z_or, z_em, Classical.not_not, not_false_eq_true, not_true_eq_false, true_and, and_true, false_and, and_false, and_self, true_implies, false_implies, implies_true, Option.toList_some, Option.toList_none, List.cons_append, List.nil_append, Nat.add_eq_zero_iff, a_nl_i, a_nl_r, a_nl_n, true_or, or_true, eq_self, a_isRA_22, a_isRA_24, a_isRA_32, a_isA_20, ok_4, ok_5, ok_6, ok_7, ok_9, ok_20, ok_21, ok_30, ok_50, ok_180, ok_192, ok_200, c1]
    try simp only [true_and, and_true, true_implies, false_implies, implies_true, not_true_eq_false, not_false_eq_true]
    first
      | exact a1
      | grind
  · have hr := r38 (by unfold beV; rw [if_pos (fun q => c1 q.1)])
    ((try clear hP); (try clear hu); (try clear hq); (try clear r38); (try clear hH); (try clear hc))
    rw [a_enter1 (M := a_m128) rfl (a_cat_rf (a_cat_int (a_cat_int (a_cat_int (a_cat_int a_cat_nil))))) (show 5 ≤ 5 by decide)]
    show a_at _ (a_xm a_m128) 0 [some (a_rf C), some (.int x), some (.int y), some (.int r), some (.int w)] [] _ _
    simp only [q128_0, q128_1, q128_2, q128_5, q128_33, q128_34, q128_35, k_0 hS, z_C hS, sp_areShifts, as_nil, as_i, as_r, Nat.reduceAdd, Nat.reduceLeDiff, z_eq0, z_eq1, z_or, z_em, Classical.not_not, not_false_eq_true, not_true_eq_false, true_and, and_true, false_and, and_false, and_self, true_implies, false_implies, implies_true, Option.toList_some, Option.toList_none, List.cons_append, List.nil_append, Nat.add_eq_zero_iff, a_nl_i, a_nl_r, a_nl_n, true_or, or_true, eq_self, a_isRA_22, a_isRA_24, a_isRA_32, a_isA_20, ok_4, ok_5, ok_6, ok_7, ok_9, ok_20, ok_21, ok_30, ok_50, ok_180, ok_192, ok_200, c1]
    try simp only [true_and, and_true, true_implies, false_implies, implies_true, not_true_eq_false, not_false_eq_true]
    first
      | exact hr
      | grind
end Z9D
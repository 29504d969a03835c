/-! the reference's search for the best, whole -/
section Z95
variable {d n t M : Nat} {K L : Nat → Nat} {I I0 J J0 J1 J2 : Nat → Nat → Int32} {R : Nat → Nat → Nat} {P : Option Value → AH → Prop} {f : Nat → Int32} {e : Int32}
variable {Y Z W : Nat → Nat → Int32} {g : Nat → Int32} {f e : Int32} {pl m : Nat}
theorem ft_len {W : Nat → Nat → Int32} {k p : Nat} (hpr : plR Y f e pl) (hl : 0 ≤ Y 10 (g k).toNatClampNeg ∧ Y 10 (g k).toNatClampNeg ≤ 4) (hb : bfi Y f e g W k p = true) (hp : p < pl) : (f + Int32.ofNat p / Y 0 6) + Y 10 (g k).toNatClampNeg ≤ 200 := by
  have h := (of_decide_eq_true hb).1
  have r := (pl_rng hpr hp).2.1
  have e9 := hpr.2.2.2.1
  generalize f + Int32.ofNat p / Y 0 6 = x at h r ⊢
  generalize Y 10 (g k).toNatClampNeg = y at h hl ⊢
  ((try clear hpr); (try clear hb))
  grind
theorem wq_in (hpr : plR Y f e pl) (h : inP W) (hb : sbE Y W) {w : Nat → Int32} : ∀ k, (∀ j, j < k → wq Y f g pl w j) → inP (bsW (bpu Y f g) pl W w k) := by
  intro k
  induction k with
  | zero => intro _; exact h
  | succ k ih =>
    intro hf
    have ih := ih (fun j hj => hf j (by omega))
    obtain ⟨q, q1, q2, q3⟩ := hf k (by omega)
    have qn : (w k).toNatClampNeg = q := by rw [q2]; exact (io (by have := hpr.1; omega)).2
    unfold bsW
    rw [qn]
    by_cases c : q < pl
    · rw [if_pos c]
      obtain ⟨⟨r1, r2, r3⟩, r4, -⟩ := pl_rng hpr c
      refine inP_pu ih ⟨r4.1, Int32.le_trans r4.2 (by decide), ?_⟩ r3
      rw [sbE_r (bW_sb hb k) (k := 10) (by omega)]
      exact q3 c
    · rw [if_neg c]
      exact ih
theorem maY_b (h : sbE Y Z) {a : Int32} : maY Z a = maY Y a := by
  unfold maY
  rw [cmY_b h, hsY_b h]
/-- the head of the search -/
theorem xb_31 (hS : m_S M K L R) (hy : okY Y) (hpr : plR Y f e pl) (hgk : gOK Y Y g m) {V : bB} (hP : xend d n t M K L R Y g m V P) : ∀ z, xgo d n t M K L R I Y Y g f e pl m V P z := by
  have h17 := hy.1.2.2.2.2.1
  have h10 := hy.1.2.1
  have hin := hy.2.1.2.2.2.1
  have h48 := hpr.1
  obtain ⟨hm4, hg30, hgd, hgu⟩ := id hgk
  intro z
  induction z with
  | zero => intro J w i B k p u v hz; omega
  | succ z ih =>
    intro J w i B k p u v hz him hw hb hV
    have i0 := io_0 (n := i) (by omega)
    have ni := (io (n := i) (by omega)).2
    have nlt : (Int32.ofNat i < 0) = False := eq_false (Int32.not_lt.mpr i0)
    have e66 := hb.2.1.1
    have wib : -1 ≤ w i ∧ w i ≤ Int32.ofNat pl := by
      rcases hw.2 with c | ⟨x, x1, x2, -⟩
      · rw [c]
        exact ⟨by decide, Int32.le_trans (by decide) (io_0 (n := pl) (by omega))⟩
      · rw [x2]
        exact ⟨Int32.le_trans (by decide) (io_0 (n := x) (by omega)), by rw [io_le (by omega) (by omega)]; exact x1⟩
    by_cases c : i = m
    · -- all are placed or left out
      subst c
      have hc : cW Y f g pl i Y w i = bsW (bpu Y f g) pl Y w i := by
        unfold cW
        rw [if_neg (fun x => absurd x.1 (Nat.lt_irrefl i))]
      rw [hc] at hb
      have hV2 : bsC (bfi Y f e g) (bpu Y f g) (bwt Y g) pl i Y w i (bsU (bsA (bwt Y g) pl w i) (wcut i w) B) = V := by
        unfold bsH at hV
        rw [if_pos rfl] at hV
        exact hV
      have hbk : 0 < i → mu (Int32.ofNat pl) w (Int32.ofNat (i - 1)) < z := fun hi => by
        have e1 := io_p (n := i - 1) (by omega)
        rw [show i - 1 + 1 = i by omega] at e1
        have i4 : Int32.ofNat i ≤ 4 := by rw [Int32.le_iff_toInt_le, (io (n := i) (by omega)).1]; show (i : Int) ≤ 4; omega
        have p48 : 0 ≤ Int32.ofNat pl ∧ Int32.ofNat pl ≤ 48 := ⟨io_0 (by omega), by rw [Int32.le_iff_toInt_le, (io (n := pl) (by omega)).1]; show (pl : Int) ≤ 48; omega⟩
        have h := mu_back (p := Int32.ofNat pl) (i := Int32.ofNat i) (w := w) (w' := w) i0 i4 p48 (by rw [ni]; exact wib) (fun _ _ => rfl)
        rw [e1] at h
        omega
      have e43 := hb.2.2.2.1 i (Nat.le_refl i)
      have ok5 := io_k (n := i) (k := 5) (by omega) (by omega)
      by_cases c2 : B.1 < bsA (bwt Y g) pl w i
      · have eB : bsU (bsA (bwt Y g) pl w i) (wcut i w) B = (bsA (bwt Y g) pl w i, wcut i w) := if_pos c2
        rw [eB] at hV2
        have h69 := xb_69 (d := d) (n := n) (t := t) (P := P) (b := bsA (bwt Y g) pl w i) (p := p) (u := u) (v := v) hS h48 hm4 (fun k hk => hw.1 k hk) (fun J2 k2 hb2 => by
          have hg := xb_back (V := V) (z := z) (i := i) (w := w) (B := (bsA (bwt Y g) pl w i, wcut i w)) (k := k2) (p := p) (u := u) (v := v) hS hP ih hm4 h48 (Nat.le_refl i) hw.1 hbk ⟨hb2.1, hb2.2.1, hb2.2.2.1, hb2.2.2.2.1, fun x hx => by rw [hb2.2.2.2.2 x hx]; exact (if_pos hx).symm⟩ hV2
          ((try clear hP); (try clear ih); (try clear hb); (try clear hb2); (try clear hV); (try clear hV2); (try clear hbk); (try clear hw))
          simp only [q243_98, q243_101, as_nil, as_i, as_r, Nat.reduceAdd, Nat.reduceLeDiff, z_eq0, z_eq1, z_or, z_em, Classical.not_not, not_false_eq_true, not_true_eq_false, true_and, and_true, false_and, and_false, and_self, true_implies, false_implies, implies_true, Option.toList_some, Option.toList_none, List.cons_append, List.nil_append, Nat.add_eq_zero_iff, a_nl_i, a_nl_r, a_nl_n, true_or, or_true, eq_self, ok_4, ok_5, ok_6, ok_7, ok_9, ok_10, ok_20, ok_21, ok_24, ok_30, ok_48, ok_50, ok_60, ok_80, ok_120, ok_180, ok_192, ok_200, ok_900, ok_1000, ok_84000]
          exact hg) i 0 J (by omega) ⟨B.2, fun x hx => absurd hx (Nat.not_lt_zero x), hb⟩
        have c3 : (bsA (bwt Y g) pl w i ≤ B.1) = False := eq_false (Int32.not_le.mpr c2)
        ((try clear hP); (try clear ih); (try clear hb); (try clear hV); (try clear hV2); (try clear hbk); (try clear hw))
        rw [q243_31]
        simp only [q243_33, q243_36, q243_38, q243_39, q243_42, q243_45, q243_46, q243_49, q243_51, q243_52, q243_54, q243_57, q243_58, q243_61, q243_63, q243_64, q243_66, q243_67, m_0 hS, m_K hS, mR_sumTo hS, mK_sumTo hS, mL_sumTo hS, as_nil, as_i, as_r, Nat.reduceAdd, Nat.reduceLeDiff, z_eq0, z_eq1, z_or, z_em, Classical.not_not, not_false_eq_true, not_true_eq_false, true_and, and_true, false_and, and_false, and_self, true_implies, false_implies, implies_true, Option.toList_some, Option.toList_none, List.cons_append, List.nil_append, Nat.add_eq_zero_iff, a_nl_i, a_nl_r, a_nl_n, true_or, or_true, eq_self, ok_4, ok_5, ok_6, ok_7, ok_9, ok_10, ok_20, ok_21, ok_24, ok_30, ok_48, ok_50, ok_60, ok_80, ok_120, ok_180, ok_192, ok_200, ok_900, ok_1000, ok_84000, nlt, e66, e43, ni, ok5, c3]
        try simp only [true_and, and_true, true_implies, false_implies, implies_true, not_true_eq_false, not_false_eq_true]
        first
          | exact h69
          | grind
      · have eB : bsU (bsA (bwt Y g) pl w i) (wcut i w) B = B := if_neg c2
        rw [eB] at hV2
        have hg := fun k2 => xb_back (V := V) (z := z) (i := i) (w := w) (B := B) (k := k2) (p := p) (u := u) (v := v) hS hP ih hm4 h48 (Nat.le_refl i) hw.1 hbk hb hV2
        have c3 : (bsA (bwt Y g) pl w i ≤ B.1) = True := eq_true (Int32.not_lt.mp c2)
        ((try clear hP); (try clear ih); (try clear hb); (try clear hV); (try clear hV2); (try clear hbk); (try clear hw))
        rw [q243_31]
        simp only [q243_33, q243_36, q243_38, q243_39, q243_42, q243_45, q243_46, q243_49, q243_51, q243_52, q243_54, q243_98, q243_101, m_0 hS, m_K hS, mR_sumTo hS, mK_sumTo hS, mL_sumTo hS, as_nil, as_i, as_r, Nat.reduceAdd, Nat.reduceLeDiff, z_eq0, z_eq1, z_or, z_em, Classical.not_not, not_false_eq_true, not_true_eq_false, true_and, and_true, false_and, and_false, and_self, true_implies, false_implies, implies_true, Option.toList_some, Option.toList_none, List.cons_append, List.nil_append, Nat.add_eq_zero_iff, a_nl_i, a_nl_r, a_nl_n, true_or, or_true, eq_self, ok_4, ok_5, ok_6, ok_7, ok_9, ok_10, ok_20, ok_21, ok_24, ok_30, ok_48, ok_50, ok_60, ok_80, ok_120, ok_180, ok_192, ok_200, ok_900, ok_1000, ok_84000, nlt, e66, e43, ni, ok5, c3]
        try simp only [true_and, and_true, true_implies, false_implies, implies_true, not_true_eq_false, not_false_eq_true]
        first
          | exact hg _
          | grind
    · -- a place is looked for
      have hlt : i < m := by omega
      have ne : (Int32.ofNat i = Int32.ofNat m) = False := by rw [io_eq (by omega) (by omega)]; exact eq_false c
      have ok4 := io_k (n := i) (k := 4) (by omega) (by omega)
      have ok5 := io_k (n := i) (k := 5) (by omega) (by omega)
      have e41 := hb.2.1.2 i hlt
      have e42 := hb.2.2.1 i (Nat.le_refl i)
      have gi := hg30 i hlt
      obtain ⟨u20, u21⟩ := hgu i hlt
      obtain ⟨w20, w21⟩ := bW_20 (Y := Y) (g := g) (f := f) (pl := pl) (W := Y) (w := w) (a := (g i).toNatClampNeg) i (fun j hj q => by have := hgd j i (by omega) hlt q; omega)
      have hsb := bW_sb (Y := Y) (f := f) (g := g) (pl := pl) (W := Y) (w := w) (fun _ _ _ => rfl) i
      have hinW := wq_in (g := g) hpr hin (fun _ _ _ => rfl) i hw.1
      have hbk : 0 < i → mu (Int32.ofNat pl) w (Int32.ofNat (i - 1)) < z := fun hi => by
        have e1 := io_p (n := i - 1) (by omega)
        rw [show i - 1 + 1 = i by omega] at e1
        have i4 : Int32.ofNat i ≤ 4 := by rw [Int32.le_iff_toInt_le, (io (n := i) (by omega)).1]; show (i : Int) ≤ 4; omega
        have p48 : 0 ≤ Int32.ofNat pl ∧ Int32.ofNat pl ≤ 48 := ⟨io_0 (by omega), by rw [Int32.le_iff_toInt_le, (io (n := pl) (by omega)).1]; show (pl : Int) ≤ 48; omega⟩
        have h := mu_back (p := Int32.ofNat pl) (i := Int32.ofNat i) (w := w) (w' := w) i0 i4 p48 (by rw [ni]; exact wib) (fun _ _ => rfl)
        rw [e1] at h
        omega
      -- from the search of a place on
      have h152 : ∀ J1, rbJ M I J1 (bsW (bpu Y f g) pl Y w i) Y g pl m w i B.2 → a_at (d + 10) (a_xm a_m243) 152 [some (a_rf M), some (.int f), some (.int e), some (.int (Int32.ofNat pl)), some (.int (B.1)), some (.int (Int32.ofNat i)), some (.int (g i)), p, u, v] [] (n, t, K, L, J1, R) P := fun J1 hb1 => by
        have hR1 := hb1.1.1
        have hmo : moP M J1 := moP_of hR1 (moY_b hy.2.1 hsb hinW) hb1.1.2.2
        have hpr1 : plR Y f e pl := hpr
        have e61 : J1 M 6 = Y 0 6 := (hb1.1.2.2.1 0 6 (by unfold ps1; omega)).trans (hsb 0 6 (by unfold sb; omega))
        have e101 : J1 (M + 10) (g i).toNatClampNeg = Y 10 (g i).toNatClampNeg := (hb1.1.2.2.1 10 _ (by unfold ps1; omega)).trans (by rw [sbE_r hsb (k := 10) (by omega)])
        have hft : ∀ b s, ftY (yv M J1) (g i) b s = ftY (bsW (bpu Y f g) pl Y w i) (g i) b s := fun b s => ftY_p (by rw [hsb 0 17 (by unfold sb; omega)]; exact h17) (by rw [sbE_r hsb (k := 10) (by omega)]; exact h10) hb1.1.2.2
        have e421 := hb1.2.2.1 i (Nat.le_refl i)
        have h166 := xb_166 (d := d) (n := n) (t := t) (P := P) (J0 := J1) (W := bsW (bpu Y f g) pl Y w i) (k := i) (b := B.1) (i := Int32.ofNat i) (p0 := (w i + 1).toNatClampNeg) hS hpr hmo e61 gi e101 hft
          (fun J2 q fd s hC2 hq0 hq hn hf => by
            have hb2 : rbJ M I J2 (bsW (bpu Y f g) pl Y w i) Y g pl m w i B.2 := rbJ_fr hb1 (gs_C hb1.1 hC2) (fun x j hx => hC2.2 x j (by unfold sC; omega))
            have qn := (io (n := q) (by omega)).2
            have hlen : q < pl → (f + Int32.ofNat q / Y 0 6) + Y 10 (g i).toNatClampNeg ≤ 200 := fun h => ft_len hpr (h10 _) (hf h) h
            have hR3 : mR M (a_ui J2 (M + 42) i (Int32.ofNat q)) := sR_way hb2.1.1
            have hg3 : gs M I (a_ui J2 (M + 42) i (Int32.ofNat q)) (bsW (bpu Y f g) pl Y w i) := gs_ui hb2.1 hR3 (by omega) ⟨by unfold ps1; omega, by omega⟩
            have ngt : (Int32.ofNat pl < Int32.ofNat q) = False := by rw [io_lt (by omega) (by omega)]; exact eq_false (by omega)
            have e433 : a_ui J2 (M + 42) i (Int32.ofNat q) (M + 43) i = bsA (bwt Y g) pl w i := by rw [ui_ap, if_neg (by omega)]; exact hb2.2.2.2.1 i (Nat.le_refl i)
            have s1 := io_s (n := i) (by omega)
            have h345 := fun (J5 : Nat → Nat → Int32) hg5 (hfr : ∀ x j, (x = M ∧ j = 66) ∨ x = M + 41 ∨ x = M + 42 ∨ x = M + 43 ∨ x = M + 44 → J5 x j = a_ui J2 (M + 42) i (Int32.ofNat q) x j) => xb_345 (d := d) (n := n) (t := t) (I := I) (J := J5) (P := P) (W := Y) (V := V) (z := z) (i := i) (q := q) (w := w) (B := B) (a := g i) (p := Int32.ofNat q) (fd := some (.int fd)) (s := s) hS ih hm4 h48 hlt hw hz hq hlen hq0 hn hf hV hg5 ⟨by rw [hfr _ _ (by omega), ui_ap, if_neg (by omega)]; exact hb2.2.1.1, fun k hk => by rw [hfr _ _ (by omega), ui_ap, if_neg (by omega)]; exact hb2.2.1.2 k hk⟩ (fun k hk => by rw [hfr _ _ (by omega), ui_ap, if_neg (by omega)]; exact hb2.2.2.1 k (by omega)) (by rw [hfr _ _ (by omega), ui_ap, if_pos ⟨rfl, rfl⟩]) (fun k hk => by rw [hfr _ _ (by omega), ui_ap, if_neg (by omega)]; exact hb2.2.2.2.1 k hk) (fun k hk => by rw [hfr _ _ (by omega), ui_ap, if_neg (by omega)]; exact hb2.2.2.2.2 k hk)
            by_cases cq : q < pl
            · obtain ⟨⟨r1, r2, r3⟩, r4, r6⟩ := pl_rng hpr cq
              have hmo3 : moP M (a_ui J2 (M + 42) i (Int32.ofNat q)) := moP_of hR3 (moY_b hy.2.1 hsb hinW) hg3.2.2
              have e63 : a_ui J2 (M + 42) i (Int32.ofNat q) M 6 = Y 0 6 := by rw [ui_ap, if_neg (by omega)]; exact (hC2.2 _ _ (by unfold sC; omega)).trans e61
              have hput : a_does (d + 10) 231 [a_rf M, .int (g i), .int (Int32.ofNat q - Int32.ofNat q / Y 0 6 * Y 0 6), .int (f + Int32.ofNat q / Y 0 6)] (n, t, K, L, (a_ui J2 (M + 42) i (Int32.ofNat q)), R) (fun r h' => a_at (d + 10) (a_xm a_m243) 313 [some (a_rf M), some (.int f), some (.int e), some (.int (Int32.ofNat pl)), some (.int (B.1)), some (.int (Int32.ofNat i)), some (.int (g i)), some (.int (Int32.ofNat q)), some (.int fd), s] (r.toList ++ []) h' P) := by
                refine xt_putAt (d := d) hS hmo3 gi ⟨r1, r3⟩ ⟨Int32.le_trans (by decide) r4.1, Int32.le_trans r4.2 (by decide)⟩ (fun J4 hf4 hy4 => ?_)
                have hfr4 : ∀ x j, (x = M ∧ j = 66) ∨ x = M + 41 ∨ x = M + 42 ∨ x = M + 43 ∨ x = M + 44 → J4 x j = a_ui J2 (M + 42) i (Int32.ofNat q) x j := fun x j hx => hf4 x j (by unfold sC; omega) (by omega) (by omega) (by omega)
                have hg4 : gs M I J4 (bpu Y f g (bsW (bpu Y f g) pl Y w i) i q) := yR_gs hg3 hy4 (puY_p (by rw [hsb 0 17 (by unfold sb; omega)]; exact h17) (by rw [sbE_r hsb (k := 10) (by omega)]; exact h10) hg3.2.2 gi)
                have e434 : J4 (M + 43) i = bsA (bwt Y g) pl w i := (hfr4 _ _ (by omega)).trans e433
                have hgo := h345 J4 (by rw [if_pos cq]; exact hg4) hfr4
                rw [if_pos cq] at hgo
                have hmk : a_does (d + 10) 244 [a_rf M, .int (g i)] (n, t, K, L, J4, R) (fun r h' => a_at (d + 10) (a_xm a_m243) 340 [some (a_rf M), some (.int f), some (.int e), some (.int (Int32.ofNat pl)), some (.int (B.1)), some (.int (Int32.ofNat i)), some (.int (g i)), some (.int (Int32.ofNat q)), some (.int fd), s] (r.toList ++ [.int (bsA (bwt Y g) pl w i), .int (Int32.ofNat i + 1), a_rf (M + 43)]) h' P) := by
                  have hb4 : sbE Y (bpu Y f g (bsW (bpu Y f g) pl Y w i) i q) := sb_tr hsb puY_b
                  have hm4' : mkP (yv M J4) := fun k hk => by
                    have e38 := (hg4.2.2.1 38 k (by unfold ps1; omega)).trans (hb4 38 k (by unfold sb; omega))
                    have e36 := (hg4.2.2.1 36 k (by unfold ps1; omega)).trans (hb4 36 k (by unfold sb; omega))
                    rw [e38] at hk
                    rw [e36]
                    exact hy.2.1.1 k hk
                  refine xt_markAt (d := d + 7) hS hg4.1 hm4' gi ?_
                  have ema : maY (yv M J4) (g i) = maY Y (g i) := (maY_b (psE_b hg4.2.2)).trans (maY_b hb4)
                  rw [ema]
                  show a_at (d + 10) (a_xm a_m243) 340 [some (a_rf M), some (.int f), some (.int e), some (.int (Int32.ofNat pl)), some (.int (B.1)), some (.int (Int32.ofNat i)), some (.int (g i)), some (.int (Int32.ofNat q)), some (.int fd), s] [.int (bwt Y g i), .int (bsA (bwt Y g) pl w i), .int (Int32.ofNat i + 1), a_rf (M + 43)] (n, t, K, L, J4, R) P
                  ((try clear h345); (try clear hb2); (try clear hg3); (try clear hg4); (try clear hb4); (try clear hP); (try clear ih); (try clear hV); (try clear hb1); (try clear hft); (try clear hmo); (try clear hmo3))
                  simp only [q243_340, q243_343, q243_344, as_nil, as_i, as_r, Nat.reduceAdd, Nat.reduceLeDiff, z_eq0, z_eq1, z_or, z_em, Classical.not_not, not_false_eq_true, not_true_eq_false, true_and, and_true, false_and, and_false, and_self, true_implies, false_implies, implies_true, Option.toList_some, Option.toList_none, List.cons_append, List.nil_append, Nat.add_eq_zero_iff, a_nl_i, a_nl_r, a_nl_n, true_or, or_true, eq_self, ok_4, ok_5, ok_6, ok_7, ok_9, ok_10, ok_20, ok_21, ok_24, ok_30, ok_48, ok_50, ok_60, ok_80, ok_120, ok_180, ok_192, ok_200, ok_900, ok_1000, ok_84000]
                  exact hgo
                have nge : (Int32.ofNat pl ≤ Int32.ofNat q) = False := by rw [io_le (by omega) (by omega)]; exact eq_false (by omega)
                ((try clear h345); (try clear hgo); (try clear hb2); (try clear hg3); (try clear hg4); (try clear hP); (try clear ih); (try clear hV); (try clear hb1); (try clear hft); (try clear hmo); (try clear hmo3); (try clear hf4); (try clear hy4); (try clear hfr4))
                simp only [q243_313, q243_314, q243_317, q243_319, q243_320, q243_321, q243_322, q243_325, q243_327, q243_328, q243_330, q243_331, q243_334, q243_335, q243_337, m_0 hS, m_K hS, mR_sumTo hS, mK_sumTo hS, mL_sumTo hS, as_nil, as_i, as_r, Nat.reduceAdd, Nat.reduceLeDiff, z_eq0, z_eq1, z_or, z_em, Classical.not_not, not_false_eq_true, not_true_eq_false, true_and, and_true, false_and, and_false, and_self, true_implies, false_implies, implies_true, Option.toList_some, Option.toList_none, List.cons_append, List.nil_append, Nat.add_eq_zero_iff, a_nl_i, a_nl_r, a_nl_n, true_or, or_true, eq_self, ok_4, ok_5, ok_6, ok_7, ok_9, ok_10, ok_20, ok_21, ok_24, ok_30, ok_48, ok_50, ok_60, ok_80, ok_120, ok_180, ok_192, ok_200, ok_900, ok_1000, ok_84000, ni, ok5, e434, nge]
                try simp only [true_and, and_true, true_implies, false_implies, implies_true, not_true_eq_false, not_false_eq_true]
                first
                  | exact hmk
                  | grind
              have nge : (Int32.ofNat pl ≤ Int32.ofNat q) = False := by rw [io_le (by omega) (by omega)]; exact eq_false (by omega)
              ((try clear h345); (try clear hb2); (try clear hg3); (try clear hP); (try clear ih); (try clear hV); (try clear hb1); (try clear hft); (try clear hmo); (try clear hmo3))
              simp only [q243_264, q243_266, q243_267, q243_270, q243_273, q243_276, q243_277, q243_280, q243_282, q243_284, q243_285, q243_287, q243_288, q243_291, q243_292, q243_294, q243_296, q243_297, q243_300, q243_301, q243_302, q243_304, q243_305, q243_308, q243_309, q243_310, m_0 hS, m_K hS, mR_way hS, mK_way hS, mL_way hS, as_nil, as_i, as_r, Nat.reduceAdd, Nat.reduceLeDiff, z_eq0, z_eq1, z_or, z_em, Classical.not_not, not_false_eq_true, not_true_eq_false, true_and, and_true, false_and, and_false, and_self, true_implies, false_implies, implies_true, Option.toList_some, Option.toList_none, List.cons_append, List.nil_append, Nat.add_eq_zero_iff, a_nl_i, a_nl_r, a_nl_n, true_or, or_true, eq_self, ok_4, ok_5, ok_6, ok_7, ok_9, ok_10, ok_20, ok_21, ok_24, ok_30, ok_48, ok_50, ok_60, ok_80, ok_120, ok_180, ok_192, ok_200, ok_900, ok_1000, ok_84000, ni, ok5, ngt, nge, e63, r6]
              try simp only [true_and, and_true, true_implies, false_implies, implies_true, not_true_eq_false, not_false_eq_true]
              first
                | exact hput
                | grind
            · have eq : q = pl := by omega
              have hgo := h345 (a_ui J2 (M + 42) i (Int32.ofNat q)) (by rw [if_neg cq]; exact hg3) (fun _ _ _ => rfl)
              rw [if_neg cq] at hgo
              have nge : (Int32.ofNat pl ≤ Int32.ofNat q) = True := by rw [io_le (by omega) (by omega)]; exact eq_true (by omega)
              ((try clear h345); (try clear hb2); (try clear hg3); (try clear hP); (try clear ih); (try clear hV); (try clear hb1); (try clear hft); (try clear hmo))
              simp only [q243_264, q243_266, q243_267, q243_270, q243_273, q243_276, q243_277, q243_280, q243_282, q243_284, q243_285, q243_287, q243_288, q243_313, q243_314, q243_317, q243_319, q243_320, q243_321, q243_322, q243_325, q243_327, q243_328, q243_330, q243_331, q243_334, q243_335, q243_337, q243_340, q243_343, q243_344, m_0 hS, m_K hS, mR_way hS, mK_way hS, mL_way hS, mR_sumTo hS, mK_sumTo hS, mL_sumTo hS, as_nil, as_i, as_r, Nat.reduceAdd, Nat.reduceLeDiff, z_eq0, z_eq1, z_or, z_em, Classical.not_not, not_false_eq_true, not_true_eq_false, true_and, and_true, false_and, and_false, and_self, true_implies, false_implies, implies_true, Option.toList_some, Option.toList_none, List.cons_append, List.nil_append, Nat.add_eq_zero_iff, a_nl_i, a_nl_r, a_nl_n, true_or, or_true, eq_self, ok_4, ok_5, ok_6, ok_7, ok_9, ok_10, ok_20, ok_21, ok_24, ok_30, ok_48, ok_50, ok_60, ok_80, ok_120, ok_180, ok_192, ok_200, ok_900, ok_1000, ok_84000, ni, ok5, ngt, nge, e433]
              try simp only [true_and, and_true, true_implies, false_implies, implies_true, not_true_eq_false, not_false_eq_true]
              first
                | exact hgo
                | grind)
          (fun J2 s hC2 hp0 => by
            have hb2 : rbJ M I J2 (bsW (bpu Y f g) pl Y w i) Y g pl m w i B.2 := rbJ_fr hb1 (gs_C hb1.1 hC2) (fun x j hx => hC2.2 x j (by unfold sC; omega))
            have hV2 : bsC (bfi Y f e g) (bpu Y f g) (bwt Y g) pl m Y w i B = V := by
              rw [← bsC_end (m := m) (W0 := Y) (B := B) hp0, ← hV]
              unfold bsH
              rw [if_neg c]
            have hg := fun k2 p2 u2 v2 => xb_back (V := V) (z := z) (i := i) (w := w) (B := B) (k := k2) (p := p2) (u := u2) (v := v2) hS hP ih hm4 h48 (by omega) hw.1 hbk hb2 hV2
            have hgt : (Int32.ofNat pl < Int32.ofNat (pl + 1)) = True := by rw [io_lt (by omega) (by omega)]; exact eq_true (by omega)
            ((try clear hb2); (try clear hP); (try clear ih); (try clear hV); (try clear hV2); (try clear hb1); (try clear hft); (try clear hmo))
            simp only [q243_264, q243_266, q243_267, q243_270, q243_273, as_nil, as_i, as_r, Nat.reduceAdd, Nat.reduceLeDiff, z_eq0, z_eq1, z_or, z_em, Classical.not_not, not_false_eq_true, not_true_eq_false, true_and, and_true, false_and, and_false, and_self, true_implies, false_implies, implies_true, Option.toList_some, Option.toList_none, List.cons_append, List.nil_append, Nat.add_eq_zero_iff, a_nl_i, a_nl_r, a_nl_n, true_or, or_true, eq_self, ok_4, ok_5, ok_6, ok_7, ok_9, ok_10, ok_20, ok_21, ok_24, ok_30, ok_48, ok_50, ok_60, ok_80, ok_120, ok_180, ok_192, ok_200, ok_900, ok_1000, ok_84000, hgt]
            try simp only [true_and, and_true, true_implies, false_implies, implies_true, not_true_eq_false, not_false_eq_true]
            first
              | exact hg _ _ _ _
              | grind)
        have hp0 : (w i + 1).toNatClampNeg ≤ pl + 1 ∧ w i + 1 = Int32.ofNat (w i + 1).toNatClampNeg := by
          rcases hw.2 with h | ⟨x, x1, x2, -⟩
          · rw [wn_0 h, h]
            exact ⟨Nat.zero_le _, rfl⟩
          · have q := (wn_s (w := w) (by omega) x2).1
            rw [q]
            exact ⟨by omega, by rw [x2, io_s (by omega)]⟩
        have hg := h166 (pl + 1 - (w i + 1).toNatClampNeg) (w i + 1).toNatClampNeg J1 v (by omega) (Nat.le_refl _) (Or.inl rfl) (mC_refl hR1) (fun x x0 x1 => by omega)
        rw [← hp0.2] at hg
        ((try clear h166); (try clear hP); (try clear ih); (try clear hb); (try clear hV); (try clear hb1); (try clear hft); (try clear hmo); (try clear hbk); (try clear hw))
        simp only [q243_152, q243_153, q243_156, q243_158, q243_159, q243_160, q243_161, q243_163, q243_164, m_0 hS, m_K hS, mR_way hS, mK_way hS, mL_way hS, as_nil, as_i, as_r, Nat.reduceAdd, Nat.reduceLeDiff, z_eq0, z_eq1, z_or, z_em, Classical.not_not, not_false_eq_true, not_true_eq_false, true_and, and_true, false_and, and_false, and_self, true_implies, false_implies, implies_true, Option.toList_some, Option.toList_none, List.cons_append, List.nil_append, Nat.add_eq_zero_iff, a_nl_i, a_nl_r, a_nl_n, true_or, or_true, eq_self, ok_4, ok_5, ok_6, ok_7, ok_9, ok_10, ok_20, ok_21, ok_24, ok_30, ok_48, ok_50, ok_60, ok_80, ok_120, ok_180, ok_192, ok_200, ok_900, ok_1000, ok_84000, ni, ok5, e421]
        try simp only [true_and, and_true, true_implies, false_implies, implies_true, not_true_eq_false, not_false_eq_true]
        first
          | exact hg
          | grind
      by_cases cp : ¬ w i = -1 ∧ (w i).toNatClampNeg < pl
      · have hc : cW Y f g pl m Y w i = bpu Y f g (bsW (bpu Y f g) pl Y w i) i (w i).toNatClampNeg := by
          unfold cW
          rw [if_pos ⟨hlt, cp⟩]
        rw [hc] at hb
        obtain ⟨x, x1, x2, -⟩ := hw.2.resolve_left cp.1
        have xn : (w i).toNatClampNeg = x := (wn_s (w := w) (by omega) x2).2
        rw [xn] at cp
        have wi0 : 0 ≤ w i := by rw [x2]; exact io_0 (by omega)
        have wlt : (w i < 0) = False := eq_false (Int32.not_lt.mpr wi0)
        have wge : (Int32.ofNat pl ≤ w i) = False := by rw [x2, io_le (by omega) (by omega)]; exact eq_false (by omega)
        have hps : psE (bsW (bpu Y f g) pl Y w i) (unY (bpu Y f g (bsW (bpu Y f g) pl Y w i) i (w i).toNatClampNeg) (g i)) := unpu_p gi (by rw [sbE_r hsb (k := 10) (by omega)]; exact h10) (by rw [w20]; exact u20) (by rw [w21]; exact u21)
        have hR2 : mR M (a_ui (a_ui J (M + 20) (g i).toNatClampNeg (-9)) (M + 21) (g i).toNatClampNeg (-9)) := sR_atShift (sR_atBench hb.1.1 (by decide)) (by decide)
        have hg2 : gs M I (a_ui (a_ui J (M + 20) (g i).toNatClampNeg (-9)) (M + 21) (g i).toNatClampNeg (-9)) (bsW (bpu Y f g) pl Y w i) := ⟨hR2, fun x j hx => by rw [ui_ap, if_neg (by omega), ui_ap, if_neg (by omega)]; exact hb.1.2.1 x j hx, psE_tr hps (psE_tr (unY_p hb.1.2.2 gi) (psE_of (fun k j _ => by
          show a_ui (a_ui J (M + 20) (g i).toNatClampNeg (-9)) (M + 21) (g i).toNatClampNeg (-9) (M + k) j = if (k = 20 ∨ k = 21) ∧ j = (g i).toNatClampNeg then -9 else J (M + k) j
          rw [ui_ap, ui_ap]
          have q1 : (M + k = M + 21) = (k = 21) := propext ⟨fun q => by omega, fun q => by omega⟩
          have q2 : (M + k = M + 20) = (k = 20) := propext ⟨fun q => by omega, fun q => by omega⟩
          simp only [q1, q2]
          generalize (g i).toNatClampNeg = a0
          by_cases y1 : k = 21 <;> by_cases y2 : k = 20 <;> by_cases y3 : j = a0 <;> simp [y1, y2, y3])))⟩
        have hg := h152 _ (rbJ_fr hb hg2 (fun x j hx => by rw [ui_ap, if_neg (by omega), ui_ap, if_neg (by omega)]))
        ((try clear h152); (try clear hP); (try clear ih); (try clear hb); (try clear hV); (try clear hbk); (try clear hw); (try clear hg2); (try clear hR2))
        rw [q243_31]
        simp only [q243_33, q243_36, q243_38, q243_39, q243_42, q243_104, q243_105, q243_108, q243_110, q243_111, q243_113, q243_114, q243_117, q243_119, q243_120, q243_123, q243_124, q243_127, q243_129, q243_130, q243_131, q243_134, q243_135, q243_138, q243_140, q243_142, q243_143, q243_144, q243_147, q243_149, q243_151, m_0 hS, m_K hS, mR_few hS, mK_few hS, mL_few hS, mR_way hS, mK_way hS, mL_way hS, mR_atBench hS, mK_atBench hS, mL_atBench hS, mR_atShift hS, mK_atShift hS, mL_atShift hS, as_nil, as_i, as_r, Nat.reduceAdd, Nat.reduceLeDiff, z_eq0, z_eq1, z_or, z_em, Classical.not_not, not_false_eq_true, not_true_eq_false, true_and, and_true, false_and, and_false, and_self, true_implies, false_implies, implies_true, Option.toList_some, Option.toList_none, List.cons_append, List.nil_append, Nat.add_eq_zero_iff, a_nl_i, a_nl_r, a_nl_n, true_or, or_true, eq_self, ok_4, ok_5, ok_6, ok_7, ok_9, ok_10, ok_20, ok_21, ok_24, ok_30, ok_48, ok_50, ok_60, ok_80, ok_120, ok_180, ok_192, ok_200, ok_900, ok_1000, ok_84000, nlt, e66, ne, ni, ok4, ok5, e41, e42, wlt, wge, gi]
        try simp only [true_and, and_true, true_implies, false_implies, implies_true, not_true_eq_false, not_false_eq_true]
        first
          | exact hg
          | grind
      · have hc : cW Y f g pl m Y w i = bsW (bpu Y f g) pl Y w i := by
          unfold cW
          rw [if_neg (fun x => cp x.2)]
        rw [hc] at hb
        have hg := h152 J hb
        have hor : w i < 0 ∨ (¬ w i < 0 ∧ Int32.ofNat pl ≤ w i) := by
          rcases hw.2 with h | ⟨x, x1, x2, -⟩
          · rw [h]; exact Or.inl (by decide)
          · right
            have xn : (w i).toNatClampNeg = x := (wn_s (w := w) (by omega) x2).2
            have h9 : ¬ w i = -1 := fun q => by
              rw [x2] at q
              have := io_0 (n := x) (by omega)
              rw [q] at this
              exact absurd this (by decide)
            have : ¬ x < pl := fun q => cp ⟨h9, by rw [xn]; exact q⟩
            rw [x2, io_le (by omega) (by omega)]
            exact ⟨Int32.not_lt.mpr (io_0 (by omega)), by omega⟩
        ((try clear h152); (try clear hP); (try clear ih); (try clear hb); (try clear hV); (try clear hbk); (try clear hw))
        rw [q243_31]
        rcases hor with h | ⟨h, h2⟩
        · simp only [q243_33, q243_36, q243_38, q243_39, q243_42, q243_104, q243_105, q243_108, q243_110, q243_111, q243_113, q243_114, q243_117, q243_119, q243_120, m_0 hS, m_K hS, mR_few hS, mK_few hS, mL_few hS, mR_way hS, mK_way hS, mL_way hS, as_nil, as_i, as_r, Nat.reduceAdd, Nat.reduceLeDiff, z_eq0, z_eq1, z_or, z_em, Classical.not_not, not_false_eq_true, not_true_eq_false, true_and, and_true, false_and, and_false, and_self, true_implies, false_implies, implies_true, Option.toList_some, Option.toList_none, List.cons_append, List.nil_append, Nat.add_eq_zero_iff, a_nl_i, a_nl_r, a_nl_n, true_or, or_true, eq_self, ok_4, ok_5, ok_6, ok_7, ok_9, ok_10, ok_20, ok_21, ok_24, ok_30, ok_48, ok_50, ok_60, ok_80, ok_120, ok_180, ok_192, ok_200, ok_900, ok_1000, ok_84000, nlt, e66, ne, ni, ok4, ok5, e41, e42, h]
          try simp only [true_and, and_true, true_implies, false_implies, implies_true, not_true_eq_false, not_false_eq_true]
          first
            | exact hg
            | grind
        · simp only [q243_33, q243_36, q243_38, q243_39, q243_42, q243_104, q243_105, q243_108, q243_110, q243_111, q243_113, q243_114, q243_117, q243_119, q243_120, q243_123, q243_124, q243_127, q243_129, q243_130, q243_131, m_0 hS, m_K hS, mR_few hS, mK_few hS, mL_few hS, mR_way hS, mK_way hS, mL_way hS, as_nil, as_i, as_r, Nat.reduceAdd, Nat.reduceLeDiff, z_eq0, z_eq1, z_or, z_em, Classical.not_not, not_false_eq_true, not_true_eq_false, true_and, and_true, false_and, and_false, and_self, true_implies, false_implies, implies_true, Option.toList_some, Option.toList_none, List.cons_append, List.nil_append, Nat.add_eq_zero_iff, a_nl_i, a_nl_r, a_nl_n, true_or, or_true, eq_self, ok_4, ok_5, ok_6, ok_7, ok_9, ok_10, ok_20, ok_21, ok_24, ok_30, ok_48, ok_50, ok_60, ok_80, ok_120, ok_180, ok_192, ok_200, ok_900, ok_1000, ok_84000, nlt, e66, ne, ni, ok4, ok5, e41, e42, h, h2]
          try simp only [true_and, and_true, true_implies, false_implies, implies_true, not_true_eq_false, not_false_eq_true]
          first
            | exact hg
            | grind
end Z95
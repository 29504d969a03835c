/-! the class: extend, just so, whole -/
section Z99
variable {d n t C c : Nat} {K L : Nat → Nat} {I I0 J J0 J1 J2 : Nat → Nat → Int32} {R : Nat → Nat → Nat} {P : Option Value → AH → Prop}
variable {Y Z W : Nat → Nat → Int32} {R' R1 R2 : Nat → Nat → Nat} {g rch way : Nat → Int32} {r f e : Int32} {pl : Nat}
/-- what a member is worth -/
theorem ce_worth (hT : cT C K L I R) (hc : cpP C K L I R W) (hb : sbE Y W) {i : Int32} (hi : 0 ≤ i ∧ i < 4) (ai : 0 ≤ (g i.toNatClampNeg) ∧ (g i.toNatClampNeg) < W 0 17) (er : R (C + 28) i.toNatClampNeg = (R (C + 15) (g i.toNatClampNeg).toNatClampNeg)) (hP : P (some (.int (bwt Y g i.toNatClampNeg))) (n, t, K, L, I, R)) : a_does (d + 2) 137 [a_rf (C + 27), .int i] (n, t, K, L, I, R) P := by
  have hS := hT.s
  obtain ⟨-, ⟨ha, an0, -⟩, am, -⟩ := aa_of hc ai.1 ai.2
  have em : I (R (C + 15) (g i.toNatClampNeg).toNatClampNeg) 12 = maY Y (g i.toNatClampNeg) := am.trans (maY_b hb)
  have w0 : ¬ 0 < maY Y (g i.toNatClampNeg) → bwt Y g i.toNatClampNeg = 0 := fun h => by
    unfold bwt
    by_cases c : maY Y (g i.toNatClampNeg) < 0
    · rw [if_pos c]
    · rw [if_neg c]
      generalize maY Y (g i.toNatClampNeg) = x at h c ⊢
      ((try clear hP); (try clear em))
      grind
  have w1 : 0 < maY Y (g i.toNatClampNeg) → bwt Y g i.toNatClampNeg = maY Y (g i.toNatClampNeg) := fun h => by
    unfold bwt
    rw [if_neg (by generalize maY Y (g i.toNatClampNeg) = x at h ⊢; ((try clear hP); (try clear em); (try clear w0)); grind)]
  rw [a_enter1 (M := a_m137) rfl (a_cat_rf (a_cat_int a_cat_nil)) (show 2 ≤ 2 by decide)]
  show a_at _ (a_xm a_m137) 0 [some (a_rf (C + 27)), some (.int i)] [] _ _
  simp only [q137_0, q137_1, q137_2, q137_5, q137_6, q137_7, q137_10, k_27 hS, z_27, r_27_1 hS, k_28 hS, l_28 hS, z_28, sp_max, as_nil, as_i, as_r, Nat.reduceAdd, Nat.reduceLeDiff, z_eq0, z_eq1, z_or, z_em, Classical.not_not, not_false_eq_true, not_true_eq_false, true_and, and_true, false_and, and_false, and_self, true_implies, false_implies, implies_true, Option.toList_some, Option.toList_none, List.cons_append, List.nil_append, Nat.add_eq_zero_iff, a_nl_i, a_nl_r, a_nl_n, true_or, or_true, eq_self, a_isRA_22, a_isRA_24, a_isRA_32, a_isA_20, ok_4, ok_5, ok_6, ok_7, ok_9, ok_20, ok_21, ok_30, ok_50, ok_180, ok_192, ok_200, er, ha, an0, em]
  try simp only [true_and, and_true, true_implies, false_implies, implies_true, not_true_eq_false, not_false_eq_true]
  have q1 : 0 < maY Y (g i.toNatClampNeg) → P (some (.int (maY Y (g i.toNatClampNeg)))) (n, t, K, L, I, R) := fun h => by
    rw [w1 h] at hP
    exact hP
  have q0 : ¬ 0 < maY Y (g i.toNatClampNeg) → P (some (.int 0)) (n, t, K, L, I, R) := fun h => by
    rw [w0 h] at hP
    exact hP
  ((try clear hc); (try clear am); (try clear em); (try clear w0); (try clear w1); (try clear hP))
  repeat' first
    | exact hi
    | exact hi.1
    | exact hi.2
    | exact q1
    | exact q0
    | with_reducible apply And.intro
    | exact q1 (by assumption)
    | exact q0 (by assumption)
    | with_reducible intro _
    | simp only [sp_max, q137_13, as_nil, as_i, as_r, Nat.reduceAdd, Nat.reduceLeDiff, z_eq0, z_eq1, z_or, z_em, Classical.not_not, not_false_eq_true, not_true_eq_false, true_and, and_true, false_and, and_false, and_self, true_implies, false_implies, implies_true, Option.toList_some, Option.toList_none, List.cons_append, List.nil_append, Nat.add_eq_zero_iff, a_nl_i, a_nl_r, a_nl_n, true_or, or_true, eq_self, a_isRA_22, a_isRA_24, a_isRA_32, a_isA_20, ok_4, ok_5, ok_6, ok_7, ok_9, ok_20, ok_21, ok_30, ok_50, ok_180, ok_192, ok_200]
theorem lz_ext_71 {m i : Int32} (hse : seP C R Y) (hyo : yoP Y) (hpr : plR Y f e pl) (bm : ∀ k, k < m.toNatClampNeg → (0 ≤ g k ∧ g k < Y 0 17) ∧ R (C + 28) k = R (C + 15) (g k).toNatClampNeg) (bd : ∀ k j, k < j → j < m.toNatClampNeg → ¬ (g k).toNatClampNeg = (g j).toNatClampNeg) (br : ∀ k, k < m.toNatClampNeg → bq r (g k).toNatClampNeg = true) (bu : ∀ k, k < m.toNatClampNeg → ¬ 0 ≤ Y 20 (g k).toNatClampNeg) (rm : rch m.toNatClampNeg = 0) (rr : ∀ k, k < m.toNatClampNeg → rch k = rch (k + 1) + (if 0 < cnB Y r f e (g k) pl then bwt Y g k else 0)) (h4 : m.toNatClampNeg ≤ 4) (hi : 0 ≤ i ∧ i < 4) (him : i.toNatClampNeg < m.toNatClampNeg) {E z : Nat} {sf : Int32} (hr : kyP C n t K L R Y g rch r f e pl m z) (eup : (i + 1).toNatClampNeg = i.toNatClampNeg + 1) (hzz : (i + 1).toInt + z = m.toInt) (hzE : z + 20 ≤ E + 19) (hT0 : cT C K L I R) (hc0 : cpP C K L I R W) (hex : exY Y W) (hno : noP W) (hpt : (∀ x : Int32, 0 ≤ x → x < 30 → ¬ bq r x.toNatClampNeg = true → W 20 x.toNatClampNeg = Y 20 x.toNatClampNeg ∧ W 21 x.toNatClampNeg = Y 21 x.toNatClampNeg)) (hm0 : I (C + 27) 8 = m) (sp0 : (∀ k, k < m.toNatClampNeg → spE C Y r f e (g k) k pl I)) (hrc0 : (∀ k, k ≤ m.toNatClampNeg → I (C + 32) k = rch k)) (hun : (∀ k, i.toNatClampNeg ≤ k → k < m.toNatClampNeg → ¬ 0 ≤ W 20 (g k).toNatClampNeg)) (hac : 0 ≤ sf ∧ sf.toInt + 100 * (z + 1 : Nat) ≤ 400) (htr0 : (∀ k, k < i.toNatClampNeg → I (C + 33) k = enB Y f pl (way k))) {V : bB} (hP : ∀ J, cT C K L J R → xfP C I J → sbH C Y f pl m.toNatClampNeg V J → (∀ k, k < i.toNatClampNeg → J (C + 33) k = I (C + 33) k) → P none (n, t, K, L, J, R)) : ∀ k : Int32, k ≤ 48 → ∀ J u1 u2 (p : Nat) (B : bB), 0 ≤ k → p ≤ pl → cnB Y r f e (g i.toNatClampNeg) p = k.toNatClampNeg → cT C K L J R → xfP C I J → sbH C Y f pl m.toNatClampNeg B J → (-1 ≤ B.1 ∧ B.1 ≤ 400) → (∀ k, k < i.toNatClampNeg → J (C + 33) k = I (C + 33) k) → bsL (bfi Y f e g) (bpu Y f g) (bwt Y g) pl (bsR (bfi Y f e g) (bpu Y f g) (bwt Y g) pl z (i.toNatClampNeg + 1)) i.toNatClampNeg W sf way (pl + 1 - p) p B = V → a_at (E + 19) (a_xm a_m138) 71 [some (a_rf (C + 27)), some (.int i), some (.int sf), some (a_rf (R (C + 15) (g i.toNatClampNeg).toNatClampNeg)), some (.int (sf + bwt Y g i.toNatClampNeg)), some (.int k), u1, u2] [] (n, t, K, L, J, R) P := by
  have hb0 := hex.1
  have h48 := hpr.1
  have w9 := bwt_rng (Y := Y) (g := g) (k := i.toNatClampNeg)
  obtain ⟨⟨a0, a1⟩, er⟩ := bm _ him
  have e17 : W 0 17 = Y 0 17 := hb0 0 17 (by unfold sb; omega)
  have e06 : W 0 6 = Y 0 6 := hb0 0 6 (by unfold sb; omega)
  have ag : 0 ≤ g i.toNatClampNeg ∧ g i.toNatClampNeg < W 0 17 := ⟨a0, by rw [e17]; exact a1⟩
  have a30 : 0 ≤ g i.toNatClampNeg ∧ g i.toNatClampNeg < 30 := ⟨a0, Int32.lt_of_lt_of_le a1 hyo.2.2.2.2.1.2⟩
  have hi5 : 0 ≤ i + 1 ∧ i + 1 < 5 := by ((try clear hr); (try clear hP); (try clear hex); (try clear hpt); (try clear sp0); (try clear hrc0); (try clear hun); (try clear hc0); (try clear htr0); (try clear bm); (try clear bd); (try clear br); (try clear bu); (try clear rr)); grind
  have c0 : (0 : Int32).toInt = 0 := rfl
  have c100 : (100 : Int32).toInt = 100 := rfl
  have eac : (sf + bwt Y g i.toNatClampNeg).toInt = sf.toInt + (bwt Y g i.toNatClampNeg).toInt := ti_add (by
    have e0 := Int32.le_iff_toInt_le.mp hac.1
    have e1 := Int32.le_iff_toInt_le.mp w9.1
    have e2 := Int32.le_iff_toInt_le.mp w9.2
    omega)
  have hac1 : 0 ≤ sf + bwt Y g i.toNatClampNeg ∧ (sf + bwt Y g i.toNatClampNeg).toInt + 100 * z ≤ 400 := by
    have e0 := Int32.le_iff_toInt_le.mp hac.1
    have e1 := Int32.le_iff_toInt_le.mp w9.1
    have e2 := Int32.le_iff_toInt_le.mp w9.2
    refine ⟨by rw [Int32.le_iff_toInt_le]; omega, ?_⟩
    have := hac.2
    omega
  have hmz : i.toNatClampNeg + 1 + z = m.toNatClampNeg := by
    have e1 : ((i + 1).toNatClampNeg : Int) = (i + 1).toInt := by
      have := Int32.le_iff_toInt_le.mp hi5.1
      show (((i + 1).toInt.toNat : Nat) : Int) = _
      omega
    have e2 : (m.toNatClampNeg : Int) = m.toInt := by
      have := Int32.le_iff_toInt_le.mp hi5.1
      show ((m.toInt.toNat : Nat) : Int) = _
      omega
    omega
  refine up_ind 48 (fun k hk ih => ?_)
  intro J u1 u2 p B q0 hpl hcn hT hx hsb hBr htr hV
  have hS := hT.s
  have hc := xf_cp hT0 hc0 hx
  have fx : ∀ q j, ((29 ≤ q ∧ q ≤ 32) ∨ (q = 27 ∧ j = 8)) → J (C + q) j = I (C + q) j := fun q j hq => hx _ _ (by omega) (by omega) (by omega) (by omega) (by omega)
  have sp : (∀ k, k < m.toNatClampNeg → spE C Y r f e (g k) k pl J) := fun k hk => se_C (sp0 k hk) (fun q j hq => fx q j (by omega))
  have hrc : (∀ k, k ≤ m.toNatClampNeg → J (C + 32) k = rch k) := fun k hk => (fx 32 k (by omega)).trans (hrc0 k hk)
  have hm : J (C + 27) 8 = m := (fx 27 8 (by omega)).trans hm0
  have e9 : J (C + 27) 9 = B.1 := hsb.1
  have e32 : J (C + 32) (i + 1).toNatClampNeg = rch (i.toNatClampNeg + 1) := by
    rw [eup]
    exact hrc _ (by omega)
  have ap := aa_of hc ag.1 ag.2
  obtain ⟨-, ⟨ha, an0, -⟩, -, al⟩ := id ap
  obtain ⟨e31, gsp⟩ := sp _ him
  have cpl := cn_le (Y := Y) (f := f) (e := e) (r := r) (a := (g i.toNatClampNeg)) pl
  have c49 : cnB Y r f e (g i.toNatClampNeg) pl < 1000 := by omega
  have g48 : 0 ≤ J (C + 31) i.toNatClampNeg ∧ J (C + 31) i.toNatClampNeg ≤ 48 := by
    rw [e31]
    exact ⟨io_0 c49, by rw [show (48 : Int32) = Int32.ofNat 48 from rfl, io_le c49 (by omega)]; omega⟩
  have n8 : ¬ (8 : Int32) = 0 := by decide
  have htrI : (∀ k, k < i.toNatClampNeg → J (C + 33) k = enB Y f pl (way k)) := fun k hk => (htr k hk).trans (htr0 k hk)
  -- none is the last place
  have hend : bsR (bfi Y f e g) (bpu Y f g) (bwt Y g) pl z (i.toNatClampNeg + 1) W sf (up1 way i.toNatClampNeg (Int32.ofNat pl)) B = V → ∀ u1 u2, a_at (E + 19) (a_xm a_m138) 218 [some (a_rf (C + 27)), some (.int i), some (.int sf), some (a_rf (R (C + 15) (g i.toNatClampNeg).toNatClampNeg)), some (.int (sf + bwt Y g i.toNatClampNeg)), some (.int k), u1, u2] [] (n, t, K, L, J, R) P := fun hV u1 u2 => by
    have hT2 : cT C K L (a_ui J (C + 33) i.toNatClampNeg (-9)) R := sT_Best_tried hT
    have fy : ∀ q j, ¬ q = 33 → a_ui J (C + 33) i.toNatClampNeg (-9) (C + q) j = J (C + q) j := fun q j hq => by rw [ui_ap, if_neg (by omega)]
    have hg := hr (i + 1) sf (a_ui J (C + 33) i.toNatClampNeg (-9)) W B (up1 way i.toNatClampNeg (Int32.ofNat pl)) (E + 19) (fun r' h' => a_at (E + 19) (a_xm a_m138) 234 [some (a_rf (C + 27)), some (.int i), some (.int sf), some (a_rf (R (C + 15) (g i.toNatClampNeg).toNatClampNeg)), some (.int (sf + bwt Y g i.toNatClampNeg)), some (.int k), u1, u2] (r'.toList ++ []) h' P) hi5.1 hzz hzE hT2 (cp_sc hT hc (k := 33) (by omega) (by omega)) hex hno hpt ((fy 27 8 (by omega)).trans hm) (fun k hk => se_C (sp k hk) (fun q j hq => fy q j (by omega))) (fun k hk => (fy 32 k (by omega)).trans (hrc k hk)) (fun k k0 k1 => hun k (by omega) k1) ⟨hac.1, by have := hac.2; omega⟩ hBr ⟨(fy 27 9 (by omega)).trans hsb.1, fun q k hk => (fy 34 k (by omega)).trans (hsb.2 q k hk)⟩ (fun k hk => by
      rw [eup] at hk
      rw [ui_ap]
      unfold up1
      by_cases c : k = i.toNatClampNeg
      · rw [if_pos ⟨rfl, c⟩, if_pos c]
        unfold enB
        rw [(io (n := pl) (by omega)).2, if_neg (Nat.lt_irrefl _)]
      · rw [if_neg (fun q => c q.2), if_neg c]
        exact htrI k (by omega)) (fun J2 T2 x2 sb2 tr2 => by
      have hS2 := T2.s
      rw [eup, hV] at sb2
      have hp := hP J2 T2 (fun x j q1 q2 q3 q4 q5 => by
        rw [x2 x j q1 q2 q3 q4 q5, ui_ap, if_neg (fun e => q4 e.1)]
        exact hx x j q1 q2 q3 q4 q5) sb2 (fun k hk => by
        rw [tr2 k (by rw [eup]; omega), ui_ap, if_neg (fun q => by omega)]
        exact htr k hk)
      ((try clear hr); (try clear hP); (try clear ih); (try clear sp); (try clear gsp); (try clear hun); (try clear hc); (try clear hc0); (try clear sp0); (try clear hrc); (try clear hrc0); (try clear hsb); (try clear hx); (try clear hex); (try clear hpt); (try clear hV); (try clear ap); (try clear al); (try clear bm); (try clear bd); (try clear br); (try clear bu); (try clear rr); (try clear htr); (try clear htr0); (try clear x2); (try clear sb2); (try clear tr2))
      simp only [q138_234, as_nil, as_i, as_r, Nat.reduceAdd, Nat.reduceLeDiff, z_eq0, z_eq1, z_or, z_em, Classical.not_not, not_false_eq_true, not_true_eq_false, true_and, and_true, false_and, and_false, and_self, true_implies, false_implies, implies_true, Option.toList_some, Option.toList_none, List.cons_append, List.nil_append, Nat.add_eq_zero_iff, a_nl_i, a_nl_r, a_nl_n, true_or, or_true, eq_self, a_isRA_22, a_isRA_24, a_isRA_32, a_isA_20, ok_4, ok_5, ok_6, ok_7, ok_9, ok_20, ok_21, ok_30, ok_50, ok_180, ok_192, ok_200, ui_ap, cc_ne, cc_n0, cc_0n, Nat.reduceEqDiff, reduceIte, if_true, if_false]
      exact hp)
    ((try clear hr); (try clear hP); (try clear ih); (try clear sp); (try clear gsp); (try clear hun); (try clear hc); (try clear hc0); (try clear sp0); (try clear hrc); (try clear hrc0); (try clear hsb); (try clear hx); (try clear hex); (try clear hpt); (try clear hV); (try clear ap); (try clear al); (try clear bm); (try clear bd); (try clear br); (try clear bu); (try clear rr); (try clear htr); (try clear htr0))
    simp only [q138_218, q138_219, q138_222, q138_223, q138_225, q138_226, q138_227, q138_228, q138_229, q138_230, q138_231, k_27 hS, z_27, r_27_6 hS, k_33 hS, l_33 hS, z_33, as_nil, as_i, as_r, Nat.reduceAdd, Nat.reduceLeDiff, z_eq0, z_eq1, z_or, z_em, Classical.not_not, not_false_eq_true, not_true_eq_false, true_and, and_true, false_and, and_false, and_self, true_implies, false_implies, implies_true, Option.toList_some, Option.toList_none, List.cons_append, List.nil_append, Nat.add_eq_zero_iff, a_nl_i, a_nl_r, a_nl_n, true_or, or_true, eq_self, a_isRA_22, a_isRA_24, a_isRA_32, a_isA_20, ok_4, ok_5, ok_6, ok_7, ok_9, ok_20, ok_21, ok_30, ok_50, ok_180, ok_192, ok_200, ui_ap, cc_ne, cc_n0, cc_0n, Nat.reduceEqDiff, reduceIte, if_true, if_false]
    exact ⟨hi, hg⟩
  rw [q138_71]
  by_cases c1 : J (C + 31) i.toNatClampNeg ≤ k
  · -- all places are through
    have hle : cnB Y r f e (g i.toNatClampNeg) pl ≤ k.toNatClampNeg := by
      rw [e31] at c1
      have := cl_le0 (io_0 c49) c1
      rw [(io c49).2] at this
      exact this
    have hnone := cn_none (Y := Y) (r := r) (f := f) (e := e) (a := (g i.toNatClampNeg)) (pl - p) p hcn (by rw [show p + (pl - p) = pl by omega]; exact hle)
    have he := hend (by
      rw [← hV, show pl + 1 - p = (pl - p) + 1 by omega, bsL_same (pl - p) p (by omega) (fun x x0 x1 hf => absurd (cs_fit hyo hex hpt ⟨a0, a1⟩ hf) (hnone x x0 (by omega)))]) u1 u2
    ((try clear hr); (try clear hP); (try clear ih); (try clear sp); (try clear gsp); (try clear hun); (try clear hc); (try clear hc0); (try clear sp0); (try clear hrc); (try clear hrc0); (try clear hsb); (try clear hx); (try clear hex); (try clear hpt); (try clear hV); (try clear ap); (try clear al); (try clear bm); (try clear bd); (try clear br); (try clear bu); (try clear rr); (try clear htr); (try clear htr0); (try clear hend))
    simp only [q138_73, q138_74, q138_77, q138_78, q138_79, q138_82, q138_84, q138_85, q138_88, q138_89, q138_90, q138_91, q138_92, q138_93, q138_94, q138_97, k_27 hS, z_27, r_27_4 hS, k_31 hS, l_31 hS, z_31, r_27_5 hS, k_32 hS, l_32 hS, z_32, as_nil, as_i, as_r, Nat.reduceAdd, Nat.reduceLeDiff, z_eq0, z_eq1, z_or, z_em, Classical.not_not, not_false_eq_true, not_true_eq_false, true_and, and_true, false_and, and_false, and_self, true_implies, false_implies, implies_true, Option.toList_some, Option.toList_none, List.cons_append, List.nil_append, Nat.add_eq_zero_iff, a_nl_i, a_nl_r, a_nl_n, true_or, or_true, eq_self, a_isRA_22, a_isRA_24, a_isRA_32, a_isA_20, ok_4, ok_5, ok_6, ok_7, ok_9, ok_20, ok_21, ok_30, ok_50, ok_180, ok_192, ok_200, c1]
    try simp only [true_and, and_true, true_implies, false_implies, implies_true, not_true_eq_false, not_false_eq_true]
    first
      | exact ⟨hi, he⟩
      | exact ⟨hi, fun _ => he, fun h => absurd c1 h⟩
      | grind
  · have c1k := Int32.not_le.mp c1
    have hk8 : k < 48 := Int32.lt_of_lt_of_le c1k g48.2
    have hxk := ix48 hi (c := k) ⟨q0, hk8⟩
    have exn := ix_192 hi (c := k) ⟨q0, hk8⟩
    obtain ⟨-, t2, t3, t4⟩ := lp_st q0 c1k
    by_cases c2 : sf + bwt Y g i.toNatClampNeg + rch (i.toNatClampNeg + 1) ≤ B.1
    · -- nothing comes above the sum
      have he := hend (by
        rw [← hV, show pl + 1 - p = (pl - p) + 1 by omega, bsL_same (pl - p) p (by omega) (fun x x0 x1 hf => cut_all hyo hpr h4 (fun k hk => (bm k hk).1) br bu rm rr (by omega) (ex_pu hyo.2.1 hex a30 (bu _ him)) (pt_pu hpt a0 (br _ him)) ⟨hac1.1, by have := hac1.2; omega⟩ hBr.2 c2)]) u1 u2
      ((try clear hr); (try clear hP); (try clear ih); (try clear sp); (try clear gsp); (try clear hun); (try clear hc); (try clear hc0); (try clear sp0); (try clear hrc); (try clear hrc0); (try clear hsb); (try clear hx); (try clear hex); (try clear hpt); (try clear hV); (try clear ap); (try clear al); (try clear bm); (try clear bd); (try clear br); (try clear bu); (try clear rr); (try clear htr); (try clear htr0); (try clear hend))
      simp only [q138_73, q138_74, q138_77, q138_78, q138_79, q138_82, q138_84, q138_85, q138_88, q138_89, q138_90, q138_91, q138_92, q138_93, q138_94, q138_97, k_27 hS, z_27, r_27_4 hS, k_31 hS, l_31 hS, z_31, r_27_5 hS, k_32 hS, l_32 hS, z_32, as_nil, as_i, as_r, Nat.reduceAdd, Nat.reduceLeDiff, z_eq0, z_eq1, z_or, z_em, Classical.not_not, not_false_eq_true, not_true_eq_false, true_and, and_true, false_and, and_false, and_self, true_implies, false_implies, implies_true, Option.toList_some, Option.toList_none, List.cons_append, List.nil_append, Nat.add_eq_zero_iff, a_nl_i, a_nl_r, a_nl_n, true_or, or_true, eq_self, a_isRA_22, a_isRA_24, a_isRA_32, a_isA_20, ok_4, ok_5, ok_6, ok_7, ok_9, ok_20, ok_21, ok_30, ok_50, ok_180, ok_192, ok_200, c1, e32, e9, c2]
      try simp only [true_and, and_true, true_implies, false_implies, implies_true, not_true_eq_false, not_false_eq_true]
      repeat' first
        | with_reducible apply And.intro
        | with_reducible intro _
        | exact he
        | exact hi.1
        | exact hi.2
        | exact hi5.1
        | exact hi5.2
        | (exfalso; rename_i h9; exact absurd c2 h9)
    · -- the next place that is kept
      obtain ⟨q, qp, qpl, qcs, qcn, qno⟩ := cn_next (Y := Y) (r := r) (f := f) (e := e) (a := (g i.toNatClampNeg)) (c := k.toNatClampNeg) (pl - p) p hcn (by
        rw [show p + (pl - p) = pl by omega]
        rw [e31] at c1k
        have := cl_lt q0 c1k
        rw [(io c49).2] at this
        exact this)
      have qpl : q < pl := by omega
      obtain ⟨ev, hw⟩ := gsp q qpl qcs
      rw [qcn, ← exn] at ev hw
      obtain ⟨⟨r1, r2, r3⟩, rs, -⟩ := pl_rng hpr qpl
      have hsl : (f + Int32.ofNat q / Y 0 6) + Y 10 (g i.toNatClampNeg).toNatClampNeg ≤ 200 := by
        have := of_decide_eq_true (Bool.and_eq_true _ _ ▸ qcs : _ ∧ _).1
        have l4 := hyo.2.1 (g i.toNatClampNeg).toNatClampNeg
        have e99 := hpr.2.2.2.1
        generalize (f + Int32.ofNat q / Y 0 6) = y at this rs ⊢
        generalize Y 10 (g i.toNatClampNeg).toNatClampNeg = l at this l4 ⊢
        ((try clear hr); (try clear hP); (try clear ih); (try clear sp); (try clear gsp); (try clear hun); (try clear hc); (try clear hc0); (try clear sp0); (try clear hrc); (try clear hrc0); (try clear hsb); (try clear hx); (try clear hex); (try clear hpt); (try clear hV); (try clear ap); (try clear al); (try clear bm); (try clear bd); (try clear br); (try clear bu); (try clear rr); (try clear htr); (try clear htr0); (try clear hend); (try clear hw); (try clear ev); (try clear qcs); (try clear qno))
        grind
      have hVq : bsL (bfi Y f e g) (bpu Y f g) (bwt Y g) pl (bsR (bfi Y f e g) (bpu Y f g) (bwt Y g) pl z (i.toNatClampNeg + 1)) i.toNatClampNeg W sf way (pl + 1 - q) q B = V := by
        rw [← hV, show pl + 1 - p = (q - p) + (pl + 1 - q) by omega, bsL_skip (q - p) (pl + 1 - q) p (by omega) (fun x x0 x1 hf => absurd (cs_fit hyo hex hpt ⟨a0, a1⟩ hf) (qno x x0 (by omega))), show p + (q - p) = q by omega]
      have hcn1 : cnB Y r f e (g i.toNatClampNeg) (q + 1) = (k + 1).toNatClampNeg := by
        rw [t4]
        conv => lhs; unfold cnB
        rw [if_pos qcs, qcn]
      have hfit := fit_cs (f := f) (g := g) (k := i.toNatClampNeg) (p := q) hyo hex ⟨a0, a1⟩ hw qcs
      have hnext : ∀ (B2 : bB) J u1 u2, cT C K L J R → xfP C I J → sbH C Y f pl m.toNatClampNeg B2 J → (-1 ≤ B2.1 ∧ B2.1 ≤ 400) → (∀ k, k < i.toNatClampNeg → J (C + 33) k = I (C + 33) k) → bsL (bfi Y f e g) (bpu Y f g) (bwt Y g) pl (bsR (bfi Y f e g) (bpu Y f g) (bwt Y g) pl z (i.toNatClampNeg + 1)) i.toNatClampNeg W sf way (pl + 1 - (q + 1)) (q + 1) B2 = V → a_at (E + 19) (a_xm a_m138) 212 [some (a_rf (C + 27)), some (.int i), some (.int sf), some (a_rf (R (C + 15) (g i.toNatClampNeg).toNatClampNeg)), some (.int (sf + bwt Y g i.toNatClampNeg)), some (.int k), u1, u2] [] (n, t, K, L, J, R) P := fun B2 J u1 u2 hT hx hsb hBr htr hV => by
        have hS := hT.s
        have hg := ih hk8 J u1 u2 (q + 1) B2 t2 (by omega) hcn1 hT hx hsb hBr htr hV
        ((try clear hr); (try clear hP); (try clear ih); (try clear sp); (try clear gsp); (try clear hun); (try clear hc); (try clear hc0); (try clear sp0); (try clear hrc); (try clear hrc0); (try clear hsb); (try clear hx); (try clear hex); (try clear hpt); (try clear hV); (try clear hVq); (try clear ap); (try clear al); (try clear bm); (try clear bd); (try clear br); (try clear bu); (try clear rr); (try clear htr); (try clear htr0); (try clear hend); (try clear hw); (try clear hfit))
        simp only [q138_212, q138_215, as_nil, as_i, as_r, Nat.reduceAdd, Nat.reduceLeDiff, z_eq0, z_eq1, z_or, z_em, Classical.not_not, not_false_eq_true, not_true_eq_false, true_and, and_true, false_and, and_false, and_self, true_implies, false_implies, implies_true, Option.toList_some, Option.toList_none, List.cons_append, List.nil_append, Nat.add_eq_zero_iff, a_nl_i, a_nl_r, a_nl_n, true_or, or_true, eq_self, a_isRA_22, a_isRA_24, a_isRA_32, a_isA_20, ok_4, ok_5, ok_6, ok_7, ok_9, ok_20, ok_21, ok_30, ok_50, ok_180, ok_192, ok_200]
        exact hg
      have hskip : ¬ bfi Y f e g W i.toNatClampNeg q = true → bsL (bfi Y f e g) (bpu Y f g) (bwt Y g) pl (bsR (bfi Y f e g) (bpu Y f g) (bwt Y g) pl z (i.toNatClampNeg + 1)) i.toNatClampNeg W sf way (pl + 1 - (q + 1)) (q + 1) B = V := fun h => by
        rw [← hVq, show pl + 1 - q = (pl + 1 - (q + 1)) + 1 by omega]
        conv => rhs; unfold bsL
        rw [if_pos qpl, if_neg h]
      have hlast : ¬ bfi Y f e g W i.toNatClampNeg q = true → ∀ u1 u2, a_at (E + 19) (a_xm a_m138) 212 [some (a_rf (C + 27)), some (.int i), some (.int sf), some (a_rf (R (C + 15) (g i.toNatClampNeg).toNatClampNeg)), some (.int (sf + bwt Y g i.toNatClampNeg)), some (.int k), u1, u2] [] (n, t, K, L, J, R) P := fun h u1 u2 => hnext B J u1 u2 hT hx hsb hBr htr (hskip h)
      have qn := (io (n := q) (by omega)).2
      generalize eb : (Int32.ofNat q - Int32.ofNat q / Y 0 6 * Y 0 6) = b at *
      generalize es : (f + Int32.ofNat q / Y 0 6) = s at *
      have b6 : 0 ≤ b ∧ b < 6 := ⟨r1, Int32.lt_of_le_of_lt r3 (by decide)⟩
      obtain ⟨d1, d2⟩ := sp_div b6 rs
      have d3 : 8 * s + b - s * 8 = b := by rw [d1] at d2; exact d2
      have hbW : 0 ≤ b ∧ b < W 0 6 := by rw [e06]; exact ⟨r1, r2⟩
      have hgo : a_does (E + 19) 110 [a_rf (C + 14), a_rf (R (C + 15) (g i.toNatClampNeg).toNatClampNeg), .int s] (n, t, K, L, J, R) (fun r h' => a_at (E + 19) (a_xm a_m138) 141 [some (a_rf (C + 27)), some (.int i), some (.int sf), some (a_rf (R (C + 15) (g i.toNatClampNeg).toNatClampNeg)), some (.int (sf + bwt Y g i.toNatClampNeg)), some (.int k), some (.int (8 * s + b)), some (.int (J (C + 30) (i * 48 + k).toNatClampNeg))] (r.toList ++ []) h' P) := by
        refine ce_isTooNear (d := E + 17) hT hc ap (fun ctn => ?_) (fun ctn => ?_)
        · have hopen : a_does (E + 19) 136 [a_rf (C + 14), a_rf (R (C + 15) (g i.toNatClampNeg).toNatClampNeg), .int b, .int s, .int (J (C + 30) (i * 48 + k).toNatClampNeg)] (n, t, K, L, J, R) (fun r h' => a_at (E + 19) (a_xm a_m138) 164 [some (a_rf (C + 27)), some (.int i), some (.int sf), some (a_rf (R (C + 15) (g i.toNatClampNeg).toNatClampNeg)), some (.int (sf + bwt Y g i.toNatClampNeg)), some (.int k), some (.int (8 * s + b)), some (.int (J (C + 30) (i * 48 + k).toNatClampNeg))] (r.toList ++ []) h' P) := by
            refine ce_isOpen (d := E + 15) hT hc ap hbW rs ?_
            by_cases co : opB W (g i.toNatClampNeg) b s (J (C + 30) (i * 48 + k).toNatClampNeg) = true
            · rw [if_pos co]
              have hft := hfit.mpr ⟨ctn, co⟩
              have ht := lz_try (n := n) (t := t) (P := P) (z := z) (B := B) (way' := up1 way i.toNatClampNeg (Int32.ofNat q)) (sf' := sf + bwt Y g i.toNatClampNeg) (v := 8 * s + b) (x2 := some (.int sf)) (x3 := some (.int (sf + bwt Y g i.toNatClampNeg))) (x5 := some (.int k)) hse hyo hpr bm bd br bu rm rr hi him hr eup hT hc hex hpt hno hm sp hrc hzz hzE hac1 hBr hsb (fun k hk => by
                unfold up1
                rw [if_neg (by omega)]
                exact htrI k hk) (by
                unfold up1 enB
                rw [if_pos rfl, qn, if_pos qpl, eb, es]) hun ⟨r1, r2⟩ rs hsl hw co (fun J2 T2 x2 sb2 tr2 => by
                rw [eup] at sb2
                have rg := bsR_rng (fit := bfi Y f e g) (put := bpu Y f g) (wt := bwt Y g) (pl := pl) (fun _ => bwt_rng) z (i.toNatClampNeg + 1) (puY W (g i.toNatClampNeg) b s) (sf + bwt Y g i.toNatClampNeg) (up1 way i.toNatClampNeg (Int32.ofNat q)) B hac1.1 hac1.2 hBr.2
                refine hnext _ J2 _ _ T2 (xf_tr hx x2) sb2 ⟨Int32.le_trans hBr.1 rg.1, rg.2⟩ (fun k hk => (tr2 k hk).trans (htr k hk)) ?_
                rw [← hVq, show pl + 1 - q = (pl + 1 - (q + 1)) + 1 by omega]
                conv => rhs; unfold bsL
                rw [if_pos qpl, if_pos hft]
                have ep : bpu Y f g W i.toNatClampNeg q = puY W (g i.toNatClampNeg) b s := by
                  unfold bpu
                  rw [eb, es]
                rw [ep]) rfl
              ((try clear hr); (try clear hP); (try clear ih); (try clear sp); (try clear gsp); (try clear hun); (try clear hc); (try clear hc0); (try clear sp0); (try clear hrc); (try clear hrc0); (try clear hsb); (try clear hx); (try clear hex); (try clear hpt); (try clear hV); (try clear hVq); (try clear ap); (try clear al); (try clear bm); (try clear bd); (try clear br); (try clear bu); (try clear rr); (try clear htr); (try clear htr0); (try clear hend); (try clear hw); (try clear hfit); (try clear hnext); (try clear hlast); (try clear hskip))
              simp only [q138_164, q138_167, q138_168, q138_171, q138_172, q138_174, q138_176, q138_177, q138_179, q138_181, q138_182, q138_184, k_27 hS, z_27, r_27_0 hS, k_14 hS, z_14, as_nil, as_i, as_r, Nat.reduceAdd, Nat.reduceLeDiff, z_eq0, z_eq1, z_or, z_em, Classical.not_not, not_false_eq_true, not_true_eq_false, true_and, and_true, false_and, and_false, and_self, true_implies, false_implies, implies_true, Option.toList_some, Option.toList_none, List.cons_append, List.nil_append, Nat.add_eq_zero_iff, a_nl_i, a_nl_r, a_nl_n, true_or, or_true, eq_self, a_isRA_22, a_isRA_24, a_isRA_32, a_isA_20, ok_4, ok_5, ok_6, ok_7, ok_9, ok_20, ok_21, ok_30, ok_50, ok_180, ok_192, ok_200, ha, an0, n8, d1, d3]
              try simp only [true_and, and_true, true_implies, false_implies, implies_true, not_true_eq_false, not_false_eq_true]
              first
                | exact ht
                | exact ⟨fun h => absurd h (by decide), fun _ => ht⟩
                | grind
            · rw [if_neg co]
              have ht := hlast (fun q => co (hfit.mp q).2) (some (.int (8 * s + b))) (some (.int (J (C + 30) (i * 48 + k).toNatClampNeg)))
              ((try clear hr); (try clear hP); (try clear ih); (try clear sp); (try clear gsp); (try clear hun); (try clear hc); (try clear hc0); (try clear sp0); (try clear hrc); (try clear hrc0); (try clear hsb); (try clear hx); (try clear hex); (try clear hpt); (try clear hV); (try clear hVq); (try clear ap); (try clear al); (try clear bm); (try clear bd); (try clear br); (try clear bu); (try clear rr); (try clear htr); (try clear htr0); (try clear hend); (try clear hw); (try clear hfit); (try clear hnext); (try clear hlast); (try clear hskip))
              simp only [q138_164, as_nil, as_i, as_r, Nat.reduceAdd, Nat.reduceLeDiff, z_eq0, z_eq1, z_or, z_em, Classical.not_not, not_false_eq_true, not_true_eq_false, true_and, and_true, false_and, and_false, and_self, true_implies, false_implies, implies_true, Option.toList_some, Option.toList_none, List.cons_append, List.nil_append, Nat.add_eq_zero_iff, a_nl_i, a_nl_r, a_nl_n, true_or, or_true, eq_self, a_isRA_22, a_isRA_24, a_isRA_32, a_isA_20, ok_4, ok_5, ok_6, ok_7, ok_9, ok_20, ok_21, ok_30, ok_50, ok_180, ok_192, ok_200]
              try simp only [true_and, and_true, true_implies, false_implies, implies_true, not_true_eq_false, not_false_eq_true]
              first
                | exact ht
                | exact ⟨fun _ => ht, fun h => absurd rfl h⟩
                | grind
          ((try clear hr); (try clear hP); (try clear ih); (try clear sp); (try clear gsp); (try clear hun); (try clear hc); (try clear hc0); (try clear sp0); (try clear hrc); (try clear hrc0); (try clear hsb); (try clear hx); (try clear hex); (try clear hpt); (try clear hV); (try clear hVq); (try clear ap); (try clear al); (try clear bm); (try clear bd); (try clear br); (try clear bu); (try clear rr); (try clear htr); (try clear htr0); (try clear hend); (try clear hw); (try clear hfit); (try clear hnext); (try clear hlast); (try clear hskip))
          simp only [q138_141, q138_144, q138_145, q138_148, q138_149, q138_151, q138_153, q138_154, q138_156, q138_158, q138_159, q138_161, k_27 hS, z_27, r_27_0 hS, k_14 hS, z_14, as_nil, as_i, as_r, Nat.reduceAdd, Nat.reduceLeDiff, z_eq0, z_eq1, z_or, z_em, Classical.not_not, not_false_eq_true, not_true_eq_false, true_and, and_true, false_and, and_false, and_self, true_implies, false_implies, implies_true, Option.toList_some, Option.toList_none, List.cons_append, List.nil_append, Nat.add_eq_zero_iff, a_nl_i, a_nl_r, a_nl_n, true_or, or_true, eq_self, a_isRA_22, a_isRA_24, a_isRA_32, a_isA_20, ok_4, ok_5, ok_6, ok_7, ok_9, ok_20, ok_21, ok_30, ok_50, ok_180, ok_192, ok_200, ha, an0, n8, d1, d3]
          try simp only [true_and, and_true, true_implies, false_implies, implies_true, not_true_eq_false, not_false_eq_true]
          first
            | exact hopen
            | grind
        · have ht := hlast (fun q => (hfit.mp q).1 ctn) (some (.int (8 * s + b))) (some (.int (J (C + 30) (i * 48 + k).toNatClampNeg)))
          ((try clear hr); (try clear hP); (try clear ih); (try clear sp); (try clear gsp); (try clear hun); (try clear hc); (try clear hc0); (try clear sp0); (try clear hrc); (try clear hrc0); (try clear hsb); (try clear hx); (try clear hex); (try clear hpt); (try clear hV); (try clear hVq); (try clear ap); (try clear al); (try clear bm); (try clear bd); (try clear br); (try clear bu); (try clear rr); (try clear htr); (try clear htr0); (try clear hend); (try clear hw); (try clear hfit); (try clear hnext); (try clear hlast); (try clear hskip))
          simp only [q138_141, as_nil, as_i, as_r, Nat.reduceAdd, Nat.reduceLeDiff, z_eq0, z_eq1, z_or, z_em, Classical.not_not, not_false_eq_true, not_true_eq_false, true_and, and_true, false_and, and_false, and_self, true_implies, false_implies, implies_true, Option.toList_some, Option.toList_none, List.cons_append, List.nil_append, Nat.add_eq_zero_iff, a_nl_i, a_nl_r, a_nl_n, true_or, or_true, eq_self, a_isRA_22, a_isRA_24, a_isRA_32, a_isA_20, ok_4, ok_5, ok_6, ok_7, ok_9, ok_20, ok_21, ok_30, ok_50, ok_180, ok_192, ok_200]
          try simp only [true_and, and_true, true_implies, false_implies, implies_true, not_true_eq_false, not_false_eq_true]
          first
            | exact ht
            | grind
      ((try clear hr); (try clear hP); (try clear ih); (try clear sp); (try clear gsp); (try clear hun); (try clear hc); (try clear hc0); (try clear sp0); (try clear hrc); (try clear hrc0); (try clear hsb); (try clear hx); (try clear hex); (try clear hpt); (try clear hV); (try clear hVq); (try clear ap); (try clear al); (try clear bm); (try clear bd); (try clear br); (try clear bu); (try clear rr); (try clear htr); (try clear htr0); (try clear hend); (try clear hw); (try clear hfit); (try clear hnext); (try clear hlast); (try clear hskip))
      simp only [q138_73, q138_74, q138_77, q138_78, q138_79, q138_82, q138_84, q138_85, q138_88, q138_89, q138_90, q138_91, q138_92, q138_93, q138_94, q138_97, q138_100, q138_101, q138_104, q138_105, q138_107, q138_108, q138_110, q138_111, q138_112, q138_114, q138_115, q138_118, q138_119, q138_121, q138_122, q138_124, q138_125, q138_126, q138_128, q138_129, q138_132, q138_133, q138_135, q138_137, q138_138, k_27 hS, z_27, r_27_4 hS, k_31 hS, l_31 hS, z_31, r_27_5 hS, k_32 hS, l_32 hS, z_32, r_27_2 hS, k_29 hS, l_29 hS, z_29, r_27_3 hS, k_30 hS, l_30 hS, z_30, r_27_0 hS, k_14 hS, z_14, as_nil, as_i, as_r, Nat.reduceAdd, Nat.reduceLeDiff, z_eq0, z_eq1, z_or, z_em, Classical.not_not, not_false_eq_true, not_true_eq_false, true_and, and_true, false_and, and_false, and_self, true_implies, false_implies, implies_true, Option.toList_some, Option.toList_none, List.cons_append, List.nil_append, Nat.add_eq_zero_iff, a_nl_i, a_nl_r, a_nl_n, true_or, or_true, eq_self, a_isRA_22, a_isRA_24, a_isRA_32, a_isA_20, ok_4, ok_5, ok_6, ok_7, ok_9, ok_20, ok_21, ok_30, ok_50, ok_180, ok_192, ok_200, c1, e32, e9, c2, ha, an0, n8, ev, d1]
      try simp only [true_and, and_true, true_implies, false_implies, implies_true, not_true_eq_false, not_false_eq_true]
      repeat' first
        | with_reducible apply And.intro
        | with_reducible intro _
        | exact hgo
        | exact hi.1
        | exact hi.2
        | exact hi5.1
        | exact hi5.2
        | exact hxk.1
        | exact hxk.2
        | (exfalso; rename_i h9; exact absurd h9 c2)
theorem ky_all {m : Int32} (hm4 : 0 ≤ m ∧ m ≤ 4) (hse : seP C R Y) (hyo : yoP Y) (hpr : plR Y f e pl) (bm : ∀ k, k < m.toNatClampNeg → (0 ≤ g k ∧ g k < Y 0 17) ∧ R (C + 28) k = R (C + 15) (g k).toNatClampNeg) (bd : ∀ k j, k < j → j < m.toNatClampNeg → ¬ (g k).toNatClampNeg = (g j).toNatClampNeg) (br : ∀ k, k < m.toNatClampNeg → bq r (g k).toNatClampNeg = true) (bu : ∀ k, k < m.toNatClampNeg → ¬ 0 ≤ Y 20 (g k).toNatClampNeg) (rm : rch m.toNatClampNeg = 0) (rr : ∀ k, k < m.toNatClampNeg → rch k = rch (k + 1) + (if 0 < cnB Y r f e (g k) pl then bwt Y g k else 0)) : ∀ z, kyP C n t K L R Y g rch r f e pl m z := by
  intro z
  have s0 := Int32.le_iff_toInt_le.mp hm4.1
  have s1 := Int32.le_iff_toInt_le.mp hm4.2
  have c0 : (0 : Int32).toInt = 0 := rfl
  have c1 : (1 : Int32).toInt = 1 := rfl
  have c4 : (4 : Int32).toInt = 4 := rfl
  have em : (m.toNatClampNeg : Int) = m.toInt := by
    show ((m.toInt.toNat : Nat) : Int) = _
    omega
  have h4 : m.toNatClampNeg ≤ 4 := by omega
  induction z with
  | zero =>
    intro i sf I W B way D P h0 h1 h2 hT hc hex hno hpt hm sp hrc hun hac hBr hsb htr hP
    obtain ⟨E, rfl⟩ : ∃ E, D = E + 20 := ⟨D - 20, by omega⟩
    have hS := hT.s
    have eim : i = m := Int32.toInt_inj.mp (by omega)
    have ei : i = I (C + 27) 8 := by rw [hm]; exact eim
    have gi := hT.g_best
    rw [← ei] at gi
    have hi4 : ¬ 4 < i := Int32.not_lt.mpr gi.2
    have hi5 : 0 ≤ i ∧ i < 5 := ⟨gi.1, by ((try clear hT); (try clear hS); (try clear hP); (try clear hc); (try clear sp); (try clear hun); (try clear hex); (try clear hpt); (try clear hrc); (try clear htr); (try clear hsb); (try clear bm); (try clear bd); (try clear br); (try clear bu); (try clear rr)); grind⟩
    have m5 : i.toNatClampNeg ≤ 4 := by rw [eim]; exact h4
    have n0 : ¬ i < 0 := Int32.not_lt.mpr gi.1
    have hB : dB C K L R I I := dB_refl hT
    have f1 : dB C K L R I (a_ci (a_ui I (C + 27) 9 sf) (C + 33) (C + 34) 0 0 i.toNatClampNeg) := dB_34 (dB_sum hB)
    have e32 : I (C + 32) i.toNatClampNeg = 0 := by rw [hrc _ (by rw [eim]; exact Nat.le_refl _), eim]; exact rm
    have e9 : I (C + 27) 9 = B.1 := hsb.1
    have hp0 : sf ≤ B.1 → P none (n, t, K, L, I, R) := fun hle => by
      have eB : bsR (bfi Y f e g) (bpu Y f g) (bwt Y g) pl 0 i.toNatClampNeg W sf way B = B := by
        show bsU sf way B = B
        unfold bsU
        rw [if_neg (Int32.not_lt.mpr hle)]
      rw [eB] at hP
      exact hP I hT xf_refl hsb (fun _ _ => rfl)
    have hp1 : ¬ sf ≤ B.1 → P none (n, t, K, L, (a_ci (a_ui I (C + 27) 9 sf) (C + 33) (C + 34) 0 0 i.toNatClampNeg), R) := fun hle => by
      have eB : bsR (bfi Y f e g) (bpu Y f g) (bwt Y g) pl 0 i.toNatClampNeg W sf way B = (sf, way) := by
        show bsU sf way B = (sf, way)
        unfold bsU
        rw [if_pos (Int32.not_le.mp hle)]
      rw [eB] at hP
      refine hP _ f1.1.1 (fun x j _ _ e3 _ e5 => by rw [ci_ne e5, ui_ap, if_neg e3]) ⟨by rw [ci_ne (by omega), ui_ap, if_pos ⟨rfl, rfl⟩], fun _ k hk => ?_⟩ (fun k hk => by rw [ci_ne (by omega), ui_ap, if_neg (by omega)])
      have hk2 : k < i.toNatClampNeg := by rw [eim]; exact hk
      unfold a_ci va_cpy
      rw [if_pos rfl, if_pos (by omega), Nat.zero_add, Nat.sub_zero, ui_ap, if_neg (by omega)]
      exact htr k hk2
    ((try clear hP); (try clear hc); (try clear sp); (try clear hun); (try clear hex); (try clear hpt); (try clear hrc); (try clear htr); (try clear hsb); (try clear bm); (try clear bd); (try clear br); (try clear bu); (try clear rr))
    rw [a_enter1 (M := a_m138) rfl (a_cat_rf (a_cat_int (a_cat_int a_cat_nil))) (show 3 ≤ 8 by decide)]
    show a_at _ (a_xm a_m138) 0 [some (a_rf (C + 27)), some (.int i), some (.int sf), none, none, none, none, none] [] _ _
    simp only [q138_0, q138_1, q138_2, q138_5, q138_6, q138_7, q138_10, q138_11, q138_12, q138_13, q138_14, q138_17, q138_20, q138_21, q138_22, q138_23, q138_26, q138_29, q138_30, q138_31, q138_34, q138_35, q138_38, q138_39, q138_40, q138_43, q138_44, q138_45, q138_48, q138_51, k_27 hS, z_27, r_27_5 hS, k_32 hS, l_32 hS, z_32, r_27_6 hS, k_33 hS, l_33 hS, z_33, r_27_7 hS, k_34 hS, l_34 hS, z_34, as_nil, as_i, as_r, Nat.reduceAdd, Nat.reduceLeDiff, z_eq0, z_eq1, z_or, z_em, Classical.not_not, not_false_eq_true, not_true_eq_false, true_and, and_true, false_and, and_false, and_self, true_implies, false_implies, implies_true, Option.toList_some, Option.toList_none, List.cons_append, List.nil_append, Nat.add_eq_zero_iff, a_nl_i, a_nl_r, a_nl_n, true_or, or_true, eq_self, a_isRA_22, a_isRA_24, a_isRA_32, a_isA_20, ok_4, ok_5, ok_6, ok_7, ok_9, ok_20, ok_21, ok_30, ok_50, ok_180, ok_192, ok_200, ui_ap, cc_ne, cc_n0, cc_0n, Nat.reduceEqDiff, reduceIte, if_true, if_false, ← ei, hi4, e32, e9, Int32.add_zero, a_copy_eq, a_kd_eq, a_ln_eq, cn00, lt00, Nat.zero_add, n0, m5]
    try simp only [true_and, and_true, true_implies, false_implies, implies_true, not_true_eq_false, not_false_eq_true]
    repeat' first
      | exact hi5
      | exact hp0
      | exact hp1
      | with_reducible apply And.intro
      | exact hi5.1
      | exact hi5.2
      | exact hp0 (by assumption)
      | exact hp1 (by assumption)
      | exact hp0 (Int32.not_lt.mp (by assumption))
      | exact hp1 (Int32.not_le.mpr (by assumption))
      | with_reducible intro _
  | succ z ih =>
    intro i sf I W B way D P h0 h1 h2 hT hc hex hno hpt hm sp hrc hun hac hBr hsb htr hP
    obtain ⟨E, rfl⟩ : ∃ E, D = E + 20 := ⟨D - 20, by omega⟩
    have hS := hT.s
    have e0 := Int32.le_iff_toInt_le.mp h0
    have hi : 0 ≤ i ∧ i < 4 := ⟨h0, by rw [Int32.lt_iff_toInt_lt]; omega⟩
    have iml : i < m := by rw [Int32.lt_iff_toInt_lt]; omega
    have him : i.toNatClampNeg < m.toNatClampNeg := cl_lt h0 iml
    have ei : ¬ i = I (C + 27) 8 := by
      rw [hm]
      intro e
      rw [e] at h1
      omega
    have hi4 : ¬ 4 < i := by ((try clear hT); (try clear hS); (try clear hP); (try clear hc); (try clear sp); (try clear hun); (try clear ih); (try clear bm); (try clear hex); (try clear hpt); (try clear hrc); (try clear htr); (try clear hsb); (try clear bd); (try clear br); (try clear bu); (try clear rr)); grind
    have hi5 : 0 ≤ i ∧ i < 5 := ⟨h0, by ((try clear hT); (try clear hS); (try clear hP); (try clear hc); (try clear sp); (try clear hun); (try clear ih); (try clear bm); (try clear hex); (try clear hpt); (try clear hrc); (try clear htr); (try clear hsb); (try clear bd); (try clear br); (try clear bu); (try clear rr)); grind⟩
    obtain ⟨⟨a0, a1⟩, er⟩ := bm _ him
    have e17 : W 0 17 = Y 0 17 := hex.1 0 17 (by unfold sb; omega)
    have ag : 0 ≤ g i.toNatClampNeg ∧ g i.toNatClampNeg < W 0 17 := ⟨a0, by rw [e17]; exact a1⟩
    obtain ⟨-, ⟨ha, an0, -⟩, -⟩ := aa_of hc ag.1 ag.2
    have ei1 : (i + 1).toInt = i.toInt + 1 := by rw [ti_add (by omega)]; omega
    obtain ⟨t1, t2, t3, t4⟩ := lp_st h0 iml
    have hmz : i.toNatClampNeg + (z + 1) = m.toNatClampNeg := by
      have e1 : ((i.toNatClampNeg : Nat) : Int) = i.toInt := by
        show ((i.toInt.toNat : Nat) : Int) = _
        omega
      omega
    have e32 : I (C + 32) i.toNatClampNeg = rch i.toNatClampNeg := hrc _ (by omega)
    have e9 : I (C + 27) 9 = B.1 := hsb.1
    have hn : ¬ R (C + 28) i.toNatClampNeg = 0 := by rw [er]; exact an0
    have hp0 : sf + rch i.toNatClampNeg ≤ B.1 → P none (n, t, K, L, I, R) := fun hle => by
      rw [cut_all hyo hpr h4 (fun k hk => (bm k hk).1) br bu rm rr hmz hex hpt ⟨hac.1, by have := hac.2; omega⟩ hBr.2 hle] at hP
      exact hP I hT xf_refl hsb (fun _ _ => rfl)
    have hl := fun u1 u2 => lz_ext_71 (n := n) (t := t) (P := P) (E := E) (z := z) (sf := sf) (way := way) hse hyo hpr bm bd br bu rm rr h4 hi him ih t4 (by omega) (by omega) hT hc hex hno hpt hm sp hrc hun ⟨hac.1, hac.2⟩ htr hP 0 (by decide) I u1 u2 0 B (by decide) (Nat.zero_le _) rfl hT xf_refl hsb hBr (fun _ _ => rfl) rfl
    have hw : a_does (E + 19) 137 [a_rf (C + 27), .int i] (n, t, K, L, I, R) (fun r' h' => a_at (E + 19) (a_xm a_m138) 65 [some (a_rf (C + 27)), some (.int i), some (.int sf), some (a_rf (R (C + 15) (g i.toNatClampNeg).toNatClampNeg)), none, none, none, none] (r'.toList ++ [.int sf]) h' P) := by
      refine ce_worth (d := E + 17) hT hc hex.1 hi ag er ?_
      ((try clear hP); (try clear hc); (try clear sp); (try clear hun); (try clear ih); (try clear bm); (try clear hex); (try clear hpt); (try clear hrc); (try clear htr); (try clear hsb); (try clear bd); (try clear br); (try clear bu); (try clear rr); (try clear hp0))
      simp only [q138_65, q138_66, q138_68, q138_69, as_nil, as_i, as_r, Nat.reduceAdd, Nat.reduceLeDiff, z_eq0, z_eq1, z_or, z_em, Classical.not_not, not_false_eq_true, not_true_eq_false, true_and, and_true, false_and, and_false, and_self, true_implies, false_implies, implies_true, Option.toList_some, Option.toList_none, List.cons_append, List.nil_append, Nat.add_eq_zero_iff, a_nl_i, a_nl_r, a_nl_n, true_or, or_true, eq_self, a_isRA_22, a_isRA_24, a_isRA_32, a_isA_20, ok_4, ok_5, ok_6, ok_7, ok_9, ok_20, ok_21, ok_30, ok_50, ok_180, ok_192, ok_200, ui_ap, cc_ne, cc_n0, cc_0n, Nat.reduceEqDiff, reduceIte, if_true, if_false]
      exact hl _ _
    ((try clear hP); (try clear hc); (try clear sp); (try clear hun); (try clear ih); (try clear bm); (try clear hex); (try clear hpt); (try clear hrc); (try clear htr); (try clear hsb); (try clear bd); (try clear br); (try clear bu); (try clear rr); (try clear hl))
    rw [a_enter1 (M := a_m138) rfl (a_cat_rf (a_cat_int (a_cat_int a_cat_nil))) (show 3 ≤ 8 by decide)]
    show a_at _ (a_xm a_m138) 0 [some (a_rf (C + 27)), some (.int i), some (.int sf), none, none, none, none, none] [] _ _
    simp only [q138_0, q138_1, q138_2, q138_5, q138_6, q138_7, q138_10, q138_11, q138_12, q138_13, q138_14, q138_17, q138_20, q138_21, q138_22, q138_23, q138_26, q138_29, q138_30, q138_31, q138_34, q138_35, q138_38, q138_39, q138_40, q138_43, q138_44, q138_45, q138_48, q138_51, q138_52, q138_53, q138_56, q138_57, q138_58, q138_59, q138_60, q138_61, q138_62, k_27 hS, z_27, r_27_5 hS, k_32 hS, l_32 hS, z_32, r_27_6 hS, k_33 hS, l_33 hS, z_33, r_27_7 hS, k_34 hS, l_34 hS, z_34, r_27_1 hS, k_28 hS, l_28 hS, z_28, as_nil, as_i, as_r, Nat.reduceAdd, Nat.reduceLeDiff, z_eq0, z_eq1, z_or, z_em, Classical.not_not, not_false_eq_true, not_true_eq_false, true_and, and_true, false_and, and_false, and_self, true_implies, false_implies, implies_true, Option.toList_some, Option.toList_none, List.cons_append, List.nil_append, Nat.add_eq_zero_iff, a_nl_i, a_nl_r, a_nl_n, true_or, or_true, eq_self, a_isRA_22, a_isRA_24, a_isRA_32, a_isA_20, ok_4, ok_5, ok_6, ok_7, ok_9, ok_20, ok_21, ok_30, ok_50, ok_180, ok_192, ok_200, ui_ap, cc_ne, cc_n0, cc_0n, Nat.reduceEqDiff, reduceIte, if_true, if_false, ei, hi4, e32, e9, er]
    try simp only [true_and, and_true, true_implies, false_implies, implies_true, not_true_eq_false, not_false_eq_true]
    repeat' first
      | exact hi5
      | exact hi
      | exact hp0
      | exact hw
      | with_reducible apply And.intro
      | exact hi5.1
      | exact hi5.2
      | exact hi.1
      | exact hi.2
      | exact hp0 (by assumption)
      | exact hp0 (Int32.not_lt.mp (by assumption))
      | with_reducible intro _
end Z99
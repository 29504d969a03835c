/-! the class: places collected, just so -/
section Z97
variable {d n t C c : Nat} {K L : Nat → Nat} {I I0 J J0 J1 J2 : Nat → Nat → Int32} {R : Nat → Nat → Nat} {P : Option Value → AH → Prop}
variable {Y Z W : Nat → Nat → Int32} {R' R1 R2 : Nat → Nat → Nat} {g : Nat → Int32} {r f e : Int32} {pl : Nat}
theorem pl_fin : ∀ x : Fin 8, ∀ B : Fin 7, ∀ b : Fin 6, b.val < B.val → Int32.ofNat (x.val * B.val + b.val) / Int32.ofNat B.val = Int32.ofNat x.val ∧ Int32.ofNat (x.val * B.val + b.val) - Int32.ofNat (x.val * B.val + b.val) / Int32.ofNat B.val * Int32.ofNat B.val = Int32.ofNat b.val := by decide +kernel
theorem pl_at {s b : Int32} (hfs : f ≤ s) (hf0 : 0 ≤ f ∧ f ≤ 199) (hs7 : s - f ≤ 7) (hs : s ≤ 199) (hb : 0 ≤ b ∧ b < Y 0 6) (h6 : Y 0 6 ≤ 6) : (f + Int32.ofNat ((s - f).toNatClampNeg * (Y 0 6).toNatClampNeg + b.toNatClampNeg) / Y 0 6) = s ∧ (Int32.ofNat ((s - f).toNatClampNeg * (Y 0 6).toNatClampNeg + b.toNatClampNeg) - Int32.ofNat ((s - f).toNatClampNeg * (Y 0 6).toNatClampNeg + b.toNatClampNeg) / Y 0 6 * Y 0 6) = b := by
  have x0 : 0 ≤ s - f := by ((try clear hs7); (try clear hb); (try clear h6)); grind
  have y0 : 0 ≤ Y 0 6 := Int32.le_of_lt (Int32.lt_of_le_of_lt hb.1 hb.2)
  have xn : (s - f).toNatClampNeg < 8 := by
    have := cl_le0 x0 hs7
    rw [show (7 : Int32).toNatClampNeg = 7 from rfl] at this
    omega
  have yn : (Y 0 6).toNatClampNeg < 7 := by
    have := cl_le0 y0 h6
    rw [show (6 : Int32).toNatClampNeg = 6 from rfl] at this
    omega
  have bn := cl_lt hb.1 hb.2
  have key := pl_fin ⟨(s - f).toNatClampNeg, xn⟩ ⟨(Y 0 6).toNatClampNeg, yn⟩ ⟨b.toNatClampNeg, by omega⟩ bn
  rw [← on_cl x0, ← on_cl y0, ← on_cl hb.1] at key
  rw [key.2, key.1]
  exact ⟨by ((try clear key); (try clear hs7); (try clear xn); (try clear yn); (try clear bn)); grind, rfl⟩
/-- a later place lies no earlier -/
theorem pl_ge (h : plR Y f e pl) {s : Int32} (hfs : f ≤ s) (hs : s ≤ 200) {q : Nat} (hq : q < pl) (hp : (s - f).toNatClampNeg * (Y 0 6).toNatClampNeg ≤ q) : s ≤ (f + Int32.ofNat q / Y 0 6) := by
  obtain ⟨h1, h2, h3, h4, h5⟩ := h
  have hB := (h5 q hq).1
  have x0 : 0 ≤ s - f := by ((try clear h5)); grind
  have c0 : (0 : Int32).toInt = 0 := rfl
  have c6 : (6 : Int32).toInt = 6 := rfl
  have c199 : (199 : Int32).toInt = 199 := rfl
  have c200 : (200 : Int32).toInt = 200 := rfl
  have q0 : 0 ≤ Int32.ofNat q := io_0 (by omega)
  have ed : (Int32.ofNat q / Y 0 6).toInt = (q : Int) / (Y 0 6).toInt := by
    rw [ti_div q0 hB, (io (n := q) (by omega)).1]
  have b0 := Int32.lt_iff_toInt_lt.mp hB
  have b6 := Int32.le_iff_toInt_le.mp h2.2
  have f0 := Int32.le_iff_toInt_le.mp h3.1
  have f1 := Int32.le_iff_toInt_le.mp h3.2
  have s0 := Int32.le_iff_toInt_le.mp hfs
  have s1 := Int32.le_iff_toInt_le.mp hs
  have bt : ((Y 0 6).toNatClampNeg : Int) = (Y 0 6).toInt := by
    show (((Y 0 6).toInt.toNat : Nat) : Int) = _
    omega
  have xe : (s - f).toInt = s.toInt - f.toInt := by
    rw [Int32.toInt_sub]
    simp only [Int.bmod_def]
    omega
  have xt : ((s - f).toNatClampNeg : Int) = s.toInt - f.toInt := by
    show (((s - f).toInt.toNat : Nat) : Int) = _
    omega
  have hx : (s - f).toNatClampNeg ≤ q / (Y 0 6).toNatClampNeg := (Nat.le_div_iff_mul_le (by omega)).mpr hp
  have hqB : q / (Y 0 6).toNatClampNeg ≤ q := Nat.div_le_self _ _
  have ed2 : (Int32.ofNat q / Y 0 6).toInt = ((q / (Y 0 6).toNatClampNeg : Nat) : Int) := by
    rw [ed, ← bt]
    rfl
  rw [Int32.le_iff_toInt_le, ti_add (by omega)]
  omega
def spE (C : Nat) (Y : Nat → Nat → Int32) (r f e a : Int32) (k p : Nat) (J : Nat → Nat → Int32) : Prop := J (C + 31) k = Int32.ofNat (cnB Y r f e a p) ∧ ∀ q, q < p → csB Y r e a (f + Int32.ofNat q / Y 0 6) (Int32.ofNat q - Int32.ofNat q / Y 0 6 * Y 0 6) = true → J (C + 29) (48 * k + cnB Y r f e a q) = 8 * (f + Int32.ofNat q / Y 0 6) + (Int32.ofNat q - Int32.ofNat q / Y 0 6 * Y 0 6) ∧ (∀ z : Int32, 0 ≤ z → z < Y 10 a.toNatClampNeg → ((J (C + 30) (48 * k + cnB Y r f e a q) >>> (z &&& 31)) &&& 1 = 0 ↔ ¬ 0 ≤ wtA Y 87 a (Int32.ofNat q - Int32.ofNat q / Y 0 6 * Y 0 6) ((f + Int32.ofNat q / Y 0 6) + z)))
def spA (C : Nat) (Y : Nat → Nat → Int32) (g : Nat → Int32) (r f e : Int32) (pl k p : Nat) (J : Nat → Nat → Int32) : Prop := (∀ j, j < k → spE C Y r f e (g j) j pl J) ∧ spE C Y r f e (g k) k p J
theorem se_C {a : Int32} {k p : Nat} (h : spE C Y r f e a k p J) (h2 : ∀ q j, (q = 29 ∨ q = 30 ∨ q = 31) → J2 (C + q) j = J (C + q) j) : spE C Y r f e a k p J2 := ⟨(h2 31 _ (by omega)).trans h.1, fun q hq c => by
  rw [h2 29 _ (by omega), h2 30 _ (by omega)]
  exact h.2 q hq c⟩
theorem sa_C {k p : Nat} (h : spA C Y g r f e pl k p J) (h2 : dC C K L R J J2) : spA C Y g r f e pl k p J2 := by
  have e : ∀ q j, (q = 29 ∨ q = 30 ∨ q = 31) → J2 (C + q) j = J (C + q) j := fun q j hq => h2.2 _ _ (by omega) (by omega)
  exact ⟨fun j hj => se_C (h.1 j hj) e, se_C h.2 e⟩
theorem se_no {a : Int32} {k p : Nat} (h : spE C Y r f e a k p J) : ∀ d, (∀ x, p ≤ x → x < p + d → ¬ csB Y r e a (f + Int32.ofNat x / Y 0 6) (Int32.ofNat x - Int32.ofNat x / Y 0 6 * Y 0 6) = true) → spE C Y r f e a k (p + d) J := by
  intro d
  induction d with
  | zero => intro _; exact h
  | succ d ih =>
    intro hn
    have ih := ih (fun x x0 x1 => hn x x0 (by omega))
    have e1 : cnB Y r f e a (p + (d + 1)) = cnB Y r f e a (p + d) := by
      rw [show p + (d + 1) = (p + d) + 1 by omega]
      conv => lhs; unfold cnB
      rw [if_neg (hn (p + d) (by omega) (by omega))]
      exact Nat.add_zero _
    refine ⟨by rw [e1]; exact ih.1, fun q hq c => ?_⟩
    by_cases e2 : q = p + d
    · exact absurd c (by rw [e2]; exact hn _ (by omega) (by omega))
    · exact ih.2 q (by omega) c
/-- one more place is kept -/
theorem sa_put {i v w : Int32} {p : Nat} (hi : 0 ≤ i ∧ i < 4) (hp : p < pl) (h48 : pl ≤ 48) (h : spA C Y g r f e pl i.toNatClampNeg p J) (hc : csB Y r e (g i.toNatClampNeg) (f + Int32.ofNat p / Y 0 6) (Int32.ofNat p - Int32.ofNat p / Y 0 6 * Y 0 6) = true) (hv : v = 8 * (f + Int32.ofNat p / Y 0 6) + (Int32.ofNat p - Int32.ofNat p / Y 0 6 * Y 0 6)) (hw : (∀ z : Int32, 0 ≤ z → z < Y 10 (g i.toNatClampNeg).toNatClampNeg → ((w >>> (z &&& 31)) &&& 1 = 0 ↔ ¬ 0 ≤ wtA Y 87 (g i.toNatClampNeg) (Int32.ofNat p - Int32.ofNat p / Y 0 6 * Y 0 6) ((f + Int32.ofNat p / Y 0 6) + z)))) : spA C Y g r f e pl i.toNatClampNeg (p + 1) (a_ui (a_ui (a_ui J (C + 29) (i * 48 + J (C + 31) i.toNatClampNeg).toNatClampNeg v) (C + 30) (i * 48 + J (C + 31) i.toNatClampNeg).toNatClampNeg w) (C + 31) i.toNatClampNeg (J (C + 31) i.toNatClampNeg + 1)) := by
  obtain ⟨ho, h0, h1⟩ := h
  have cle := cn_le (Y := Y) (f := f) (e := e) (r := r) (a := (g i.toNatClampNeg)) p
  have ec := io (n := cnB Y r f e (g i.toNatClampNeg) p) (by omega)
  have c48 : 0 ≤ J (C + 31) i.toNatClampNeg ∧ J (C + 31) i.toNatClampNeg < 48 := by
    rw [h0]
    exact ⟨io_0 (by omega), (io_k (n := cnB Y r f e (g i.toNatClampNeg) p) (k := 48) (by omega) (by omega)).2⟩
  have ex := ix_192 hi c48
  rw [h0, ec.2] at ex
  have es := io_s (n := cnB Y r f e (g i.toNatClampNeg) p) (by omega)
  have A29 : ∀ y, (a_ui (a_ui (a_ui J (C + 29) (i * 48 + J (C + 31) i.toNatClampNeg).toNatClampNeg v) (C + 30) (i * 48 + J (C + 31) i.toNatClampNeg).toNatClampNeg w) (C + 31) i.toNatClampNeg (J (C + 31) i.toNatClampNeg + 1)) (C + 29) y = if y = 48 * i.toNatClampNeg + cnB Y r f e (g i.toNatClampNeg) p then v else J (C + 29) y := fun y => by
    rw [ui_ap, if_neg (by omega), ui_ap, if_neg (by omega), ui_ap, h0, ex]
    by_cases c : y = 48 * i.toNatClampNeg + cnB Y r f e (g i.toNatClampNeg) p
    · rw [if_pos ⟨rfl, c⟩, if_pos c]
    · rw [if_neg (fun x => c x.2), if_neg c]
  have A30 : ∀ y, (a_ui (a_ui (a_ui J (C + 29) (i * 48 + J (C + 31) i.toNatClampNeg).toNatClampNeg v) (C + 30) (i * 48 + J (C + 31) i.toNatClampNeg).toNatClampNeg w) (C + 31) i.toNatClampNeg (J (C + 31) i.toNatClampNeg + 1)) (C + 30) y = if y = 48 * i.toNatClampNeg + cnB Y r f e (g i.toNatClampNeg) p then w else J (C + 30) y := fun y => by
    rw [ui_ap, if_neg (by omega), ui_ap, h0, ex]
    by_cases c : y = 48 * i.toNatClampNeg + cnB Y r f e (g i.toNatClampNeg) p
    · rw [if_pos ⟨rfl, c⟩, if_pos c]
    · rw [if_neg (fun x => c x.2), if_neg c, ui_ap, if_neg (by omega)]
  have A31 : ∀ y, (a_ui (a_ui (a_ui J (C + 29) (i * 48 + J (C + 31) i.toNatClampNeg).toNatClampNeg v) (C + 30) (i * 48 + J (C + 31) i.toNatClampNeg).toNatClampNeg w) (C + 31) i.toNatClampNeg (J (C + 31) i.toNatClampNeg + 1)) (C + 31) y = if y = i.toNatClampNeg then Int32.ofNat (cnB Y r f e (g i.toNatClampNeg) p) + 1 else J (C + 31) y := fun y => by
    rw [ui_ap, h0]
    by_cases c : y = i.toNatClampNeg
    · rw [if_pos ⟨rfl, c⟩, if_pos c]
    · rw [if_neg (fun x => c x.2), if_neg c, ui_ap, if_neg (by omega), ui_ap, if_neg (by omega)]
  refine ⟨fun j hj => ?_, ?_, fun q hq cq => ?_⟩
  · obtain ⟨j0, j1⟩ := ho j hj
    refine ⟨by rw [A31, if_neg (by omega)]; exact j0, fun q hq cq => ?_⟩
    have := cn_le (Y := Y) (f := f) (e := e) (r := r) (a := g j) q
    rw [A29, A30, if_neg (by omega), if_neg (by omega)]
    exact j1 q hq cq
  · rw [A31, if_pos rfl, es]
    congr 1
    conv => rhs; unfold cnB
    rw [if_pos hc]
  · rw [A29, A30]
    by_cases c : q = p
    · subst c
      rw [if_pos rfl, if_pos rfl]
      exact ⟨hv, hw⟩
    · have m := cn_mono (Y := Y) (r := r) (f := f) (e := e) (a := (g i.toNatClampNeg)) (p := q + 1) (p - (q + 1))
      rw [show q + 1 + (p - (q + 1)) = p by omega] at m
      have s1 : cnB Y r f e (g i.toNatClampNeg) (q + 1) = cnB Y r f e (g i.toNatClampNeg) q + 1 := by
        conv => lhs; unfold cnB
        rw [if_pos cq]
      rw [if_neg (by omega), if_neg (by omega)]
      exact h1 q (by omega) cq
theorem lz_collectIn_10 (hT0 : cT C K L I R) (hc : cpP C K L I R Y) {i s : Int32} {p0 : Nat} (hi : 0 ≤ i ∧ i < 4) (ai : 0 ≤ g i.toNatClampNeg ∧ g i.toNatClampNeg < Y 0 17) (er : R (C + 28) i.toNatClampNeg = R (C + 15) (g i.toNatClampNeg).toNatClampNeg) (hs : 0 ≤ s ∧ s ≤ 199) (hsl : s + Y 10 (g i.toNatClampNeg).toNatClampNeg ≤ 200) (h48 : pl ≤ 48) (hpb : ∀ b : Int32, 0 ≤ b → b < Y 0 6 → p0 + b.toNatClampNeg < pl ∧ (f + Int32.ofNat (p0 + b.toNatClampNeg) / Y 0 6) = s ∧ (Int32.ofNat (p0 + b.toNatClampNeg) - Int32.ofNat (p0 + b.toNatClampNeg) / Y 0 6 * Y 0 6) = b) (he : s + Y 10 (g i.toNatClampNeg).toNatClampNeg - 1 ≤ e) (htd : ((Y 7 (g i.toNatClampNeg).toNatClampNeg = 1 ∧ bq r (Y 16 (g i.toNatClampNeg).toNatClampNeg).toNatClampNeg = true) ∨ ¬ tnY Y (g i.toNatClampNeg) s)) (hP : ∀ J, cT C K L J R → fcP C I J → spA C Y g r f e pl i.toNatClampNeg (p0 + (Y 0 6).toNatClampNeg) J → P none (n, t, K, L, J, R)) : ∀ b : Int32, b ≤ 6 → ∀ J u w, 0 ≤ b → b ≤ Y 0 6 → cT C K L J R → fcP C I J → spA C Y g r f e pl i.toNatClampNeg (p0 + b.toNatClampNeg) J → a_at (d + 6) (a_xm a_m134) 10 [some (a_rf (C + 27)), some (.int i), some (.int s), some (a_rf (R (C + 15) (g i.toNatClampNeg).toNatClampNeg)), some (.int b), u, w] [] (n, t, K, L, J, R) P := by
  have y6 := hc.2.2.2.2.2.2.2.2.2.1
  have l10 := hc.2.2.2.2.2.1
  refine up_ind 6 (fun b hk ih => ?_)
  intro J u w q0 q1 hT hf sp
  have hS := hT.s
  have hcJ := fc_cp hT0 hc hf
  have e5 : J (C + 14) 5 = Y 0 6 := hcJ.2.1.1
  have apJ := aa_of hcJ ai.1 ai.2
  obtain ⟨-, ⟨ha, an0, -⟩, -⟩ := id apJ
  rw [q134_10]
  by_cases ci : b < Y 0 6
  · obtain ⟨t1, t2, t3, t4⟩ := lp_st q0 ci
    have hb6 : b < 6 := Int32.lt_of_lt_of_le ci y6.2
    have c' : ¬ Y 0 6 ≤ b := Int32.not_le.mpr ci
    obtain ⟨pp1, pp2, pp3⟩ := hpb b q0 ci
    have cle := cn_le (Y := Y) (f := f) (e := e) (r := r) (a := (g i.toNatClampNeg)) (p0 + b.toNatClampNeg)
    have hnext : ∀ J u w, cT C K L J R → fcP C I J → spA C Y g r f e pl i.toNatClampNeg (p0 + b.toNatClampNeg + 1) J → a_at (d + 6) (a_xm a_m134) 125 [some (a_rf (C + 27)), some (.int i), some (.int s), some (a_rf (R (C + 15) (g i.toNatClampNeg).toNatClampNeg)), some (.int b), u, w] [] (n, t, K, L, J, R) P := fun J u w hT hf sp => by
      have hS := hT.s
      have hg := ih hb6 J u w t2 t3 hT hf (by rw [t4, show p0 + (b.toNatClampNeg + 1) = p0 + b.toNatClampNeg + 1 by omega]; exact sp)
      ((try clear ih); (try clear hP); (try clear hc); (try clear hcJ))
      simp only [q134_125, q134_128, as_nil, as_i, as_r, Nat.reduceAdd, Nat.reduceLeDiff, z_eq0, z_eq1, z_or, z_em, Classical.not_not, not_false_eq_true, not_true_eq_false, true_and, and_true, false_and, and_false, and_self, true_implies, false_implies, implies_true, Option.toList_some, Option.toList_none, List.cons_append, List.nil_append, Nat.add_eq_zero_iff, a_nl_i, a_nl_r, a_nl_n, true_or, or_true, eq_self, a_isRA_22, a_isRA_24, a_isRA_32, a_isA_20, ok_4, ok_5, ok_6, ok_7, ok_9, ok_20, ok_21, ok_30, ok_50, ok_180, ok_192, ok_200]
      exact hg
    have hno : ∀ J, spA C Y g r f e pl i.toNatClampNeg (p0 + b.toNatClampNeg) J → ¬ csB Y r e (g i.toNatClampNeg) s b = true → spA C Y g r f e pl i.toNatClampNeg (p0 + b.toNatClampNeg + 1) J := fun J sp hn => ⟨sp.1, se_no sp.2 1 (fun x x0 x1 => by
      have ex : x = p0 + b.toNatClampNeg := by omega
      rw [ex, pp2, pp3]
      exact hn)⟩
    have hcs : csB Y r e (g i.toNatClampNeg) s b = (suB Y (g i.toNatClampNeg) b s && opK Y (g i.toNatClampNeg) b s) := by
      have d1 := decide_eq_true he
      have d2 : decide ((Y 7 (g i.toNatClampNeg).toNatClampNeg = 1 ∧ bq r (Y 16 (g i.toNatClampNeg).toNatClampNeg).toNatClampNeg = true) ∨ ¬ (Y 7 (g i.toNatClampNeg).toNatClampNeg = 1 ∧ (¬ 0 ≤ Y 20 (Y 16 (g i.toNatClampNeg).toNatClampNeg).toNatClampNeg ∨ s - (Y 21 (Y 16 (g i.toNatClampNeg).toNatClampNeg).toNatClampNeg + Y 10 (Y 16 (g i.toNatClampNeg).toNatClampNeg).toNatClampNeg - 1) - 1 < Y 17 (g i.toNatClampNeg).toNatClampNeg))) = true := decide_eq_true htd
      unfold csB
      rw [d1, d2, Bool.true_and, Bool.true_and]
    have hcall := ce_suits (d := d + 2) (n := n) (t := t) hT hcJ apJ ⟨q0, ci⟩ hs (P := fun r' h' => a_at (d + 6) (a_xm a_m134) 33 [some (a_rf (C + 27)), some (.int i), some (.int s), some (a_rf (R (C + 15) (g i.toNatClampNeg).toNatClampNeg)), some (.int b), u, w] (r'.toList ++ []) h' P) (fun J1 j1 => by
      have hT1 := j1.1
      have hS1 := hT1.s
      have hf1 := fc_C hf j1
      have sp1 := sa_C sp j1
      have hc1 := cpP_C hT hcJ j1
      have ap1 := aaP_C hT apJ j1
      by_cases c1 : suB Y (g i.toNatClampNeg) b s = true
      · rw [if_pos c1]
        have g31 : 0 ≤ J1 (C + 31) i.toNatClampNeg ∧ J1 (C + 31) i.toNatClampNeg < 48 := by
          rw [sp1.2.1]
          exact ⟨io_0 (by omega), (io_k (n := cnB Y r f e (g i.toNatClampNeg) (p0 + b.toNatClampNeg)) (k := 48) (by omega) (by omega)).2⟩
        have c2 := g31.2
        have hx := ix48 hi (c := J1 (C + 31) i.toNatClampNeg) g31
        have lp48 := lp_st g31.1 c2
        have hw := ce_watchOf (d := d + 1) (n := n) (t := t) hT1 hc1 ap1 (b := b) hs hsl (P := fun r' h' => a_at (d + 6) (a_xm a_m134) 61 [some (a_rf (C + 27)), some (.int i), some (.int s), some (a_rf (R (C + 15) (g i.toNatClampNeg).toNatClampNeg)), some (.int b), u, w] (r'.toList ++ []) h' P) (fun v J2 j2 hv => by
          have hT2 := j2.1
          have hS2 := hT2.s
          have hf2 := fc_C hf1 j2
          have sp2 := sa_C sp1 j2
          have hc2 := cpP_C hT1 hc1 j2
          have ap2 := aaP_C hT1 ap1 j2
          have e31 : J2 (C + 31) i.toNatClampNeg = J1 (C + 31) i.toNatClampNeg := j2.2 _ _ (by omega) (by omega)
          have eK := op_K (s := s) (b := b) (w := v) l10 hv
          simp only [q134_61, q134_63, q134_64, q134_67, q134_68, q134_70, q134_71, q134_73, k_27 hS, z_27, r_27_0 hS, k_14 hS, z_14, as_nil, as_i, as_r, Nat.reduceAdd, Nat.reduceLeDiff, z_eq0, z_eq1, z_or, z_em, Classical.not_not, not_false_eq_true, not_true_eq_false, true_and, and_true, false_and, and_false, and_self, true_implies, false_implies, implies_true, Option.toList_some, Option.toList_none, List.cons_append, List.nil_append, Nat.add_eq_zero_iff, a_nl_i, a_nl_r, a_nl_n, true_or, or_true, eq_self, a_isRA_22, a_isRA_24, a_isRA_32, a_isA_20, ok_4, ok_5, ok_6, ok_7, ok_9, ok_20, ok_21, ok_30, ok_50, ok_180, ok_192, ok_200, ha, an0]
          try simp only [true_and, and_true, true_implies, false_implies, implies_true, not_true_eq_false, not_false_eq_true]
          refine ce_isOpen (d := d + 2) hT2 hc2 ap2 ⟨q0, ci⟩ hs ?_
          by_cases c3 : opB Y (g i.toNatClampNeg) b s v = true
          · rw [if_pos c3]
            have hcs1 : csB Y r e (g i.toNatClampNeg) s b = true := by rw [hcs, c1, ← eK, c3]; rfl
            have hg := hnext _ (some (.int v)) (some (.int (i * 48 + J1 (C + 31) i.toNatClampNeg))) (sT_Best_spotCounts (sT_Best_watches (sT_Best_spots hT2 (k := (i * 48 + J2 (C + 31) i.toNatClampNeg).toNatClampNeg) (v := 8 * s + b)) (k := (i * 48 + J2 (C + 31) i.toNatClampNeg).toNatClampNeg) (v := v)) (k := i.toNatClampNeg) (v := J2 (C + 31) i.toNatClampNeg + 1) (by rw [e31]; exact ⟨lp48.2.1, lp48.2.2.1⟩)) (fc_ui (fc_ui (fc_ui hf2 (by omega)) (by omega)) (by omega)) (sa_put hi pp1 h48 sp2 (by rw [pp2, pp3]; exact hcs1) (by rw [pp2, pp3]) (by rw [pp2, pp3]; exact hv))
            rw [e31] at hg
            ((try clear ih); (try clear hP); (try clear hc); (try clear hcJ); (try clear hc1); (try clear ap1); (try clear hc2); (try clear ap2); (try clear apJ); (try clear hnext); (try clear hno); (try clear hcs); (try clear hcs1); (try clear eK); (try clear hpb); (try clear htd); (try clear sp); (try clear sp1); (try clear sp2); (try clear hf); (try clear hf1); (try clear hf2))
            simp only [q134_76, q134_79, q134_80, q134_82, q134_83, q134_84, q134_87, q134_88, q134_89, q134_90, q134_92, q134_93, q134_96, q134_98, q134_100, q134_101, q134_102, q134_104, q134_105, q134_106, q134_107, q134_110, q134_112, q134_114, q134_115, q134_116, q134_119, q134_120, q134_121, q134_122, q134_123, q134_124, k_27 hS, z_27, r_27_4 hS, k_31 hS, l_31 hS, z_31, r_27_2 hS, k_29 hS, l_29 hS, z_29, r_27_3 hS, k_30 hS, l_30 hS, z_30, as_nil, as_i, as_r, Nat.reduceAdd, Nat.reduceLeDiff, z_eq0, z_eq1, z_or, z_em, Classical.not_not, not_false_eq_true, not_true_eq_false, true_and, and_true, false_and, and_false, and_self, true_implies, false_implies, implies_true, Option.toList_some, Option.toList_none, List.cons_append, List.nil_append, Nat.add_eq_zero_iff, a_nl_i, a_nl_r, a_nl_n, true_or, or_true, eq_self, a_isRA_22, a_isRA_24, a_isRA_32, a_isA_20, ok_4, ok_5, ok_6, ok_7, ok_9, ok_20, ok_21, ok_30, ok_50, ok_180, ok_192, ok_200, ui_ap, cc_ne, cc_n0, cc_0n, Nat.reduceEqDiff, reduceIte, if_true, if_false, e31]
            try simp only [true_and, and_true, true_implies, false_implies, implies_true, not_true_eq_false, not_false_eq_true]
            repeat' first
              | with_reducible apply And.intro
              | with_reducible intro _
              | exact hi.1
              | exact hi.2
              | exact hx.1
              | exact hx.2
              | exact hg
              | (exfalso; rename_i h9; exact h9 (by decide))
              | (exfalso; rename_i h9; exact absurd h9 (by decide))
          · rw [if_neg c3]
            have hg := hnext J2 (some (.int v)) w hT2 hf2 (hno J2 sp2 (by rw [hcs, c1, ← eK, Bool.true_and]; exact c3))
            ((try clear ih); (try clear hP); (try clear hc); (try clear hcJ); (try clear hc1); (try clear ap1); (try clear hc2); (try clear ap2); (try clear apJ); (try clear hnext); (try clear hno); (try clear hcs); (try clear eK); (try clear hpb); (try clear htd); (try clear sp); (try clear sp1); (try clear sp2); (try clear hf); (try clear hf1); (try clear hf2))
            simp only [q134_76, as_nil, as_i, as_r, Nat.reduceAdd, Nat.reduceLeDiff, z_eq0, z_eq1, z_or, z_em, Classical.not_not, not_false_eq_true, not_true_eq_false, true_and, and_true, false_and, and_false, and_self, true_implies, false_implies, implies_true, Option.toList_some, Option.toList_none, List.cons_append, List.nil_append, Nat.add_eq_zero_iff, a_nl_i, a_nl_r, a_nl_n, true_or, or_true, eq_self, a_isRA_22, a_isRA_24, a_isRA_32, a_isA_20, ok_4, ok_5, ok_6, ok_7, ok_9, ok_20, ok_21, ok_30, ok_50, ok_180, ok_192, ok_200]
            try simp only [true_and, and_true, true_implies, false_implies, implies_true, not_true_eq_false, not_false_eq_true]
            first
              | exact hg
              | grind)
        have c2' : ¬ 48 ≤ J1 (C + 31) i.toNatClampNeg := Int32.not_le.mpr c2
        ((try clear ih); (try clear hP); (try clear hc); (try clear hcJ); (try clear hc1); (try clear ap1); (try clear apJ); (try clear hnext); (try clear hno); (try clear hcs); (try clear hpb); (try clear htd); (try clear sp); (try clear sp1); (try clear hf); (try clear hf1))
        simp only [q134_33, q134_36, q134_37, q134_40, q134_41, q134_42, q134_44, q134_47, q134_50, q134_51, q134_54, q134_55, q134_57, q134_58, k_27 hS, z_27, r_27_4 hS, k_31 hS, l_31 hS, z_31, r_27_0 hS, k_14 hS, z_14, as_nil, as_i, as_r, Nat.reduceAdd, Nat.reduceLeDiff, z_eq0, z_eq1, z_or, z_em, Classical.not_not, not_false_eq_true, not_true_eq_false, true_and, and_true, false_and, and_false, and_self, true_implies, false_implies, implies_true, Option.toList_some, Option.toList_none, List.cons_append, List.nil_append, Nat.add_eq_zero_iff, a_nl_i, a_nl_r, a_nl_n, true_or, or_true, eq_self, a_isRA_22, a_isRA_24, a_isRA_32, a_isA_20, ok_4, ok_5, ok_6, ok_7, ok_9, ok_20, ok_21, ok_30, ok_50, ok_180, ok_192, ok_200, ha, an0, c2', c2, hi]
        try simp only [true_and, and_true, true_implies, false_implies, implies_true, not_true_eq_false, not_false_eq_true]
        first
          | exact hw
          | exact ⟨hi, hw⟩
          | grind
      · rw [if_neg c1]
        have hsame := hnext J1 u w hT1 hf1 (hno J1 sp1 (by
          rw [hcs]
          intro q
          rw [Bool.and_eq_true] at q
          exact c1 q.1))
        ((try clear ih); (try clear hP); (try clear hc); (try clear hcJ); (try clear hc1); (try clear ap1); (try clear apJ); (try clear hnext); (try clear hno); (try clear hcs); (try clear hpb); (try clear htd); (try clear sp); (try clear sp1); (try clear hf); (try clear hf1))
        simp only [q134_33, as_nil, as_i, as_r, Nat.reduceAdd, Nat.reduceLeDiff, z_eq0, z_eq1, z_or, z_em, Classical.not_not, not_false_eq_true, not_true_eq_false, true_and, and_true, false_and, and_false, and_self, true_implies, false_implies, implies_true, Option.toList_some, Option.toList_none, List.cons_append, List.nil_append, Nat.add_eq_zero_iff, a_nl_i, a_nl_r, a_nl_n, true_or, or_true, eq_self, a_isRA_22, a_isRA_24, a_isRA_32, a_isA_20, ok_4, ok_5, ok_6, ok_7, ok_9, ok_20, ok_21, ok_30, ok_50, ok_180, ok_192, ok_200]
        try simp only [true_and, and_true, true_implies, false_implies, implies_true, not_true_eq_false, not_false_eq_true]
        first
          | exact hsame
          | grind)
    ((try clear ih); (try clear hP); (try clear hc); (try clear hcJ); (try clear apJ); (try clear hnext); (try clear hno); (try clear hcs); (try clear hpb); (try clear htd); (try clear sp); (try clear hf))
    simp only [q134_12, q134_13, q134_16, q134_19, q134_22, q134_23, q134_26, q134_27, q134_29, q134_30, k_27 hS, z_27, r_27_0 hS, k_14 hS, z_14, as_nil, as_i, as_r, Nat.reduceAdd, Nat.reduceLeDiff, z_eq0, z_eq1, z_or, z_em, Classical.not_not, not_false_eq_true, not_true_eq_false, true_and, and_true, false_and, and_false, and_self, true_implies, false_implies, implies_true, Option.toList_some, Option.toList_none, List.cons_append, List.nil_append, Nat.add_eq_zero_iff, a_nl_i, a_nl_r, a_nl_n, true_or, or_true, eq_self, a_isRA_22, a_isRA_24, a_isRA_32, a_isA_20, ok_4, ok_5, ok_6, ok_7, ok_9, ok_20, ok_21, ok_30, ok_50, ok_180, ok_192, ok_200, e5, c', ha, an0]
    try simp only [true_and, and_true, true_implies, false_implies, implies_true, not_true_eq_false, not_false_eq_true]
    first
      | exact hcall
      | grind
  · have eb := (lp_end q1 ci).2
    have hp := hP J hT hf (by rw [← eb]; exact sp)
    have c' : Y 0 6 ≤ b := Int32.not_lt.mp ci
    ((try clear ih); (try clear hP); (try clear hc); (try clear hcJ); (try clear apJ); (try clear sp); (try clear hf); (try clear hpb); (try clear htd))
    simp only [q134_12, q134_13, q134_16, q134_19, q134_131, k_27 hS, z_27, r_27_0 hS, k_14 hS, z_14, as_nil, as_i, as_r, Nat.reduceAdd, Nat.reduceLeDiff, z_eq0, z_eq1, z_or, z_em, Classical.not_not, not_false_eq_true, not_true_eq_false, true_and, and_true, false_and, and_false, and_self, true_implies, false_implies, implies_true, Option.toList_some, Option.toList_none, List.cons_append, List.nil_append, Nat.add_eq_zero_iff, a_nl_i, a_nl_r, a_nl_n, true_or, or_true, eq_self, a_isRA_22, a_isRA_24, a_isRA_32, a_isA_20, ok_4, ok_5, ok_6, ok_7, ok_9, ok_20, ok_21, ok_30, ok_50, ok_180, ok_192, ok_200, e5, c']
    try simp only [true_and, and_true, true_implies, false_implies, implies_true, not_true_eq_false, not_false_eq_true]
    first
      | exact hp
      | grind
theorem cz_collectIn (hT0 : cT C K L I R) (hc : cpP C K L I R Y) {i s : Int32} {p0 : Nat} (hi : 0 ≤ i ∧ i < 4) (ai : 0 ≤ g i.toNatClampNeg ∧ g i.toNatClampNeg < Y 0 17) (er : R (C + 28) i.toNatClampNeg = R (C + 15) (g i.toNatClampNeg).toNatClampNeg) (hs : 0 ≤ s ∧ s ≤ 199) (hsl : s + Y 10 (g i.toNatClampNeg).toNatClampNeg ≤ 200) (h48 : pl ≤ 48) (hpb : ∀ b : Int32, 0 ≤ b → b < Y 0 6 → p0 + b.toNatClampNeg < pl ∧ (f + Int32.ofNat (p0 + b.toNatClampNeg) / Y 0 6) = s ∧ (Int32.ofNat (p0 + b.toNatClampNeg) - Int32.ofNat (p0 + b.toNatClampNeg) / Y 0 6 * Y 0 6) = b) (he : s + Y 10 (g i.toNatClampNeg).toNatClampNeg - 1 ≤ e) (htd : ((Y 7 (g i.toNatClampNeg).toNatClampNeg = 1 ∧ bq r (Y 16 (g i.toNatClampNeg).toNatClampNeg).toNatClampNeg = true) ∨ ¬ tnY Y (g i.toNatClampNeg) s)) (hT : cT C K L J R) (hf : fcP C I J) (sp : spA C Y g r f e pl i.toNatClampNeg p0 J) (hP : ∀ J, cT C K L J R → fcP C I J → spA C Y g r f e pl i.toNatClampNeg (p0 + (Y 0 6).toNatClampNeg) J → P none (n, t, K, L, J, R)) : a_does (d + 7) 134 [a_rf (C + 27), .int i, .int s] (n, t, K, L, J, R) P := by
  have hS := hT.s
  have hl := lz_collectIn_10 (d := d) (n := n) (t := t) (P := P) hT0 hc hi ai er hs hsl h48 hpb he htd hP 0 (by decide) J none none (by decide) hc.2.2.2.2.2.2.2.2.2.1.1 hT hf sp
  ((try clear hP); (try clear hc); (try clear sp); (try clear hf); (try clear hpb); (try clear htd))
  rw [a_enter1 (M := a_m134) rfl (a_cat_rf (a_cat_int (a_cat_int a_cat_nil))) (show 3 ≤ 7 by decide)]
  show a_at _ (a_xm a_m134) 0 [some (a_rf (C + 27)), some (.int i), some (.int s), none, none, none, none] [] _ _
  simp only [q134_0, q134_1, q134_4, q134_5, q134_6, q134_7, q134_8, k_27 hS, z_27, r_27_1 hS, k_28 hS, l_28 hS, z_28, as_nil, as_i, as_r, Nat.reduceAdd, Nat.reduceLeDiff, z_eq0, z_eq1, z_or, z_em, Classical.not_not, not_false_eq_true, not_true_eq_false, true_and, and_true, false_and, and_false, and_self, true_implies, false_implies, implies_true, Option.toList_some, Option.toList_none, List.cons_append, List.nil_append, Nat.add_eq_zero_iff, a_nl_i, a_nl_r, a_nl_n, true_or, or_true, eq_self, a_isRA_22, a_isRA_24, a_isRA_32, a_isA_20, ok_4, ok_5, ok_6, ok_7, ok_9, ok_20, ok_21, ok_30, ok_50, ok_180, ok_192, ok_200, er]
  try simp only [true_and, and_true, true_implies, false_implies, implies_true, not_true_eq_false, not_false_eq_true]
  first
    | exact ⟨hi, hl⟩
    | exact hl
    | grind
/-- all shifts: f is the first, e the last -/
theorem lz_collect_47 (hT0 : cT C K L I R) (hc : cpP C K L I R Y) {i w : Int32} (hi : 0 ≤ i ∧ i < 4) (ai : 0 ≤ g i.toNatClampNeg ∧ g i.toNatClampNeg < Y 0 17) (er : R (C + 28) i.toNatClampNeg = R (C + 15) (g i.toNatClampNeg).toNatClampNeg) (hpr : plR Y f e pl) (hpn : pl = (e + 1 - f).toNatClampNeg * (Y 0 6).toNatClampNeg) (hfe : f ≤ e ∧ e - f ≤ 7) (hw : (¬ w = 0) ↔ (Y 7 (g i.toNatClampNeg).toNatClampNeg = 1 ∧ bq r (Y 16 (g i.toNatClampNeg).toNatClampNeg).toNatClampNeg = true)) (hP : ∀ J, cT C K L J R → fcP C I J → spA C Y g r f e pl i.toNatClampNeg pl J → P none (n, t, K, L, J, R)) : ∀ s : Int32, s ≤ 210 → ∀ J, f ≤ s → s ≤ e + 1 → cT C K L J R → fcP C I J → spA C Y g r f e pl i.toNatClampNeg ((s - f).toNatClampNeg * (Y 0 6).toNatClampNeg) J → a_at (d + 7) (a_xm a_m133) 47 [some (a_rf (C + 27)), some (.int i), some (.int f), some (.int e), some (.int r), some (a_rf (R (C + 15) (g i.toNatClampNeg).toNatClampNeg)), some (.int w), some (.int s)] [] (n, t, K, L, J, R) P := by
  have l1 := hc.2.2.2.2.2.2.1 _ ai.1 ai.2
  have l4 := hc.2.2.2.2.2.1 (g i.toNatClampNeg).toNatClampNeg
  have y6 := hc.2.2.2.2.2.2.2.2.2.1
  obtain ⟨h48, -, hf9, he9, -⟩ := id hpr
  refine up_ind 210 (fun s hk ih => ?_)
  intro J q0 qe hT hf sp
  have hS := hT.s
  have hcJ := fc_cp hT0 hc hf
  have apJ := aa_of hcJ ai.1 ai.2
  obtain ⟨-, ⟨ha, an0, -⟩, -, al⟩ := id apJ
  have e2 : J (R (C + 15) (g i.toNatClampNeg).toNatClampNeg) 2 = Y 10 (g i.toNatClampNeg).toNatClampNeg := al.1.2.2.1
  have s0 : 0 ≤ s := Int32.le_trans hf9.1 q0
  have ns : (s - f).toNatClampNeg * (Y 0 6).toNatClampNeg ≤ pl ∧ (s ≤ e → (s - f).toNatClampNeg * (Y 0 6).toNatClampNeg + (Y 0 6).toNatClampNeg ≤ pl ∧ (s + 1 - f).toNatClampNeg * (Y 0 6).toNatClampNeg = (s - f).toNatClampNeg * (Y 0 6).toNatClampNeg + (Y 0 6).toNatClampNeg) := by
    have x0 : 0 ≤ s - f := by ((try clear ih); (try clear hP); (try clear hc); (try clear hcJ); (try clear apJ); (try clear al); (try clear sp); (try clear hf); (try clear hw)); grind
    have x1 : s - f ≤ e + 1 - f := by ((try clear ih); (try clear hP); (try clear hc); (try clear hcJ); (try clear apJ); (try clear al); (try clear sp); (try clear hf); (try clear hw)); grind
    rw [hpn]
    refine ⟨Nat.mul_le_mul_right _ (cl_le0 x0 x1), fun hse => ?_⟩
    have x2 : s - f < e + 1 - f := by ((try clear ih); (try clear hP); (try clear hc); (try clear hcJ); (try clear apJ); (try clear al); (try clear sp); (try clear hf); (try clear hw)); grind
    obtain ⟨-, -, -, t4⟩ := lp_st x0 x2
    have e3 : s + 1 - f = s - f + 1 := by ((try clear ih); (try clear hP); (try clear hc); (try clear hcJ); (try clear apJ); (try clear al); (try clear sp); (try clear hf); (try clear hw)); grind
    have e4 : (s - f).toNatClampNeg * (Y 0 6).toNatClampNeg + (Y 0 6).toNatClampNeg = ((s - f).toNatClampNeg + 1) * (Y 0 6).toNatClampNeg := (Nat.succ_mul _ _).symm
    rw [e3, t4, e4]
    exact ⟨Nat.mul_le_mul_right _ (cl_lt x0 x2), rfl⟩
  rw [q133_47]
  by_cases ci : e < s + Y 10 (g i.toNatClampNeg).toNatClampNeg - 1
  · have hp := hP J hT hf ⟨sp.1, by
      have := se_no sp.2 (pl - (s - f).toNatClampNeg * (Y 0 6).toNatClampNeg) (fun x x0 x1 hx => by
        have g1 := pl_ge hpr q0 (by ((try clear ih); (try clear hP); (try clear hc); (try clear hcJ); (try clear apJ); (try clear al); (try clear sp); (try clear hf); (try clear hw)); grind) (q := x) (by omega) x0
        have g2 : (f + Int32.ofNat x / Y 0 6) ≤ 199 := (pl_rng hpr (p := x) (by omega)).2.1.2
        unfold csB at hx
        rw [Bool.and_eq_true] at hx
        have h9 := of_decide_eq_true hx.1
        generalize (f + Int32.ofNat x / Y 0 6) = z at g1 g2 h9
        ((try clear ih); (try clear hP); (try clear hc); (try clear hcJ); (try clear apJ); (try clear al); (try clear sp); (try clear hf); (try clear hw); (try clear hx); (try clear ns))
        grind)
      rw [show (s - f).toNatClampNeg * (Y 0 6).toNatClampNeg + (pl - (s - f).toNatClampNeg * (Y 0 6).toNatClampNeg) = pl by omega] at this
      exact this⟩
    ((try clear ih); (try clear hP); (try clear hc); (try clear hcJ); (try clear apJ); (try clear al); (try clear sp); (try clear hf); (try clear ns))
    simp only [q133_49, q133_51, q133_54, q133_55, q133_56, q133_57, q133_58, q133_93, k_27 hS, z_27, as_nil, as_i, as_r, Nat.reduceAdd, Nat.reduceLeDiff, z_eq0, z_eq1, z_or, z_em, Classical.not_not, not_false_eq_true, not_true_eq_false, true_and, and_true, false_and, and_false, and_self, true_implies, false_implies, implies_true, Option.toList_some, Option.toList_none, List.cons_append, List.nil_append, Nat.add_eq_zero_iff, a_nl_i, a_nl_r, a_nl_n, true_or, or_true, eq_self, a_isRA_22, a_isRA_24, a_isRA_32, a_isA_20, ok_4, ok_5, ok_6, ok_7, ok_9, ok_20, ok_21, ok_30, ok_50, ok_180, ok_192, ok_200, ha, an0, e2, ci]
    try simp only [true_and, and_true, true_implies, false_implies, implies_true, not_true_eq_false, not_false_eq_true]
    first
      | exact hp
      | grind
  · have hse : s ≤ e := by ((try clear ih); (try clear hP); (try clear hc); (try clear hcJ); (try clear apJ); (try clear al); (try clear sp); (try clear hf); (try clear hw); (try clear ns)); grind
    obtain ⟨n1, n2⟩ := ns.2 hse
    have hle : s + Y 10 (g i.toNatClampNeg).toNatClampNeg - 1 ≤ e := Int32.not_lt.mp ci
    have hs : 0 ≤ s ∧ s ≤ 199 := ⟨s0, Int32.le_trans hse he9⟩
    have hsl : s + Y 10 (g i.toNatClampNeg).toNatClampNeg ≤ 200 := by ((try clear ih); (try clear hP); (try clear hc); (try clear hcJ); (try clear apJ); (try clear al); (try clear sp); (try clear hf); (try clear hw); (try clear ns)); grind
    have g1 : s < 210 := by ((try clear ih); (try clear hP); (try clear hc); (try clear hcJ); (try clear apJ); (try clear al); (try clear sp); (try clear hf); (try clear hw); (try clear ns)); grind
    have g2 : f ≤ s + 1 ∧ s + 1 ≤ e + 1 := by ((try clear ih); (try clear hP); (try clear hc); (try clear hcJ); (try clear apJ); (try clear al); (try clear sp); (try clear hf); (try clear hw); (try clear ns)); grind
    have g3 : s - f ≤ 7 := by ((try clear ih); (try clear hP); (try clear hc); (try clear hcJ); (try clear apJ); (try clear al); (try clear sp); (try clear hf); (try clear hw); (try clear ns)); grind
    have hnext : ∀ J, cT C K L J R → fcP C I J → spA C Y g r f e pl i.toNatClampNeg ((s - f).toNatClampNeg * (Y 0 6).toNatClampNeg + (Y 0 6).toNatClampNeg) J → a_at (d + 7) (a_xm a_m133) 87 [some (a_rf (C + 27)), some (.int i), some (.int f), some (.int e), some (.int r), some (a_rf (R (C + 15) (g i.toNatClampNeg).toNatClampNeg)), some (.int w), some (.int s)] [] (n, t, K, L, J, R) P := fun J hT hf sp => by
      have hS := hT.s
      have hg := ih g1 J g2.1 g2.2 hT hf (by rw [n2]; exact sp)
      ((try clear ih); (try clear hP); (try clear hc); (try clear hcJ))
      simp only [q133_87, q133_90, as_nil, as_i, as_r, Nat.reduceAdd, Nat.reduceLeDiff, z_eq0, z_eq1, z_or, z_em, Classical.not_not, not_false_eq_true, not_true_eq_false, true_and, and_true, false_and, and_false, and_self, true_implies, false_implies, implies_true, Option.toList_some, Option.toList_none, List.cons_append, List.nil_append, Nat.add_eq_zero_iff, a_nl_i, a_nl_r, a_nl_n, true_or, or_true, eq_self, a_isRA_22, a_isRA_24, a_isRA_32, a_isA_20, ok_4, ok_5, ok_6, ok_7, ok_9, ok_20, ok_21, ok_30, ok_50, ok_180, ok_192, ok_200]
      exact hg
    have hcol : ((Y 7 (g i.toNatClampNeg).toNatClampNeg = 1 ∧ bq r (Y 16 (g i.toNatClampNeg).toNatClampNeg).toNatClampNeg = true) ∨ ¬ tnY Y (g i.toNatClampNeg) s) → a_at (d + 7) (a_xm a_m133) 80 [some (a_rf (C + 27)), some (.int i), some (.int f), some (.int e), some (.int r), some (a_rf (R (C + 15) (g i.toNatClampNeg).toNatClampNeg)), some (.int w), some (.int s)] [] (n, t, K, L, J, R) P := fun htd => by
      have hg := cz_collectIn (d := d) (n := n) (t := t) (P := fun r' h' => a_at (d + 7) (a_xm a_m133) 87 [some (a_rf (C + 27)), some (.int i), some (.int f), some (.int e), some (.int r), some (a_rf (R (C + 15) (g i.toNatClampNeg).toNatClampNeg)), some (.int w), some (.int s)] (r'.toList ++ []) h' P) hT0 hc hi ai er hs hsl h48 (fun b b0 b1 => by
        have bn := cl_lt b0 b1
        exact ⟨by omega, pl_at q0 hf9 g3 hs.2 ⟨b0, b1⟩ y6.2⟩) hle htd hT hf sp hnext
      ((try clear ih); (try clear hP); (try clear hc); (try clear hcJ); (try clear hnext))
      simp only [q133_80, q133_81, q133_82, q133_84, k_27 hS, z_27, as_nil, as_i, as_r, Nat.reduceAdd, Nat.reduceLeDiff, z_eq0, z_eq1, z_or, z_em, Classical.not_not, not_false_eq_true, not_true_eq_false, true_and, and_true, false_and, and_false, and_self, true_implies, false_implies, implies_true, Option.toList_some, Option.toList_none, List.cons_append, List.nil_append, Nat.add_eq_zero_iff, a_nl_i, a_nl_r, a_nl_n, true_or, or_true, eq_self, a_isRA_22, a_isRA_24, a_isRA_32, a_isA_20, ok_4, ok_5, ok_6, ok_7, ok_9, ok_20, ok_21, ok_30, ok_50, ok_180, ok_192, ok_200]
      exact hg
    have hsame : ¬ ((Y 7 (g i.toNatClampNeg).toNatClampNeg = 1 ∧ bq r (Y 16 (g i.toNatClampNeg).toNatClampNeg).toNatClampNeg = true) ∨ ¬ tnY Y (g i.toNatClampNeg) s) → a_at (d + 7) (a_xm a_m133) 87 [some (a_rf (C + 27)), some (.int i), some (.int f), some (.int e), some (.int r), some (a_rf (R (C + 15) (g i.toNatClampNeg).toNatClampNeg)), some (.int w), some (.int s)] [] (n, t, K, L, J, R) P := fun htd => hnext J hT hf ⟨sp.1, se_no sp.2 (Y 0 6).toNatClampNeg (fun x x0 x1 hx => by
      have b1 : Int32.ofNat (x - (s - f).toNatClampNeg * (Y 0 6).toNatClampNeg) < Y 0 6 := cl_lt2 (io_0 (by omega)) y6.1 (by rw [(io (by omega)).2]; omega)
      have pa := pl_at q0 hf9 g3 hs.2 ⟨io_0 (n := x - (s - f).toNatClampNeg * (Y 0 6).toNatClampNeg) (by omega), b1⟩ y6.2
      rw [(io (n := x - (s - f).toNatClampNeg * (Y 0 6).toNatClampNeg) (by omega)).2, show (s - f).toNatClampNeg * (Y 0 6).toNatClampNeg + (x - (s - f).toNatClampNeg * (Y 0 6).toNatClampNeg) = x by omega] at pa
      rw [pa.1, pa.2] at hx
      unfold csB at hx
      rw [Bool.and_eq_true, Bool.and_eq_true] at hx
      have h9 := of_decide_eq_true hx.2.1
      exact htd h9)⟩
    have htn : ¬ (¬ w = 0) → a_does (d + 7) 110 [a_rf (C + 14), a_rf (R (C + 15) (g i.toNatClampNeg).toNatClampNeg), .int s] (n, t, K, L, J, R) (fun r' h' => a_at (d + 7) (a_xm a_m133) 77 [some (a_rf (C + 27)), some (.int i), some (.int f), some (.int e), some (.int r), some (a_rf (R (C + 15) (g i.toNatClampNeg).toNatClampNeg)), some (.int w), some (.int s)] (r'.toList ++ []) h' P) := fun hw0 => by
      have hnt : ¬ (Y 7 (g i.toNatClampNeg).toNatClampNeg = 1 ∧ bq r (Y 16 (g i.toNatClampNeg).toNatClampNeg).toNatClampNeg = true) := fun q => hw0 (hw.mpr q)
      refine ce_isTooNear (d := d + 5) hT hcJ apJ (fun c => ?_) (fun c => ?_)
      · have hg := hcol (Or.inr c)
        ((try clear ih); (try clear hP); (try clear hc); (try clear hcJ); (try clear apJ); (try clear al); (try clear sp); (try clear hf); (try clear ns); (try clear hnext); (try clear hcol); (try clear hsame))
        simp only [q133_77, as_nil, as_i, as_r, Nat.reduceAdd, Nat.reduceLeDiff, z_eq0, z_eq1, z_or, z_em, Classical.not_not, not_false_eq_true, not_true_eq_false, true_and, and_true, false_and, and_false, and_self, true_implies, false_implies, implies_true, Option.toList_some, Option.toList_none, List.cons_append, List.nil_append, Nat.add_eq_zero_iff, a_nl_i, a_nl_r, a_nl_n, true_or, or_true, eq_self, a_isRA_22, a_isRA_24, a_isRA_32, a_isA_20, ok_4, ok_5, ok_6, ok_7, ok_9, ok_20, ok_21, ok_30, ok_50, ok_180, ok_192, ok_200]
        try simp only [true_and, and_true, true_implies, false_implies, implies_true, not_true_eq_false, not_false_eq_true]
        first
          | exact hg
          | grind
      · have hg := hsame (fun q => q.elim hnt (fun y => y c))
        ((try clear ih); (try clear hP); (try clear hc); (try clear hcJ); (try clear apJ); (try clear al); (try clear sp); (try clear hf); (try clear ns); (try clear hnext); (try clear hcol); (try clear hsame))
        simp only [q133_77, as_nil, as_i, as_r, Nat.reduceAdd, Nat.reduceLeDiff, z_eq0, z_eq1, z_or, z_em, Classical.not_not, not_false_eq_true, not_true_eq_false, true_and, and_true, false_and, and_false, and_self, true_implies, false_implies, implies_true, Option.toList_some, Option.toList_none, List.cons_append, List.nil_append, Nat.add_eq_zero_iff, a_nl_i, a_nl_r, a_nl_n, true_or, or_true, eq_self, a_isRA_22, a_isRA_24, a_isRA_32, a_isA_20, ok_4, ok_5, ok_6, ok_7, ok_9, ok_20, ok_21, ok_30, ok_50, ok_180, ok_192, ok_200]
        try simp only [true_and, and_true, true_implies, false_implies, implies_true, not_true_eq_false, not_false_eq_true]
        first
          | exact hg
          | grind
    have hti : ¬ w = 0 → a_at (d + 7) (a_xm a_m133) 80 [some (a_rf (C + 27)), some (.int i), some (.int f), some (.int e), some (.int r), some (a_rf (R (C + 15) (g i.toNatClampNeg).toNatClampNeg)), some (.int w), some (.int s)] [] (n, t, K, L, J, R) P := fun q => hcol (Or.inl (hw.mp q))
    ((try clear ih); (try clear hP); (try clear hc); (try clear hcJ); (try clear apJ); (try clear al); (try clear sp); (try clear hf); (try clear hnext); (try clear hcol); (try clear hsame); (try clear ns); (try clear hw))
    simp only [q133_49, q133_51, q133_54, q133_55, q133_56, q133_57, q133_58, q133_61, q133_63, q133_66, q133_67, q133_70, q133_72, q133_74, k_27 hS, z_27, r_27_0 hS, k_14 hS, z_14, as_nil, as_i, as_r, Nat.reduceAdd, Nat.reduceLeDiff, z_eq0, z_eq1, z_or, z_em, Classical.not_not, not_false_eq_true, not_true_eq_false, true_and, and_true, false_and, and_false, and_self, true_implies, false_implies, implies_true, Option.toList_some, Option.toList_none, List.cons_append, List.nil_append, Nat.add_eq_zero_iff, a_nl_i, a_nl_r, a_nl_n, true_or, or_true, eq_self, a_isRA_22, a_isRA_24, a_isRA_32, a_isA_20, ok_4, ok_5, ok_6, ok_7, ok_9, ok_20, ok_21, ok_30, ok_50, ok_180, ok_192, ok_200, ha, an0, e2, ci]
    try simp only [true_and, and_true, true_implies, false_implies, implies_true, not_true_eq_false, not_false_eq_true]
    exact ⟨hti, fun q => htn (fun y => y q)⟩
theorem cz_collect (hT0 : cT C K L I R) (hc : cpP C K L I R Y) {i : Int32} (hi : 0 ≤ i ∧ i < 4) (ai : 0 ≤ g i.toNatClampNeg ∧ g i.toNatClampNeg < Y 0 17) (er : R (C + 28) i.toNatClampNeg = R (C + 15) (g i.toNatClampNeg).toNatClampNeg) (hpr : plR Y f e pl) (hpn : pl = (e + 1 - f).toNatClampNeg * (Y 0 6).toNatClampNeg) (hfe : f ≤ e ∧ e - f ≤ 7) (hT : cT C K L J R) (hf : fcP C I J) (sp : ∀ j, j < i.toNatClampNeg → spE C Y r f e (g j) j pl J) (hP : ∀ J, cT C K L J R → fcP C I J → spA C Y g r f e pl i.toNatClampNeg pl J → P none (n, t, K, L, J, R)) : a_does (d + 8) 133 [a_rf (C + 27), .int i, .int f, .int e, .int r] (n, t, K, L, J, R) P := by
  have hS := hT.s
  have hcJ := fc_cp hT0 hc hf
  have apJ := aa_of hcJ ai.1 ai.2
  obtain ⟨-, ⟨ha, hn, -⟩, -, al⟩ := id apJ
  have hx96 := (hT.g_ask _ ha).1
  have na : ¬ (R (C + 15) (g i.toNatClampNeg).toNatClampNeg) = C + 31 := by omega
  have e5 : J (R (C + 15) (g i.toNatClampNeg).toNatClampNeg) 5 = Y 7 (g i.toNatClampNeg).toNatClampNeg := al.1.2.2.2.2
  obtain ⟨h48, -, hf9, he9, -⟩ := id hpr
  have f210 : f ≤ 210 := Int32.le_trans hf9.2 (by decide)
  have fe1 : f ≤ e + 1 := by ((try clear hP); (try clear hc); (try clear hcJ); (try clear apJ); (try clear al); (try clear sp); (try clear hf)); grind
  have z0 : (f - f).toNatClampNeg * (Y 0 6).toNatClampNeg = 0 := by
    rw [Int32.sub_self]
    exact Nat.zero_mul _
  have hl := fun w hw => lz_collect_47 (d := d) (n := n) (t := t) (P := P) (r := r) (w := w) hT0 hc hi ai er hpr hpn hfe hw hP f f210 (a_ui J (C + 31) i.toNatClampNeg 0) (Int32.le_refl _) fe1 (sT_Best_spotCounts hT (by decide)) (fc_ui hf (by omega)) (by
    rw [z0]
    refine ⟨fun j hj => ⟨by rw [ui_ap, if_neg (fun q => absurd q.2 (by omega))]; exact (sp j hj).1, fun q hq c => by rw [ui_ap, if_neg (by omega), ui_ap, if_neg (by omega)]; exact (sp j hj).2 q hq c⟩, by rw [ui_ap, if_pos ⟨rfl, rfl⟩]; rfl, fun q hq => absurd hq (Nat.not_lt_zero q)⟩)
  have h42 : ∀ w : Int32, ((¬ w = 0) ↔ (Y 7 (g i.toNatClampNeg).toNatClampNeg = 1 ∧ bq r (Y 16 (g i.toNatClampNeg).toNatClampNeg).toNatClampNeg = true)) → a_at (d + 7) (a_xm a_m133) 42 [some (a_rf (C + 27)), some (.int i), some (.int f), some (.int e), some (.int r), some (a_rf (R (C + 15) (g i.toNatClampNeg).toNatClampNeg)), none, none] [.int w] (n, t, K, L, (a_ui J (C + 31) i.toNatClampNeg 0), R) P := fun w hw => by
    have hg := hl w hw
    ((try clear hP); (try clear hc); (try clear hcJ); (try clear apJ); (try clear al); (try clear sp); (try clear hf); (try clear hl))
    simp only [q133_42, q133_44, q133_45, as_nil, as_i, as_r, Nat.reduceAdd, Nat.reduceLeDiff, z_eq0, z_eq1, z_or, z_em, Classical.not_not, not_false_eq_true, not_true_eq_false, true_and, and_true, false_and, and_false, and_self, true_implies, false_implies, implies_true, Option.toList_some, Option.toList_none, List.cons_append, List.nil_append, Nat.add_eq_zero_iff, a_nl_i, a_nl_r, a_nl_n, true_or, or_true, eq_self, a_isRA_22, a_isRA_24, a_isRA_32, a_isA_20, ok_4, ok_5, ok_6, ok_7, ok_9, ok_20, ok_21, ok_30, ok_50, ok_180, ok_192, ok_200]
    exact hg
  have hno : ¬ Y 7 (g i.toNatClampNeg).toNatClampNeg = 1 → a_at (d + 7) (a_xm a_m133) 41 [some (a_rf (C + 27)), some (.int i), some (.int f), some (.int e), some (.int r), some (a_rf (R (C + 15) (g i.toNatClampNeg).toNatClampNeg)), none, none] [] (n, t, K, L, (a_ui J (C + 31) i.toNatClampNeg 0), R) P := fun c => by
    have hg := h42 0 ⟨fun q => absurd rfl q, fun q => absurd q.1 c⟩
    ((try clear hP); (try clear hc); (try clear hcJ); (try clear apJ); (try clear al); (try clear sp); (try clear hf); (try clear hl); (try clear h42))
    simp only [q133_41, as_nil, as_i, as_r, Nat.reduceAdd, Nat.reduceLeDiff, z_eq0, z_eq1, z_or, z_em, Classical.not_not, not_false_eq_true, not_true_eq_false, true_and, and_true, false_and, and_false, and_self, true_implies, false_implies, implies_true, Option.toList_some, Option.toList_none, List.cons_append, List.nil_append, Nat.add_eq_zero_iff, a_nl_i, a_nl_r, a_nl_n, true_or, or_true, eq_self, a_isRA_22, a_isRA_24, a_isRA_32, a_isA_20, ok_4, ok_5, ok_6, ok_7, ok_9, ok_20, ok_21, ok_30, ok_50, ok_180, ok_192, ok_200]
    exact hg
  have hin : Y 7 (g i.toNatClampNeg).toNatClampNeg = 1 → a_does (d + 7) 130 [.int r, .int (J (R (C + 15) (g i.toNatClampNeg).toNatClampNeg) 10)] (n, t, K, L, (a_ui J (C + 31) i.toNatClampNeg 0), R) (fun r' h' => a_at (d + 7) (a_xm a_m133) 34 [some (a_rf (C + 27)), some (.int i), some (.int f), some (.int e), some (.int r), some (a_rf (R (C + 15) (g i.toNatClampNeg).toNatClampNeg)), none, none] (r'.toList ++ []) h' P) := fun c => by
    have e10 : J (R (C + 15) (g i.toNatClampNeg).toNatClampNeg) 10 = Y 16 (g i.toNatClampNeg).toNatClampNeg := (al.2.2.1 (Or.inl c)).1
    have x16 := hc.2.2.2.2.2.2.2.2.2.2.2.2.2 _ ai.1 ai.2 c
    have x30 : 0 ≤ Y 16 (g i.toNatClampNeg).toNatClampNeg ∧ Y 16 (g i.toNatClampNeg).toNatClampNeg < 30 := ⟨x16.1, Int32.lt_of_lt_of_le x16.2 hc.2.2.2.2.2.2.2.2.1.2⟩
    rw [e10]
    refine ce_isIn (d := d + 6) x30 ?_
    by_cases cb : bq r (Y 16 (g i.toNatClampNeg).toNatClampNeg).toNatClampNeg = true
    · rw [if_pos cb]
      have hg := h42 1 ⟨fun _ => ⟨c, cb⟩, fun _ => by decide⟩
      ((try clear hP); (try clear hc); (try clear hcJ); (try clear apJ); (try clear al); (try clear sp); (try clear hf); (try clear hl); (try clear h42); (try clear hno))
      simp only [q133_34, q133_37, q133_38, as_nil, as_i, as_r, Nat.reduceAdd, Nat.reduceLeDiff, z_eq0, z_eq1, z_or, z_em, Classical.not_not, not_false_eq_true, not_true_eq_false, true_and, and_true, false_and, and_false, and_self, true_implies, false_implies, implies_true, Option.toList_some, Option.toList_none, List.cons_append, List.nil_append, Nat.add_eq_zero_iff, a_nl_i, a_nl_r, a_nl_n, true_or, or_true, eq_self, a_isRA_22, a_isRA_24, a_isRA_32, a_isA_20, ok_4, ok_5, ok_6, ok_7, ok_9, ok_20, ok_21, ok_30, ok_50, ok_180, ok_192, ok_200]
      try simp only [true_and, and_true, true_implies, false_implies, implies_true, not_true_eq_false, not_false_eq_true]
      first
        | exact hg
        | grind
    · rw [if_neg cb]
      have hg := h42 0 ⟨fun q => absurd rfl q, fun q => absurd q.2 cb⟩
      ((try clear hP); (try clear hc); (try clear hcJ); (try clear apJ); (try clear al); (try clear sp); (try clear hf); (try clear hl); (try clear h42); (try clear hno))
      simp only [q133_34, q133_37, q133_38, q133_41, as_nil, as_i, as_r, Nat.reduceAdd, Nat.reduceLeDiff, z_eq0, z_eq1, z_or, z_em, Classical.not_not, not_false_eq_true, not_true_eq_false, true_and, and_true, false_and, and_false, and_self, true_implies, false_implies, implies_true, Option.toList_some, Option.toList_none, List.cons_append, List.nil_append, Nat.add_eq_zero_iff, a_nl_i, a_nl_r, a_nl_n, true_or, or_true, eq_self, a_isRA_22, a_isRA_24, a_isRA_32, a_isA_20, ok_4, ok_5, ok_6, ok_7, ok_9, ok_20, ok_21, ok_30, ok_50, ok_180, ok_192, ok_200]
      try simp only [true_and, and_true, true_implies, false_implies, implies_true, not_true_eq_false, not_false_eq_true]
      first
        | exact hg
        | grind
  ((try clear hP); (try clear hc); (try clear hcJ); (try clear apJ); (try clear al); (try clear sp); (try clear hf); (try clear hl); (try clear h42))
  rw [a_enter1 (M := a_m133) rfl (a_cat_rf (a_cat_int (a_cat_int (a_cat_int (a_cat_int a_cat_nil))))) (show 5 ≤ 8 by decide)]
  show a_at _ (a_xm a_m133) 0 [some (a_rf (C + 27)), some (.int i), some (.int f), some (.int e), some (.int r), none, none, none] [] _ _
  simp only [q133_0, q133_1, q133_4, q133_5, q133_6, q133_8, q133_9, q133_12, q133_13, q133_14, q133_15, q133_17, q133_20, q133_21, q133_24, q133_26, q133_28, q133_31, k_27 hS, z_27, r_27_1 hS, k_28 hS, l_28 hS, z_28, r_27_4 hS, k_31 hS, l_31 hS, z_31, as_nil, as_i, as_r, Nat.reduceAdd, Nat.reduceLeDiff, z_eq0, z_eq1, z_or, z_em, Classical.not_not, not_false_eq_true, not_true_eq_false, true_and, and_true, false_and, and_false, and_self, true_implies, false_implies, implies_true, Option.toList_some, Option.toList_none, List.cons_append, List.nil_append, Nat.add_eq_zero_iff, a_nl_i, a_nl_r, a_nl_n, true_or, or_true, eq_self, a_isRA_22, a_isRA_24, a_isRA_32, a_isA_20, ok_4, ok_5, ok_6, ok_7, ok_9, ok_20, ok_21, ok_30, ok_50, ok_180, ok_192, ok_200, ui_ap, cc_ne, cc_n0, cc_0n, Nat.reduceEqDiff, reduceIte, if_true, if_false, er, ha, hn, na, e5]
  try simp only [true_and, and_true, true_implies, false_implies, implies_true, not_true_eq_false, not_false_eq_true]
  repeat' first
    | exact hi
    | with_reducible apply And.intro
    | exact hi.1
    | exact hi.2
    | exact hno
    | exact hin
    | exact hin _
    | with_reducible intro _
    | (exact hno (by assumption))
    | (exact hin (by assumption))
    | (exact hin (Classical.not_not.mp (by assumption)))
end Z97
/-! the class: the best: places collected -/
section ZJJ
variable {d n t C c : Nat} {K L : Nat → Nat} {I I0 J J0 J1 J2 : Nat → Nat → Int32} {R : Nat → Nat → Nat} {P : Option Value → AH → Prop}
variable {Y Z W : Nat → Nat → Int32} {R' R1 R2 : Nat → Nat → Nat} {g : Nat → Int32}
/-- what collecting may change -/
def fcP (C : Nat) (I J : Nat → Nat → Int32) : Prop := ∀ x j, ¬ x = C + 9 → ¬ x = C + 10 → ¬ x = C + 29 → ¬ x = C + 30 → ¬ x = C + 31 → J x j = I x j
/-- a place that is kept, and who watches there -/
def spV (Y : Nat → Nat → Int32) (a x w : Int32) : Prop := ∃ b s : Int32, x = 8 * s + b ∧ (0 ≤ b ∧ b < Y 0 6) ∧ (0 ≤ s ∧ s ≤ 199) ∧ s + Y 10 a.toNatClampNeg ≤ 200 ∧ ∀ z : Int32, 0 ≤ z → z < Y 10 a.toNatClampNeg → ((w >>> (z &&& 31)) &&& 1 = 0 ↔ ¬ 0 ≤ wtA Y 87 a b (s + z))
def spP (C : Nat) (Y : Nat → Nat → Int32) (g : Nat → Int32) (p : Nat) (J : Nat → Nat → Int32) : Prop := ∀ i, i < p → (0 ≤ J (C + 31) i ∧ J (C + 31) i ≤ 48) ∧ ∀ k, k < (J (C + 31) i).toNatClampNeg → spV Y (g i) (J (C + 29) (48 * i + k)) (J (C + 30) (48 * i + k))
theorem fc_refl : fcP C I I := fun _ _ _ _ _ _ _ => rfl
theorem fc_C (h : fcP C I J) (h2 : dC C K L R J J2) : fcP C I J2 := fun x j a b c d e => (h2.2 x j a b).trans (h x j a b c d e)
theorem fc_ui (h : fcP C I J) {k q : Nat} {v : Int32} (hk : k = 29 ∨ k = 30 ∨ k = 31) : fcP C I (a_ui J (C + k) q v) := fun x j a b c d e => by
  rw [ui_ap, if_neg (by omega)]
  exact h x j a b c d e
theorem fc_cp (hT : cT C K L I R) (hc : cpP C K L I R Y) (h : fcP C I J) : cpP C K L J R Y := cp_fr hT hc (fun k j hk => h _ _ (by omega) (by omega) (by omega) (by omega) (by omega)) (fun x j kx => by
  have := (hT.g_ask x kx).1
  exact h _ _ (by omega) (by omega) (by omega) (by omega) (by omega)) (fun x j kx _ => by
  have := (hT.g_bnc x kx).1
  exact h _ _ (by omega) (by omega) (by omega) (by omega) (by omega)) (fun x j kx => by
  have := (hT.g_txt x kx).1
  exact h _ _ (by omega) (by omega) (by omega) (by omega) (by omega)) (fun k k0 k1 j => by
  have := (hT.g_txt _ (hc.2.2.2.1.2 k k0 k1).1).2.1
  exact h _ _ (by omega) (by omega) (by omega) (by omega) (by omega)) (fun b b0 b1 j => by
  obtain ⟨-, ⟨w1, -⟩, ⟨s1, -⟩, -⟩ := hT.g_bnc _ (hc.2.1.2.2.1 b b0 b1).1
  exact ⟨h _ _ (by omega) (by omega) (by omega) (by omega) (by omega), h _ _ (by omega) (by omega) (by omega) (by omega) (by omega)⟩)
theorem sp_C {p : Nat} (h : spP C Y g p J) (h2 : dC C K L R J J2) : spP C Y g p J2 := fun i hi => by
  have e : ∀ k j, (k = 29 ∨ k = 30 ∨ k = 31) → J2 (C + k) j = J (C + k) j := fun k j hk => h2.2 _ _ (by omega) (by omega)
  rw [e 31 _ (by omega)]
  refine ⟨(h i hi).1, fun k hk => ?_⟩
  rw [e 29 _ (by omega), e 30 _ (by omega)]
  exact (h i hi).2 k hk
theorem ix_192 {i c : Int32} (h : 0 ≤ i ∧ i < 4) (hc : 0 ≤ c ∧ c < 48) : (i * 48 + c).toNatClampNeg = 48 * i.toNatClampNeg + c.toNatClampNeg := by
  have c0 : (0 : Int32).toInt = 0 := rfl
  have c4 : (4 : Int32).toInt = 4 := rfl
  have c48 : (48 : Int32).toInt = 48 := rfl
  have e0 := Int32.le_iff_toInt_le.mp h.1
  have e1 := Int32.lt_iff_toInt_lt.mp h.2
  have e2 := Int32.le_iff_toInt_le.mp hc.1
  have e3 := Int32.lt_iff_toInt_lt.mp hc.2
  have em : (i * 48).toInt = i.toInt * 48 := by
    rw [Int32.toInt_mul, c48]
    simp only [Int.bmod_def]
    omega
  have e : (i * 48 + c).toInt = i.toInt * 48 + c.toInt := by rw [ti_add (by omega), em]
  have t1 : ∀ x : Int32, 0 ≤ x.toInt → (x.toNatClampNeg : Int) = x.toInt := fun x hx => by
    show ((x.toInt.toNat : Nat) : Int) = _
    omega
  have f0 := t1 i (by omega)
  have f1 := t1 c (by omega)
  have f2 := t1 (i * 48 + c) (by omega)
  omega
/-- one more place -/
theorem sp_put {i v w : Int32} (hi : 0 ≤ i ∧ i < 4) (h : spP C Y g (i.toNatClampNeg + 1) J) (hm : J (C + 31) i.toNatClampNeg < 48) (hv : spV Y (g i.toNatClampNeg) v w) : spP C Y g (i.toNatClampNeg + 1) (a_ui (a_ui (a_ui J (C + 29) (i * 48 + J (C + 31) i.toNatClampNeg).toNatClampNeg v) (C + 30) (i * 48 + J (C + 31) i.toNatClampNeg).toNatClampNeg w) (C + 31) i.toNatClampNeg (J (C + 31) i.toNatClampNeg + 1)) := by
  have h0 := (h i.toNatClampNeg (by omega)).1.1
  have ex := ix_192 hi ⟨h0, hm⟩
  obtain ⟨t1, t2, t3, t4⟩ := lp_st h0 hm
  have cn : (J (C + 31) i.toNatClampNeg).toNatClampNeg < 48 := cl_lt h0 hm
  intro q hq
  obtain ⟨⟨r0, r1⟩, r2⟩ := h q hq
  have r48 : (J (C + 31) q).toNatClampNeg < 49 := cl_lt (j := 49) r0 (Int32.lt_of_le_of_lt r1 (by decide))
  have A29 : ∀ y, (a_ui (a_ui (a_ui J (C + 29) (i * 48 + J (C + 31) i.toNatClampNeg).toNatClampNeg v) (C + 30) (i * 48 + J (C + 31) i.toNatClampNeg).toNatClampNeg w) (C + 31) i.toNatClampNeg (J (C + 31) i.toNatClampNeg + 1)) (C + 29) y = if y = 48 * i.toNatClampNeg + (J (C + 31) i.toNatClampNeg).toNatClampNeg then v else J (C + 29) y := fun y => by
    rw [ui_ap, if_neg (by omega), ui_ap, if_neg (by omega), ui_ap, ex]
    by_cases e : y = 48 * i.toNatClampNeg + (J (C + 31) i.toNatClampNeg).toNatClampNeg
    · rw [if_pos ⟨rfl, e⟩, if_pos e]
    · rw [if_neg (fun r => e r.2), if_neg e]
  have A30 : ∀ y, (a_ui (a_ui (a_ui J (C + 29) (i * 48 + J (C + 31) i.toNatClampNeg).toNatClampNeg v) (C + 30) (i * 48 + J (C + 31) i.toNatClampNeg).toNatClampNeg w) (C + 31) i.toNatClampNeg (J (C + 31) i.toNatClampNeg + 1)) (C + 30) y = if y = 48 * i.toNatClampNeg + (J (C + 31) i.toNatClampNeg).toNatClampNeg then w else J (C + 30) y := fun y => by
    rw [ui_ap, if_neg (by omega), ui_ap, ex]
    by_cases e : y = 48 * i.toNatClampNeg + (J (C + 31) i.toNatClampNeg).toNatClampNeg
    · rw [if_pos ⟨rfl, e⟩, if_pos e]
    · rw [if_neg (fun r => e r.2), if_neg e, ui_ap, if_neg (by omega)]
  by_cases e : q = i.toNatClampNeg
  · subst e
    rw [ui_ap, if_pos ⟨rfl, rfl⟩]
    refine ⟨⟨t2, t3⟩, fun k hk => ?_⟩
    rw [t4] at hk
    rw [A29, A30]
    by_cases e2 : k = (J (C + 31) i.toNatClampNeg).toNatClampNeg
    · rw [if_pos (by omega), if_pos (by omega)]
      exact hv
    · rw [if_neg (by omega), if_neg (by omega)]
      exact r2 k (by omega)
  · rw [ui_ap, if_neg (fun r => e r.2), ui_ap, if_neg (by omega), ui_ap, if_neg (by omega)]
    refine ⟨⟨r0, r1⟩, fun k hk => ?_⟩
    rw [A29, A30, if_neg (by omega), if_neg (by omega)]
    exact r2 k hk
theorem le_collectIn_10 (hT0 : cT C K L I R) (hc : cpP C K L I R Y) {i s : Int32} (hi : 0 ≤ i ∧ i < 4) (ai : 0 ≤ g i.toNatClampNeg ∧ g i.toNatClampNeg < Y 0 17) (er : R (C + 28) i.toNatClampNeg = R (C + 15) (g i.toNatClampNeg).toNatClampNeg) (hs : 0 ≤ s ∧ s ≤ 199) (hsl : s + Y 10 (g i.toNatClampNeg).toNatClampNeg ≤ 200) (hP : ∀ J, cT C K L J R → fcP C I J → spP C Y g (i.toNatClampNeg + 1) J → P none (n, t, K, L, J, R)) : ∀ b : Int32, b ≤ 6 → ∀ J u w, 0 ≤ b → b ≤ Y 0 6 → cT C K L J R → fcP C I J → spP C Y g (i.toNatClampNeg + 1) J → a_at (d + 6) (a_xm a_m134) 10 [some (a_rf (C + 27)), some (.int i), some (.int s), some (a_rf (R (C + 15) (g i.toNatClampNeg).toNatClampNeg)), some (.int b), u, w] [] (n, t, K, L, J, R) P := by
  have y6 := hc.2.2.2.2.2.2.2.2.2.1
  refine up_ind 6 (fun b hk ih => ?_)
  intro J u w q0 q1 hT hf sp
  have hS := hT.s
  have hcJ := fc_cp hT0 hc hf
  have e5 : J (C + 14) 5 = Y 0 6 := hcJ.2.1.1
  have apJ := aa_of hcJ ai.1 ai.2
  obtain ⟨-, ⟨ha, an0, -⟩, -⟩ := id apJ
  rw [q134_10]
  by_cases ci : b < Y 0 6
  · obtain ⟨t1, t2, t3, t4⟩ := lp_st q0 ci
    have hb6 : b < 6 := Int32.lt_of_lt_of_le ci y6.2
    have c' : ¬ Y 0 6 ≤ b := Int32.not_le.mpr ci
    have hnext : ∀ J u w, cT C K L J R → fcP C I J → spP C Y g (i.toNatClampNeg + 1) J → a_at (d + 6) (a_xm a_m134) 125 [some (a_rf (C + 27)), some (.int i), some (.int s), some (a_rf (R (C + 15) (g i.toNatClampNeg).toNatClampNeg)), some (.int b), u, w] [] (n, t, K, L, J, R) P := fun J u w hT hf sp => by
      have hS := hT.s
      have hg := ih hb6 J u w t2 t3 hT hf sp
      clear ih hP hc hcJ
      simp only [q134_125, q134_128, as_nil, as_i, as_r, Nat.reduceAdd, Nat.reduceLeDiff, z_eq0, z_eq1, z_or, z_em, Classical.not_not, not_false_eq_true, not_true_eq_false, true_and, and_true, false_and, and_false, and_self, true_implies, false_implies, implies_true, Option.toList_some, Option.toList_none, List.cons_append, List.nil_append, Nat.add_eq_zero_iff, a_nl_i, a_nl_r, a_nl_n, true_or, or_true, eq_self, a_isRA_22, a_isRA_24, a_isRA_32, a_isA_20, ok_4, ok_5, ok_6, ok_7, ok_9, ok_20, ok_21, ok_30, ok_50, ok_180, ok_192, ok_200]
      exact hg
    have hcall := ce_suits (d := d + 2) (n := n) (t := t) hT hcJ apJ ⟨q0, ci⟩ hs (P := fun r' h' => a_at (d + 6) (a_xm a_m134) 33 [some (a_rf (C + 27)), some (.int i), some (.int s), some (a_rf (R (C + 15) (g i.toNatClampNeg).toNatClampNeg)), some (.int b), u, w] (r'.toList ++ []) h' P) (fun J1 j1 => by
      have hT1 := j1.1
      have hS1 := hT1.s
      have hf1 := fc_C hf j1
      have sp1 := sp_C sp j1
      have hc1 := cpP_C hT hcJ j1
      have ap1 := aaP_C hT apJ j1
      have hsame := hnext J1 u w hT1 hf1 sp1
      by_cases c1 : suB Y (g i.toNatClampNeg) b s = true
      · rw [if_pos c1]
        by_cases c2 : J1 (C + 31) i.toNatClampNeg < 48
        · have g31 := (sp1 i.toNatClampNeg (by omega)).1
          have hx := ix48 hi (c := J1 (C + 31) i.toNatClampNeg) ⟨g31.1, c2⟩
          have hw := ce_watchOf (d := d + 1) (n := n) (t := t) hT1 hc1 ap1 (b := b) hs hsl (P := fun r' h' => a_at (d + 6) (a_xm a_m134) 61 [some (a_rf (C + 27)), some (.int i), some (.int s), some (a_rf (R (C + 15) (g i.toNatClampNeg).toNatClampNeg)), some (.int b), u, w] (r'.toList ++ []) h' P) (fun v J2 j2 hv => by
            have hT2 := j2.1
            have hS2 := hT2.s
            have hf2 := fc_C hf1 j2
            have sp2 := sp_C sp1 j2
            have hc2 := cpP_C hT1 hc1 j2
            have ap2 := aaP_C hT1 ap1 j2
            have e31 : J2 (C + 31) i.toNatClampNeg = J1 (C + 31) i.toNatClampNeg := j2.2 _ _ (by omega) (by omega)
            simp only [q134_61, q134_63, q134_64, q134_67, q134_68, q134_70, q134_71, q134_73, k_27 hS, z_27, r_27_0 hS, k_14 hS, z_14, as_nil, as_i, as_r, Nat.reduceAdd, Nat.reduceLeDiff, z_eq0, z_eq1, z_or, z_em, Classical.not_not, not_false_eq_true, not_true_eq_false, true_and, and_true, false_and, and_false, and_self, true_implies, false_implies, implies_true, Option.toList_some, Option.toList_none, List.cons_append, List.nil_append, Nat.add_eq_zero_iff, a_nl_i, a_nl_r, a_nl_n, true_or, or_true, eq_self, a_isRA_22, a_isRA_24, a_isRA_32, a_isA_20, ok_4, ok_5, ok_6, ok_7, ok_9, ok_20, ok_21, ok_30, ok_50, ok_180, ok_192, ok_200, ha, an0]
            try simp only [true_and, and_true, true_implies, false_implies, implies_true, not_true_eq_false, not_false_eq_true]
            refine ce_isOpen (d := d + 2) hT2 hc2 ap2 ⟨q0, ci⟩ hs ?_
            by_cases c3 : opB Y (g i.toNatClampNeg) b s v = true
            · rw [if_pos c3]
              have hg := hnext _ (some (.int v)) (some (.int (i * 48 + J1 (C + 31) i.toNatClampNeg))) (sT_Best_spotCounts (sT_Best_watches (sT_Best_spots hT2 (k := (i * 48 + J2 (C + 31) i.toNatClampNeg).toNatClampNeg) (v := 8 * s + b)) (k := (i * 48 + J2 (C + 31) i.toNatClampNeg).toNatClampNeg) (v := v)) (k := i.toNatClampNeg) (v := J2 (C + 31) i.toNatClampNeg + 1) (by rw [e31]; clear ih hP hc hcJ hc1 ap1 hc2 ap2 apJ hnext hsame sp sp1 sp2 hf hf1 hf2; grind)) (fc_ui (fc_ui (fc_ui hf2 (by omega)) (by omega)) (by omega)) (sp_put hi sp2 (by rw [e31]; exact c2) ⟨b, s, rfl, ⟨q0, ci⟩, hs, hsl, hv⟩)
              rw [e31] at hg
              clear ih hP hc hcJ hc1 ap1 hc2 ap2 apJ hnext hsame sp sp1 sp2 hf hf1 hf2
              simp only [q134_76, q134_79, q134_80, q134_82, q134_83, q134_84, q134_87, q134_88, q134_89, q134_90, q134_92, q134_93, q134_96, q134_98, q134_100, q134_101, q134_102, q134_104, q134_105, q134_106, q134_107, q134_110, q134_112, q134_114, q134_115, q134_116, q134_119, q134_120, q134_121, q134_122, q134_123, q134_124, k_27 hS, z_27, r_27_4 hS, k_31 hS, l_31 hS, z_31, r_27_2 hS, k_29 hS, l_29 hS, z_29, r_27_3 hS, k_30 hS, l_30 hS, z_30, as_nil, as_i, as_r, Nat.reduceAdd, Nat.reduceLeDiff, z_eq0, z_eq1, z_or, z_em, Classical.not_not, not_false_eq_true, not_true_eq_false, true_and, and_true, false_and, and_false, and_self, true_implies, false_implies, implies_true, Option.toList_some, Option.toList_none, List.cons_append, List.nil_append, Nat.add_eq_zero_iff, a_nl_i, a_nl_r, a_nl_n, true_or, or_true, eq_self, a_isRA_22, a_isRA_24, a_isRA_32, a_isA_20, ok_4, ok_5, ok_6, ok_7, ok_9, ok_20, ok_21, ok_30, ok_50, ok_180, ok_192, ok_200, ui_ap, cc_ne, cc_n0, cc_0n, Nat.reduceEqDiff, reduceIte, if_true, if_false, e31]
              try simp only [true_and, and_true, true_implies, false_implies, implies_true, not_true_eq_false, not_false_eq_true]
              repeat' first
                | with_reducible apply And.intro
                | with_reducible intro _
                | exact hi.1
                | exact hi.2
                | exact hx.1
                | exact hx.2
                | exact hg
                | (exfalso; rename_i h9; exact h9 (by decide))
                | (exfalso; rename_i h9; exact absurd h9 (by decide))
            · rw [if_neg c3]
              have hg := hnext J2 (some (.int v)) w hT2 hf2 sp2
              clear ih hP hc hcJ hc1 ap1 hc2 ap2 apJ hnext hsame sp sp1 sp2 hf hf1 hf2
              simp only [q134_76, as_nil, as_i, as_r, Nat.reduceAdd, Nat.reduceLeDiff, z_eq0, z_eq1, z_or, z_em, Classical.not_not, not_false_eq_true, not_true_eq_false, true_and, and_true, false_and, and_false, and_self, true_implies, false_implies, implies_true, Option.toList_some, Option.toList_none, List.cons_append, List.nil_append, Nat.add_eq_zero_iff, a_nl_i, a_nl_r, a_nl_n, true_or, or_true, eq_self, a_isRA_22, a_isRA_24, a_isRA_32, a_isA_20, ok_4, ok_5, ok_6, ok_7, ok_9, ok_20, ok_21, ok_30, ok_50, ok_180, ok_192, ok_200]
              try simp only [true_and, and_true, true_implies, false_implies, implies_true, not_true_eq_false, not_false_eq_true]
              first
                | exact hg
                | grind)
          have c2' : ¬ 48 ≤ J1 (C + 31) i.toNatClampNeg := Int32.not_le.mpr c2
          clear ih hP hc hcJ hc1 ap1 apJ hnext hsame sp sp1 hf hf1
          simp only [q134_33, q134_36, q134_37, q134_40, q134_41, q134_42, q134_44, q134_47, q134_50, q134_51, q134_54, q134_55, q134_57, q134_58, k_27 hS, z_27, r_27_4 hS, k_31 hS, l_31 hS, z_31, r_27_0 hS, k_14 hS, z_14, as_nil, as_i, as_r, Nat.reduceAdd, Nat.reduceLeDiff, z_eq0, z_eq1, z_or, z_em, Classical.not_not, not_false_eq_true, not_true_eq_false, true_and, and_true, false_and, and_false, and_self, true_implies, false_implies, implies_true, Option.toList_some, Option.toList_none, List.cons_append, List.nil_append, Nat.add_eq_zero_iff, a_nl_i, a_nl_r, a_nl_n, true_or, or_true, eq_self, a_isRA_22, a_isRA_24, a_isRA_32, a_isA_20, ok_4, ok_5, ok_6, ok_7, ok_9, ok_20, ok_21, ok_30, ok_50, ok_180, ok_192, ok_200, ha, an0, c2', c2, hi]
          try simp only [true_and, and_true, true_implies, false_implies, implies_true, not_true_eq_false, not_false_eq_true]
          first
            | exact hw
            | exact ⟨hi, hw⟩
            | grind
        · have c2' : 48 ≤ J1 (C + 31) i.toNatClampNeg := Int32.not_lt.mp c2
          clear ih hP hc hcJ hc1 ap1 apJ hnext sp sp1 hf hf1
          simp only [q134_33, q134_36, q134_37, q134_40, q134_41, q134_42, q134_44, q134_47, k_27 hS, z_27, r_27_4 hS, k_31 hS, l_31 hS, z_31, as_nil, as_i, as_r, Nat.reduceAdd, Nat.reduceLeDiff, z_eq0, z_eq1, z_or, z_em, Classical.not_not, not_false_eq_true, not_true_eq_false, true_and, and_true, false_and, and_false, and_self, true_implies, false_implies, implies_true, Option.toList_some, Option.toList_none, List.cons_append, List.nil_append, Nat.add_eq_zero_iff, a_nl_i, a_nl_r, a_nl_n, true_or, or_true, eq_self, a_isRA_22, a_isRA_24, a_isRA_32, a_isA_20, ok_4, ok_5, ok_6, ok_7, ok_9, ok_20, ok_21, ok_30, ok_50, ok_180, ok_192, ok_200, c2', c2, hi]
          try simp only [true_and, and_true, true_implies, false_implies, implies_true, not_true_eq_false, not_false_eq_true]
          first
            | exact hsame
            | grind
      · rw [if_neg c1]
        clear ih hP hc hcJ hc1 ap1 apJ hnext sp sp1 hf hf1
        simp only [q134_33, as_nil, as_i, as_r, Nat.reduceAdd, Nat.reduceLeDiff, z_eq0, z_eq1, z_or, z_em, Classical.not_not, not_false_eq_true, not_true_eq_false, true_and, and_true, false_and, and_false, and_self, true_implies, false_implies, implies_true, Option.toList_some, Option.toList_none, List.cons_append, List.nil_append, Nat.add_eq_zero_iff, a_nl_i, a_nl_r, a_nl_n, true_or, or_true, eq_self, a_isRA_22, a_isRA_24, a_isRA_32, a_isA_20, ok_4, ok_5, ok_6, ok_7, ok_9, ok_20, ok_21, ok_30, ok_50, ok_180, ok_192, ok_200]
        try simp only [true_and, and_true, true_implies, false_implies, implies_true, not_true_eq_false, not_false_eq_true]
        first
          | exact hsame
          | grind)
    clear ih hP hc hcJ apJ hnext sp hf
    simp only [q134_12, q134_13, q134_16, q134_19, q134_22, q134_23, q134_26, q134_27, q134_29, q134_30, k_27 hS, z_27, r_27_0 hS, k_14 hS, z_14, as_nil, as_i, as_r, Nat.reduceAdd, Nat.reduceLeDiff, z_eq0, z_eq1, z_or, z_em, Classical.not_not, not_false_eq_true, not_true_eq_false, true_and, and_true, false_and, and_false, and_self, true_implies, false_implies, implies_true, Option.toList_some, Option.toList_none, List.cons_append, List.nil_append, Nat.add_eq_zero_iff, a_nl_i, a_nl_r, a_nl_n, true_or, or_true, eq_self, a_isRA_22, a_isRA_24, a_isRA_32, a_isA_20, ok_4, ok_5, ok_6, ok_7, ok_9, ok_20, ok_21, ok_30, ok_50, ok_180, ok_192, ok_200, e5, c', ha, an0]
    try simp only [true_and, and_true, true_implies, false_implies, implies_true, not_true_eq_false, not_false_eq_true]
    first
      | exact hcall
      | grind
  · have hp := hP J hT hf sp
    have c' : Y 0 6 ≤ b := Int32.not_lt.mp ci
    clear ih hP hc hcJ apJ sp hf
    simp only [q134_12, q134_13, q134_16, q134_19, q134_131, k_27 hS, z_27, r_27_0 hS, k_14 hS, z_14, as_nil, as_i, as_r, Nat.reduceAdd, Nat.reduceLeDiff, z_eq0, z_eq1, z_or, z_em, Classical.not_not, not_false_eq_true, not_true_eq_false, true_and, and_true, false_and, and_false, and_self, true_implies, false_implies, implies_true, Option.toList_some, Option.toList_none, List.cons_append, List.nil_append, Nat.add_eq_zero_iff, a_nl_i, a_nl_r, a_nl_n, true_or, or_true, eq_self, a_isRA_22, a_isRA_24, a_isRA_32, a_isA_20, ok_4, ok_5, ok_6, ok_7, ok_9, ok_20, ok_21, ok_30, ok_50, ok_180, ok_192, ok_200, e5, c']
    try simp only [true_and, and_true, true_implies, false_implies, implies_true, not_true_eq_false, not_false_eq_true]
    first
      | exact hp
      | grind
theorem ce_collectIn (hT0 : cT C K L I R) (hc : cpP C K L I R Y) {i s : Int32} (hi : 0 ≤ i ∧ i < 4) (ai : 0 ≤ g i.toNatClampNeg ∧ g i.toNatClampNeg < Y 0 17) (er : R (C + 28) i.toNatClampNeg = R (C + 15) (g i.toNatClampNeg).toNatClampNeg) (hs : 0 ≤ s ∧ s ≤ 199) (hsl : s + Y 10 (g i.toNatClampNeg).toNatClampNeg ≤ 200) (hT : cT C K L J R) (hf : fcP C I J) (sp : spP C Y g (i.toNatClampNeg + 1) J) (hP : ∀ J, cT C K L J R → fcP C I J → spP C Y g (i.toNatClampNeg + 1) J → P none (n, t, K, L, J, R)) : a_does (d + 7) 134 [a_rf (C + 27), .int i, .int s] (n, t, K, L, J, R) P := by
  have hS := hT.s
  have hl := le_collectIn_10 (d := d) (n := n) (t := t) (P := P) hT0 hc hi ai er hs hsl hP 0 (by decide) J none none (by decide) hc.2.2.2.2.2.2.2.2.2.1.1 hT hf sp
  clear hP hc sp hf
  rw [a_enter1 (M := a_m134) rfl (a_cat_rf (a_cat_int (a_cat_int a_cat_nil))) (show 3 ≤ 7 by decide)]
  show a_at _ (a_xm a_m134) 0 [some (a_rf (C + 27)), some (.int i), some (.int s), none, none, none, none] [] _ _
  simp only [q134_0, q134_1, q134_4, q134_5, q134_6, q134_7, q134_8, k_27 hS, z_27, r_27_1 hS, k_28 hS, l_28 hS, z_28, as_nil, as_i, as_r, Nat.reduceAdd, Nat.reduceLeDiff, z_eq0, z_eq1, z_or, z_em, Classical.not_not, not_false_eq_true, not_true_eq_false, true_and, and_true, false_and, and_false, and_self, true_implies, false_implies, implies_true, Option.toList_some, Option.toList_none, List.cons_append, List.nil_append, Nat.add_eq_zero_iff, a_nl_i, a_nl_r, a_nl_n, true_or, or_true, eq_self, a_isRA_22, a_isRA_24, a_isRA_32, a_isA_20, ok_4, ok_5, ok_6, ok_7, ok_9, ok_20, ok_21, ok_30, ok_50, ok_180, ok_192, ok_200, er]
  try simp only [true_and, and_true, true_implies, false_implies, implies_true, not_true_eq_false, not_false_eq_true]
  first
    | exact ⟨hi, hl⟩
    | exact hl
    | grind
end ZJJ
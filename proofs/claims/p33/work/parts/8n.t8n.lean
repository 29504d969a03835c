/-! the class: the best leaves all as it was -/
section ZNN
variable {d n t C c : Nat} {K L : Nat → Nat} {I I0 J J0 J1 J2 : Nat → Nat → Int32} {R : Nat → Nat → Nat} {P : Option Value → AH → Prop}
variable {Y Z W : Nat → Nat → Int32} {R' R1 R2 : Nat → Nat → Nat} {g : Nat → Int32}
def fbP (C c n t : Nat) (K L : Nat → Nat) (I : Nat → Nat → Int32) (R : Nat → Nat → Nat) (J : Nat → Nat → Int32) (R' : Nat → Nat → Nat) : Prop := cH C c n t K L J R' ∧ rfP C R R' ∧ ∀ x j, ¬ x = C + 9 → ¬ x = C + 10 → ¬ (C + 27 ≤ x ∧ x ≤ C + 34) → J x j = I x j
theorem fb_cp (hT : cT C K L I R) (hc : cpP C K L I R Y) (h : fbP C c n t K L I R J R1) : cpP C K L J R1 Y := by
  have fr : ∀ x j, ¬ (C + 9 ≤ x ∧ x ≤ C + 10) → ¬ (C + 27 ≤ x ∧ x ≤ C + 34) → J x j = I x j := fun x j a b => h.2.2 x j (by omega) (by omega) (by omega)
  have r16 : ∀ j, R1 (C + 16) j = R (C + 16) j := fun j => h.2.1 _ _ (by omega) (by omega) (by omega)
  have rb : ∀ b : Int32, 0 ≤ b → b < Y 0 6 → C + 96 < R (C + 16) b.toNatClampNeg ∧ C + 96 < R (R (C + 16) b.toNatClampNeg) 2 ∧ C + 96 < R (R (C + 16) b.toNatClampNeg) 3 := fun b b0 b1 => by
    obtain ⟨w0, ⟨w1, -⟩, ⟨s1, -⟩, -⟩ := hT.g_bnc _ (hc.2.1.2.2.1 b b0 b1).1
    exact ⟨w0, w1, s1⟩
  refine cp_mk hT hc (fun _ _ _ => rfl) hc.2.2.2.2.2.2.2.2.2.2.1 (fun _ _ => ⟨rfl, rfl⟩) (fun x j _ _ h1 h2 h3 => h.2.1 x j h1 h2 h3) (fun k j hk => fr _ _ (by omega) (by omega)) (fun x j kx _ _ => ?_) (fun x j kx _ => ?_) (fun x j kx => ?_) (fun k k0 k1 j => ?_) (fun o o0 o1 => ?_) (plP_eq hc.2.1.2.2.2 (fun b b0 b1 => ?_) (fun b b0 b1 => ?_))
  · have := (hT.g_ask x kx).1
    exact fr _ _ (by omega) (by omega)
  · have := (hT.g_bnc x kx).1
    exact fr _ _ (by omega) (by omega)
  · have := (hT.g_txt x kx).1
    exact fr _ _ (by omega) (by omega)
  · have := (hT.g_txt _ (hc.2.2.2.1.2 k k0 k1).1).2.1
    exact fr _ _ (by omega) (by omega)
  · have ao := hc.2.2.1.2.1 o o0 o1
    have := (hT.g_ask _ ao.1).1
    rw [fr _ _ (by omega) (by omega), fr _ _ (by omega) (by omega)]
    exact (hc.2.2.1.2.2.2 o o0 o1).2.2.2.1
  · have := rb b b0 b1
    funext j
    unfold whC
    rw [fr _ _ (by omega) (by omega)]
  · have := rb b b0 b1
    funext j
    unfold snC
    rw [fr _ _ (by omega) (by omega)]
theorem fb_se (hT : cT C K L I R) (hc : cpP C K L I R Y) (hse : seP C R Y) (h : fbP C c n t K L I R J R1) : seP C R1 Y := se_rf hT hc hse h.2.1
theorem fb_cu (hH : cH C c n t K L I R) (hu : cuP C K L I R Y) (h : fbP C c n t K L I R J R1) : cuP C K L J R1 Y := by
  have hT := hH.1
  have hz : fZ C n K (noA C R Y) I R n K J R1 := ⟨⟨hH.2.2.1, Nat.le_refl _⟩, hH.2.1, fun _ _ => rfl, fun x j hx => by
    have : ¬ (C + 9 ≤ x ∧ x ≤ C + 10) ∧ ¬ (C + 27 ≤ x ∧ x ≤ C + 34) := by
      have := sz_K hT (x := x)
      unfold siX at hx
      omega
    exact h.2.2 x j (by omega) (by omega) (by omega), fun x j _ _ a1 a2 a3 => h.2.1 x j a1 a2 a3⟩
  exact ⟨fb_cp hT hu.1 h, fb_se hT hu.1 hu.2.1 h, siP_z hT hu.2.2.1 hz, hu.2.2.2.1, stP_z hT hu.1 hu.2.2.2.2 hz⟩
theorem le_areAllFree_2 (hT : cT C K L I R) (hc : cpP C K L I R Y) {r : Int32} (hP : ∀ v : Int32, (¬ v = 0 → ∀ k : Int32, 0 ≤ k → k < Y 0 17 → bq r k.toNatClampNeg = true → ¬ 0 ≤ Y 20 k.toNatClampNeg) → P (some (.int v)) (n, t, K, L, I, R)) : ∀ i : Int32, i ≤ 30 → ∀ u, 0 ≤ i → i ≤ Y 0 17 → (∀ k : Int32, 0 ≤ k → k < i → bq r k.toNatClampNeg = true → ¬ 0 ≤ Y 20 k.toNatClampNeg) → a_at (d + 1) (a_xm a_m131) 2 [some (a_rf (C + 14)), some (.int r), some (.int i), u] [] (n, t, K, L, I, R) P := by
  have y17 := hc.2.2.2.2.2.2.2.2.1
  have hS := hT.s
  have gA := hT.g_asksR
  have gB := hT.g_benchesR
  have gX := hT.g_textsR
  refine up_ind 30 (fun i hk ih => ?_)
  intro u h0 h1 hn
  have e4 : I (C + 14) 4 = Y 0 17 := hc.2.2.1.1
  rw [q131_2]
  by_cases ci : i < Y 0 17
  · obtain ⟨t1, t2, t3, t4⟩ := lp_st h0 ci
    have hi30 : 0 ≤ i ∧ i < 30 := ⟨h0, Int32.lt_of_lt_of_le ci y17.2⟩
    have hia : 0 ≤ i ∧ i < Y 0 17 ∧ i < 30 := ⟨h0, ci, hi30.2⟩
    obtain ⟨-, ⟨ha, an0, -⟩, -, al⟩ := aa_of hc h0 ci
    have f13 : I (R (C + 15) i.toNatClampNeg) 13 = Y 20 i.toNatClampNeg := al.2.2.2.1.1
    have nc : ¬ Y 0 17 ≤ i := Int32.not_le.mpr ci
    have hnext : (bq r i.toNatClampNeg = true → ¬ 0 ≤ Y 20 i.toNatClampNeg) → ∀ u, a_at (d + 1) (a_xm a_m131) 44 [some (a_rf (C + 14)), some (.int r), some (.int i), u] [] (n, t, K, L, I, R) P := fun q u => by
      have hg := ih hi30.2 u t2 t3 (fun k k0 k1 => by
        by_cases e : k = i
        · rw [e]; exact q
        · exact hn k k0 (by clear ih hP hc hn; grind))
      clear ih hP hc hn
      simp only [q131_44, q131_47, as_nil, as_i, as_r, Nat.reduceAdd, Nat.reduceLeDiff, z_eq0, z_eq1, z_or, z_em, Classical.not_not, not_false_eq_true, not_true_eq_false, true_and, and_true, false_and, and_false, and_self, true_implies, false_implies, implies_true, Option.toList_some, Option.toList_none, List.cons_append, List.nil_append, Nat.add_eq_zero_iff, a_nl_i, a_nl_r, a_nl_n, true_or, or_true, eq_self, a_isRA_22, a_isRA_24, a_isRA_32, a_isA_20, ok_4, ok_5, ok_6, ok_7, ok_9, ok_20, ok_21, ok_30, ok_50, ok_180, ok_192, ok_200]
      exact hg
    have h0v := hP 0 (fun q => absurd rfl q)
    have hcall : a_does (d + 1) 130 [.int r, .int i] (n, t, K, L, I, R) (fun r' h' => a_at (d + 1) (a_xm a_m131) 21 [some (a_rf (C + 14)), some (.int r), some (.int i), some (a_rf (R (C + 15) i.toNatClampNeg))] (r'.toList ++ []) h' P) := by
      refine ce_isIn (d := d) hi30 ?_
      by_cases cb : bq r i.toNatClampNeg = true
      · rw [if_pos cb]
        by_cases cp : 0 ≤ Y 20 i.toNatClampNeg
        · clear ih hP hc hn hnext
          simp only [q131_21, q131_24, q131_25, q131_28, q131_29, q131_32, q131_35, q131_36, q131_39, q131_42, q131_43, k_14 hS, z_14, sp_isPlaced, as_nil, as_i, as_r, Nat.reduceAdd, Nat.reduceLeDiff, z_eq0, z_eq1, z_or, z_em, Classical.not_not, not_false_eq_true, not_true_eq_false, true_and, and_true, false_and, and_false, and_self, true_implies, false_implies, implies_true, Option.toList_some, Option.toList_none, List.cons_append, List.nil_append, Nat.add_eq_zero_iff, a_nl_i, a_nl_r, a_nl_n, true_or, or_true, eq_self, a_isRA_22, a_isRA_24, a_isRA_32, a_isA_20, ok_4, ok_5, ok_6, ok_7, ok_9, ok_20, ok_21, ok_30, ok_50, ok_180, ok_192, ok_200, ha, an0, f13, cp]
          try simp only [true_and, and_true, true_implies, false_implies, implies_true, not_true_eq_false, not_false_eq_true]
          first
            | exact h0v
            | grind
        · have hg := hnext (fun _ => cp)
          clear ih hP hc hn hnext
          simp only [q131_21, q131_24, q131_25, q131_28, q131_29, q131_32, q131_35, q131_36, q131_39, q131_42, q131_43, k_14 hS, z_14, sp_isPlaced, as_nil, as_i, as_r, Nat.reduceAdd, Nat.reduceLeDiff, z_eq0, z_eq1, z_or, z_em, Classical.not_not, not_false_eq_true, not_true_eq_false, true_and, and_true, false_and, and_false, and_self, true_implies, false_implies, implies_true, Option.toList_some, Option.toList_none, List.cons_append, List.nil_append, Nat.add_eq_zero_iff, a_nl_i, a_nl_r, a_nl_n, true_or, or_true, eq_self, a_isRA_22, a_isRA_24, a_isRA_32, a_isA_20, ok_4, ok_5, ok_6, ok_7, ok_9, ok_20, ok_21, ok_30, ok_50, ok_180, ok_192, ok_200, ha, an0, f13, cp]
          try simp only [true_and, and_true, true_implies, false_implies, implies_true, not_true_eq_false, not_false_eq_true]
          grind
      · rw [if_neg cb]
        have hg := hnext (fun q => absurd q cb)
        clear ih hP hc hn hnext
        simp only [q131_21, as_nil, as_i, as_r, Nat.reduceAdd, Nat.reduceLeDiff, z_eq0, z_eq1, z_or, z_em, Classical.not_not, not_false_eq_true, not_true_eq_false, true_and, and_true, false_and, and_false, and_self, true_implies, false_implies, implies_true, Option.toList_some, Option.toList_none, List.cons_append, List.nil_append, Nat.add_eq_zero_iff, a_nl_i, a_nl_r, a_nl_n, true_or, or_true, eq_self, a_isRA_22, a_isRA_24, a_isRA_32, a_isA_20, ok_4, ok_5, ok_6, ok_7, ok_9, ok_20, ok_21, ok_30, ok_50, ok_180, ok_192, ok_200]
        try simp only [true_and, and_true, true_implies, false_implies, implies_true, not_true_eq_false, not_false_eq_true]
        first
          | exact hg _
          | grind
    clear ih hP hc hn hnext
    simp only [q131_3, q131_4, q131_7, q131_10, q131_11, q131_12, q131_15, q131_16, q131_17, q131_18, k_14 hS, z_14, sp_askAt hS gA, as_nil, as_i, as_r, Nat.reduceAdd, Nat.reduceLeDiff, z_eq0, z_eq1, z_or, z_em, Classical.not_not, not_false_eq_true, not_true_eq_false, true_and, and_true, false_and, and_false, and_self, true_implies, false_implies, implies_true, Option.toList_some, Option.toList_none, List.cons_append, List.nil_append, Nat.add_eq_zero_iff, a_nl_i, a_nl_r, a_nl_n, true_or, or_true, eq_self, a_isRA_22, a_isRA_24, a_isRA_32, a_isA_20, ok_4, ok_5, ok_6, ok_7, ok_9, ok_20, ok_21, ok_30, ok_50, ok_180, ok_192, ok_200, e4, hia, nc]
    try simp only [true_and, and_true, true_implies, false_implies, implies_true, not_true_eq_false, not_false_eq_true]
    first
      | exact hcall
      | grind
  · have e := (lp_end h1 ci).2
    have hp := hP 1 (fun _ => by rw [e] at hn; exact hn)
    have nc : Y 0 17 ≤ i := Int32.not_lt.mp ci
    clear ih hP hc hn
    simp only [q131_3, q131_4, q131_7, q131_50, q131_51, k_14 hS, z_14, as_nil, as_i, as_r, Nat.reduceAdd, Nat.reduceLeDiff, z_eq0, z_eq1, z_or, z_em, Classical.not_not, not_false_eq_true, not_true_eq_false, true_and, and_true, false_and, and_false, and_self, true_implies, false_implies, implies_true, Option.toList_some, Option.toList_none, List.cons_append, List.nil_append, Nat.add_eq_zero_iff, a_nl_i, a_nl_r, a_nl_n, true_or, or_true, eq_self, a_isRA_22, a_isRA_24, a_isRA_32, a_isA_20, ok_4, ok_5, ok_6, ok_7, ok_9, ok_20, ok_21, ok_30, ok_50, ok_180, ok_192, ok_200, e4, nc]
    try simp only [true_and, and_true, true_implies, false_implies, implies_true, not_true_eq_false, not_false_eq_true]
    first
      | exact hp
      | grind
theorem ce_areAllFree (hT : cT C K L I R) (hc : cpP C K L I R Y) {r : Int32} (hP : ∀ v : Int32, (¬ v = 0 → ∀ k : Int32, 0 ≤ k → k < Y 0 17 → bq r k.toNatClampNeg = true → ¬ 0 ≤ Y 20 k.toNatClampNeg) → P (some (.int v)) (n, t, K, L, I, R)) : a_does (d + 2) 131 [a_rf (C + 14), .int r] (n, t, K, L, I, R) P := by
  have hS := hT.s
  have hl := fun u => le_areAllFree_2 (d := d) (n := n) (t := t) hT hc hP 0 (by decide) u (by decide) hc.2.2.2.2.2.2.2.2.1.1 (fun k k0 k1 => absurd k1 (Int32.not_lt.mpr k0))
  clear hP hc
  rw [a_enter1 (M := a_m131) rfl (a_cat_rf (a_cat_int a_cat_nil)) (show 2 ≤ 4 by decide)]
  show a_at _ (a_xm a_m131) 0 [some (a_rf (C + 14)), some (.int r), none, none] [] _ _
  simp only [q131_0, q131_1, as_nil, as_i, as_r, Nat.reduceAdd, Nat.reduceLeDiff, z_eq0, z_eq1, z_or, z_em, Classical.not_not, not_false_eq_true, not_true_eq_false, true_and, and_true, false_and, and_false, and_self, true_implies, false_implies, implies_true, Option.toList_some, Option.toList_none, List.cons_append, List.nil_append, Nat.add_eq_zero_iff, a_nl_i, a_nl_r, a_nl_n, true_or, or_true, eq_self, a_isRA_22, a_isRA_24, a_isRA_32, a_isA_20, ok_4, ok_5, ok_6, ok_7, ok_9, ok_20, ok_21, ok_30, ok_50, ok_180, ok_192, ok_200]
  exact hl _
theorem fb_T (h : fbP C c n t K L I R J R1) (hT : cT C K L J2 R1) (f : ∀ x j, ¬ x = C + 9 → ¬ x = C + 10 → ¬ (C + 27 ≤ x ∧ x ≤ C + 34) → J2 x j = J x j) : fbP C c n t K L I R J2 R1 := ⟨cH_J h.1 hT, h.2.1, fun x j a1 a2 a3 => (f x j a1 a2 a3).trans (h.2.2 x j a1 a2 a3)⟩
theorem fb_R (h : fbP C c n t K L I R J R1) {j v : Nat} (hv : v = 0 ∨ K v = 1) : fbP C c n t K L I R J (a_ur R1 (C + 28) j v) := ⟨(cZ_R28 (cZ_refl h.1) hv).2.1, fun x y a1 a2 a3 => by rw [ur_ap, if_neg (fun e => a2 e.1)]; exact h.2.1 x y a1 a2 a3, h.2.2⟩
theorem le_search_125 {m : Int32} (hm4 : 0 ≤ m ∧ m ≤ 4) (bm : ∀ k, k < m.toNatClampNeg → (0 ≤ g k ∧ g k < Y 0 17) ∧ R (C + 28) k = R (C + 15) (g k).toNatClampNeg) (hT0 : cT C K L I R) (hc : cpP C K L I R Y) (hm : I (C + 27) 8 = m) {p q r : Int32} (hN : ∀ J u i, cT C K L J R → (∀ x j, ¬ x = C + 32 → J x j = I x j) → a_at (d + 30) (a_xm a_m132) 173 [some (a_rf (C + 27)), some (.int p), some (.int q), some (.int r), some (.int i), u] [] (n, t, K, L, J, R) P) : ∀ i : Int32, -1 ≤ i → ∀ J u, i < m → cT C K L J R → (∀ x j, ¬ x = C + 32 → J x j = I x j) → a_at (d + 30) (a_xm a_m132) 125 [some (a_rf (C + 27)), some (.int p), some (.int q), some (.int r), some (.int i), u] [] (n, t, K, L, J, R) P := by
  refine dn_ind (-1) (fun i hk ih => ?_)
  intro J u q0 hT hf
  have hS := hT.s
  have hi5 : ¬ i < 0 → (0 ≤ i + 1 ∧ i + 1 < 5) ∧ (0 ≤ i ∧ i < 5) ∧ (0 ≤ i ∧ i < 4) := fun h => by clear hN ih hc bm; grind
  have hex := hN J u i hT hf
  rw [q132_125]
  simp only [q132_127, q132_130, q132_131, q132_134, q132_136, q132_137, q132_140, q132_142, q132_143, q132_144, q132_145, q132_146, q132_149, q132_151, q132_152, q132_155, q132_156, q132_158, k_27 hS, z_27, r_27_5 hS, k_32 hS, l_32 hS, z_32, r_27_4 hS, k_31 hS, l_31 hS, z_31, as_nil, as_i, as_r, Nat.reduceAdd, Nat.reduceLeDiff, z_eq0, z_eq1, z_or, z_em, Classical.not_not, not_false_eq_true, not_true_eq_false, true_and, and_true, false_and, and_false, and_self, true_implies, false_implies, implies_true, Option.toList_some, Option.toList_none, List.cons_append, List.nil_append, Nat.add_eq_zero_iff, a_nl_i, a_nl_r, a_nl_n, true_or, or_true, eq_self, a_isRA_22, a_isRA_24, a_isRA_32, a_isA_20, ok_4, ok_5, ok_6, ok_7, ok_9, ok_20, ok_21, ok_30, ok_50, ok_180, ok_192, ok_200]
  refine ⟨fun _ => hex, fun h1 => ?_⟩
  obtain ⟨x1, x2, x3⟩ := hi5 h1
  obtain ⟨⟨a0, a1⟩, er⟩ := bm i.toNatClampNeg (cl_lt x3.1 q0)
  have hn : ¬ R (C + 28) i.toNatClampNeg = 0 := by rw [er]; exact (hc.2.2.1.2.1 _ a0 a1).2.1
  have ih := ih (by clear hN ih hc bm hex; grind)
  have hs : ∀ v, a_at (d + 30) (a_xm a_m132) 165 [some (a_rf (C + 27)), some (.int p), some (.int q), some (.int r), some (.int i), u] [.int v, .int (J (C + 32) (i + 1).toNatClampNeg), .int i, a_rf (C + 32)] (n, t, K, L, J, R) P := fun v => by
    have hi := ih (a_ui J (C + 32) i.toNatClampNeg (J (C + 32) (i + 1).toNatClampNeg + v)) u (by clear hN ih hc bm hex; grind) (sT_Best_reach hT) (fun x j e => by rw [ui_ap, if_neg (fun q => e q.1)]; exact hf x j e)
    clear hN ih hc bm hex
    simp only [q132_165, q132_166, q132_167, q132_170, as_nil, as_i, as_r, Nat.reduceAdd, Nat.reduceLeDiff, z_eq0, z_eq1, z_or, z_em, Classical.not_not, not_false_eq_true, not_true_eq_false, true_and, and_true, false_and, and_false, and_self, true_implies, false_implies, implies_true, Option.toList_some, Option.toList_none, List.cons_append, List.nil_append, Nat.add_eq_zero_iff, a_nl_i, a_nl_r, a_nl_n, true_or, or_true, eq_self, a_isRA_22, a_isRA_24, a_isRA_32, a_isA_20, ok_4, ok_5, ok_6, ok_7, ok_9, ok_20, ok_21, ok_30, ok_50, ok_180, ok_192, ok_200, ui_ap, cc_ne, cc_n0, cc_0n, Nat.reduceEqDiff, reduceIte, if_true, if_false, k_32 hS, l_32 hS, z_32]
    exact ⟨x2, hi⟩
  refine ⟨x1, x3, fun _ => ?_, fun _ => ?_⟩
  · simp only [q132_164, as_nil, as_i, as_r, Nat.reduceAdd, Nat.reduceLeDiff, z_eq0, z_eq1, z_or, z_em, Classical.not_not, not_false_eq_true, not_true_eq_false, true_and, and_true, false_and, and_false, and_self, true_implies, false_implies, implies_true, Option.toList_some, Option.toList_none, List.cons_append, List.nil_append, Nat.add_eq_zero_iff, a_nl_i, a_nl_r, a_nl_n, true_or, or_true, eq_self, a_isRA_22, a_isRA_24, a_isRA_32, a_isA_20, ok_4, ok_5, ok_6, ok_7, ok_9, ok_20, ok_21, ok_30, ok_50, ok_180, ok_192, ok_200, ui_ap, cc_ne, cc_n0, cc_0n, Nat.reduceEqDiff, reduceIte, if_true, if_false]
    exact hs _
  · refine ck_worth x3 hn hT (fun v => ?_)
    simp only [q132_161, as_nil, as_i, as_r, Nat.reduceAdd, Nat.reduceLeDiff, z_eq0, z_eq1, z_or, z_em, Classical.not_not, not_false_eq_true, not_true_eq_false, true_and, and_true, false_and, and_false, and_self, true_implies, false_implies, implies_true, Option.toList_some, Option.toList_none, List.cons_append, List.nil_append, Nat.add_eq_zero_iff, a_nl_i, a_nl_r, a_nl_n, true_or, or_true, eq_self, a_isRA_22, a_isRA_24, a_isRA_32, a_isA_20, ok_4, ok_5, ok_6, ok_7, ok_9, ok_20, ok_21, ok_30, ok_50, ok_180, ok_192, ok_200, ui_ap, cc_ne, cc_n0, cc_0n, Nat.reduceEqDiff, reduceIte, if_true, if_false]
    exact hs _
theorem le_search_83 (hH : cH C c n t K L I R) (hc : cpP C K L I R Y) (hse : seP C R Y) (hno : noP Y) {m : Int32} (hm4 : 0 ≤ m ∧ m ≤ 4) (bm : ∀ k, k < m.toNatClampNeg → (0 ≤ g k ∧ g k < Y 0 17) ∧ R (C + 28) k = R (C + 15) (g k).toNatClampNeg) (bd : ∀ k j, k < j → j < m.toNatClampNeg → ¬ (g k).toNatClampNeg = (g j).toNatClampNeg) (bu : ∀ k, k < m.toNatClampNeg → ¬ 0 ≤ Y 20 (g k).toNatClampNeg) (hm : I (C + 27) 8 = m) {p q r : Int32} (hp : 0 ≤ p ∧ p ≤ 210) (hq : q ≤ 199) (hP : ∀ J, cT C K L J R → (∀ x j, ¬ x = C + 9 → ¬ x = C + 10 → ¬ (C + 27 ≤ x ∧ x ≤ C + 34) → J x j = I x j) → J (C + 27) 8 = m → P none (n, t, K, L, J, R)) : ∀ i : Int32, i ≤ 4 → ∀ J u, 0 ≤ i → i ≤ m → cT C K L J R → fcP C I J → spP C Y g i.toNatClampNeg J → a_at (d + 30) (a_xm a_m132) 83 [some (a_rf (C + 27)), some (.int p), some (.int q), some (.int r), some (.int i), u] [] (n, t, K, L, J, R) P := by
  refine up_ind 4 (fun i hk ih => ?_)
  intro J u q0 q1 hT hf sp
  have hS := hT.s
  have e8 : J (C + 27) 8 = m := (hf _ _ (by omega) (by omega) (by omega) (by omega) (by omega)).trans hm
  rw [q132_83]
  by_cases ci : i < m
  · obtain ⟨t1, t2, t3, t4⟩ := lp_st q0 ci
    have hi : 0 ≤ i ∧ i < 4 := ⟨q0, Int32.lt_of_lt_of_le ci hm4.2⟩
    obtain ⟨ai, er⟩ := bm i.toNatClampNeg (cl_lt q0 ci)
    have c' : ¬ m ≤ i := Int32.not_le.mpr ci
    have hcall := ce_collect (d := d + 22) (n := n) (t := t) hH.1 hc (r := r) hi ai er hp hq hT hf sp (P := fun r' h' => a_at (d + 30) (a_xm a_m132) 101 [some (a_rf (C + 27)), some (.int p), some (.int q), some (.int r), some (.int i), u] (r'.toList ++ []) h' P) (fun J2 T2 f2 s2 => by
      have hS2 := T2.s
      have hg := ih hi.2 J2 u t2 t3 T2 f2 (by rw [t4]; exact s2)
      clear ih hP hc bm bd bu
      simp only [q132_101, q132_104, as_nil, as_i, as_r, Nat.reduceAdd, Nat.reduceLeDiff, z_eq0, z_eq1, z_or, z_em, Classical.not_not, not_false_eq_true, not_true_eq_false, true_and, and_true, false_and, and_false, and_self, true_implies, false_implies, implies_true, Option.toList_some, Option.toList_none, List.cons_append, List.nil_append, Nat.add_eq_zero_iff, a_nl_i, a_nl_r, a_nl_n, true_or, or_true, eq_self, a_isRA_22, a_isRA_24, a_isRA_32, a_isA_20, ok_4, ok_5, ok_6, ok_7, ok_9, ok_20, ok_21, ok_30, ok_50, ok_180, ok_192, ok_200, ui_ap, cc_ne, cc_n0, cc_0n, Nat.reduceEqDiff, reduceIte, if_true, if_false]
      exact hg)
    clear ih hP hc bm bd bu sp hf
    simp only [q132_85, q132_86, q132_89, q132_92, q132_93, q132_95, q132_96, q132_97, q132_98, k_27 hS, z_27, as_nil, as_i, as_r, Nat.reduceAdd, Nat.reduceLeDiff, z_eq0, z_eq1, z_or, z_em, Classical.not_not, not_false_eq_true, not_true_eq_false, true_and, and_true, false_and, and_false, and_self, true_implies, false_implies, implies_true, Option.toList_some, Option.toList_none, List.cons_append, List.nil_append, Nat.add_eq_zero_iff, a_nl_i, a_nl_r, a_nl_n, true_or, or_true, eq_self, a_isRA_22, a_isRA_24, a_isRA_32, a_isA_20, ok_4, ok_5, ok_6, ok_7, ok_9, ok_20, ok_21, ok_30, ok_50, ok_180, ok_192, ok_200, e8, c']
    try simp only [true_and, and_true, true_implies, false_implies, implies_true, not_true_eq_false, not_false_eq_true]
    first
      | exact hcall
      | grind
  · have e := (lp_end q1 ci).2
    have c' : m ≤ i := Int32.not_lt.mp ci
    have hs5 : 0 ≤ m ∧ m < 5 := ⟨hm4.1, Int32.lt_of_le_of_lt hm4.2 (by decide)⟩
    have hcJ := fc_cp hH.1 hc hf
    have hT1 : cT C K L (a_ui J (C + 32) m.toNatClampNeg 0) R := sT_Best_reach hT
    have hc1 := cp_sc hT hcJ (k := 32) (j := m.toNatClampNeg) (v := 0) (by omega) (by omega)
    have hl := le_search_125 (d := d) (n := n) (t := t) (P := P) (p := p) (q := q) (r := r) hm4 bm hT1 hc1 (by rw [ui_ap, if_neg (by omega)]; exact e8) (fun J2 u2 i2 T2 f2 => by
      have hS2 := T2.s
      have hT3 : cT C K L (a_ui J2 (C + 27) 9 (-1)) R := sT_Best_sum T2
      have s0 := Int32.le_iff_toInt_le.mp hm4.1
      have s1 := Int32.le_iff_toInt_le.mp hm4.2
      have c0 : (0 : Int32).toInt = 0 := rfl
      have c4 : (4 : Int32).toInt = 4 := rfl
      have fJ : ∀ x j, ¬ x = C + 32 → ¬ (x = C + 27 ∧ j = 9) → a_ui J2 (C + 27) 9 (-1) x j = J x j := fun x j e1 e2 => by
        rw [ui_ap, if_neg e2, f2 x j e1, ui_ap, if_neg (fun q => e1 q.1)]
      have xcp : cpP C K L (a_ui J2 (C + 27) 9 (-1)) R Y := cp_fr hT hcJ (fun k j hk => fJ _ _ (by omega) (by omega)) (fun x j kx => by
        have := (hT.g_ask x kx).1
        exact fJ _ _ (by omega) (by omega)) (fun x j kx _ => by
        have := (hT.g_bnc x kx).1
        exact fJ _ _ (by omega) (by omega)) (fun x j kx => by
        have := (hT.g_txt x kx).1
        exact fJ _ _ (by omega) (by omega)) (fun k k0 k1 j => by
        have := (hT.g_txt _ (hcJ.2.2.2.1.2 k k0 k1).1).2.1
        exact fJ _ _ (by omega) (by omega)) (fun b b0 b1 j => by
        obtain ⟨-, ⟨w1, -⟩, ⟨s1, -⟩, -⟩ := hT.g_bnc _ (hcJ.2.1.2.2.1 b b0 b1).1
        exact ⟨fJ _ _ (by omega) (by omega), fJ _ _ (by omega) (by omega)⟩)
      have hx := kx_all (n := n) (t := t) hse hm4 bm bd hc.2.2.2.2.2.2.2.2.2.1.2 m.toInt.toNat 0 0 (a_ui J2 (C + 27) 9 (-1)) Y (d + 30) (fun r' h' => a_at (d + 30) (a_xm a_m132) 184 [some (a_rf (C + 27)), some (.int p), some (.int q), some (.int r), some (.int i2), u2] (r'.toList ++ []) h' P) (by decide) (by omega) (by omega) hT3 xcp (fun _ _ _ => rfl) hno ((fJ _ _ (by omega) (by omega)).trans e8) (fun k hk => by
        rw [fJ (C + 31) _ (by omega) (by omega)]
        have := sp k (by rw [e]; exact hk)
        refine ⟨this.1, fun y hy => ?_⟩
        rw [fJ (C + 29) _ (by omega) (by omega), fJ (C + 30) _ (by omega) (by omega)]
        exact this.2 y hy) (fun k _ k1 => bu k k1) (fun J3 T3 x3 => by
        have hS3 := T3.s
        have hp := hP J3 T3 (fun x j a1 a2 a3 => by
          rw [x3 x j a1 a2 (by omega) (by omega) (by omega), fJ x j (by omega) (by omega)]
          exact hf x j a1 a2 (by omega) (by omega) (by omega)) (by rw [x3 _ _ (by omega) (by omega) (by omega) (by omega) (by omega), fJ _ _ (by omega) (by omega)]; exact e8)
        clear ih hP hc bm bd bu sp hf f2 hcJ hc1 fJ xcp x3
        simp only [q132_184, as_nil, as_i, as_r, Nat.reduceAdd, Nat.reduceLeDiff, z_eq0, z_eq1, z_or, z_em, Classical.not_not, not_false_eq_true, not_true_eq_false, true_and, and_true, false_and, and_false, and_self, true_implies, false_implies, implies_true, Option.toList_some, Option.toList_none, List.cons_append, List.nil_append, Nat.add_eq_zero_iff, a_nl_i, a_nl_r, a_nl_n, true_or, or_true, eq_self, a_isRA_22, a_isRA_24, a_isRA_32, a_isA_20, ok_4, ok_5, ok_6, ok_7, ok_9, ok_20, ok_21, ok_30, ok_50, ok_180, ok_192, ok_200, ui_ap, cc_ne, cc_n0, cc_0n, Nat.reduceEqDiff, reduceIte, if_true, if_false]
        exact hp)
      clear ih hP hc bm bd bu sp hf f2 hcJ hc1 fJ xcp
      simp only [q132_173, q132_174, q132_175, q132_178, q132_179, q132_180, q132_181, k_27 hS, z_27, as_nil, as_i, as_r, Nat.reduceAdd, Nat.reduceLeDiff, z_eq0, z_eq1, z_or, z_em, Classical.not_not, not_false_eq_true, not_true_eq_false, true_and, and_true, false_and, and_false, and_self, true_implies, false_implies, implies_true, Option.toList_some, Option.toList_none, List.cons_append, List.nil_append, Nat.add_eq_zero_iff, a_nl_i, a_nl_r, a_nl_n, true_or, or_true, eq_self, a_isRA_22, a_isRA_24, a_isRA_32, a_isA_20, ok_4, ok_5, ok_6, ok_7, ok_9, ok_20, ok_21, ok_30, ok_50, ok_180, ok_192, ok_200, ui_ap, cc_ne, cc_n0, cc_0n, Nat.reduceEqDiff, reduceIte, if_true, if_false]
      exact hx) (m - 1) (by clear ih hP hc bm bd bu sp hf hcJ hc1; grind) (a_ui J (C + 32) m.toNatClampNeg 0) u (by clear ih hP hc bm bd bu sp hf hcJ hc1; grind) hT1 (fun _ _ _ => rfl)
    clear ih hP hc bm bd bu sp hf hcJ hc1
    simp only [q132_85, q132_86, q132_89, q132_107, q132_108, q132_111, q132_112, q132_115, q132_116, q132_117, q132_118, q132_121, q132_122, q132_123, k_27 hS, z_27, r_27_5 hS, k_32 hS, l_32 hS, z_32, as_nil, as_i, as_r, Nat.reduceAdd, Nat.reduceLeDiff, z_eq0, z_eq1, z_or, z_em, Classical.not_not, not_false_eq_true, not_true_eq_false, true_and, and_true, false_and, and_false, and_self, true_implies, false_implies, implies_true, Option.toList_some, Option.toList_none, List.cons_append, List.nil_append, Nat.add_eq_zero_iff, a_nl_i, a_nl_r, a_nl_n, true_or, or_true, eq_self, a_isRA_22, a_isRA_24, a_isRA_32, a_isA_20, ok_4, ok_5, ok_6, ok_7, ok_9, ok_20, ok_21, ok_30, ok_50, ok_180, ok_192, ok_200, ui_ap, cc_ne, cc_n0, cc_0n, Nat.reduceEqDiff, reduceIte, if_true, if_false, e8, c']
    try simp only [true_and, and_true, true_implies, false_implies, implies_true, not_true_eq_false, not_false_eq_true]
    first
      | exact ⟨hs5, hl⟩
      | exact hl
      | grind
end ZNN
/-! the class: the best: extend -/
section ZLL
variable {d n t C c : Nat} {K L : Nat → Nat} {I I0 J J0 J1 J2 : Nat → Nat → Int32} {R : Nat → Nat → Nat} {P : Option Value → AH → Prop}
variable {Y Z W : Nat → Nat → Int32} {R' R1 R2 : Nat → Nat → Nat} {g : Nat → Int32}
def kxP (C n t : Nat) (K L : Nat → Nat) (R : Nat → Nat → Nat) (Y : Nat → Nat → Int32) (g : Nat → Int32) (m : Int32) (z : Nat) : Prop := ∀ (a sf : Int32) (J : Nat → Nat → Int32) (W : Nat → Nat → Int32) (D : Nat) (P : Option Value → AH → Prop), 0 ≤ a → a.toInt + z = m.toInt → z + 20 ≤ D → cT C K L J R → cpP C K L J R W → sbE Y W → noP W → J (C + 27) 8 = m → spP C Y g m.toNatClampNeg J → (∀ k, a.toNatClampNeg ≤ k → k < m.toNatClampNeg → ¬ 0 ≤ W 20 (g k).toNatClampNeg) → (∀ J2, cT C K L J2 R → xfP C J J2 → P none (n, t, K, L, J2, R)) → a_does D 138 [a_rf (C + 27), .int a, .int sf] (n, t, K, L, J, R) P
theorem le_try (hse : seP C R Y) {m i : Int32} (bm : ∀ k, k < m.toNatClampNeg → (0 ≤ g k ∧ g k < Y 0 17) ∧ R (C + 28) k = R (C + 15) (g k).toNatClampNeg) (bd : ∀ k j, k < j → j < m.toNatClampNeg → ¬ (g k).toNatClampNeg = (g j).toNatClampNeg) (hi : 0 ≤ i ∧ i < 4) (him : i.toNatClampNeg < m.toNatClampNeg) {E : Nat} {sf' b s v w : Int32} (hr : ∀ (sf : Int32) (J W : Nat → Nat → Int32) (P : Option Value → AH → Prop), cT C K L J R → cpP C K L J R W → sbE Y W → noP W → J (C + 27) 8 = m → spP C Y g m.toNatClampNeg J → (∀ k, (i + 1).toNatClampNeg ≤ k → k < m.toNatClampNeg → ¬ 0 ≤ W 20 (g k).toNatClampNeg) → (∀ J2, cT C K L J2 R → xfP C J J2 → P none (n, t, K, L, J2, R)) → a_does (E + 19) 138 [a_rf (C + 27), .int (i + 1), .int sf] (n, t, K, L, J, R) P) (eup : (i + 1).toNatClampNeg = i.toNatClampNeg + 1) (hT : cT C K L I R) (hc : cpP C K L I R W) (hb0 : sbE Y W) (hno : noP W) (hm : I (C + 27) 8 = m) (sp : spP C Y g m.toNatClampNeg I) (hun : (∀ k, i.toNatClampNeg ≤ k → k < m.toNatClampNeg → ¬ 0 ≤ W 20 (g k).toNatClampNeg)) (hb : 0 ≤ b ∧ b < Y 0 6) (hs : 0 ≤ s ∧ s ≤ 199) (hsl : s + Y 10 (g i.toNatClampNeg).toNatClampNeg ≤ 200) (hw : ∀ z : Int32, 0 ≤ z → z < Y 10 (g i.toNatClampNeg).toNatClampNeg → ((w >>> (z &&& 31)) &&& 1 = 0 ↔ ¬ 0 ≤ wtA Y 87 (g i.toNatClampNeg) b (s + z))) (hop : opB W (g i.toNatClampNeg) b s w = true) {x2 x3 x5 : Option Value} (hP : ∀ J, cT C K L J R → xfP C I J → a_at (E + 19) (a_xm a_m138) 212 [some (a_rf (C + 27)), some (.int i), x2, some (a_rf (R (C + 15) (g i.toNatClampNeg).toNatClampNeg)), x3, x5, some (.int v), some (.int w)] [] (n, t, K, L, J, R) P) (hx3 : x3 = some (.int sf')) : a_does (E + 19) 115 [a_rf (C + 14), a_rf (R (C + 15) (g i.toNatClampNeg).toNatClampNeg), .int b, .int s, .int w] (n, t, K, L, I, R) (fun r h' => a_at (E + 19) (a_xm a_m138) 187 [some (a_rf (C + 27)), some (.int i), x2, some (a_rf (R (C + 15) (g i.toNatClampNeg).toNatClampNeg)), x3, x5, some (.int v), some (.int w)] (r.toList ++ []) h' P) := by
  have hS := hT.s
  obtain ⟨⟨a0, a1⟩, -⟩ := bm _ him
  have e17 : W 0 17 = Y 0 17 := hb0 0 17 (by unfold sb; omega)
  have e06 : W 0 6 = Y 0 6 := hb0 0 6 (by unfold sb; omega)
  have o10 : W 10 = Y 10 := sbE_r hb0 (by omega)
  have ag : 0 ≤ g i.toNatClampNeg ∧ g i.toNatClampNeg < W 0 17 := ⟨a0, by rw [e17]; exact a1⟩
  have ap := aa_of hc ag.1 ag.2
  obtain ⟨-, ⟨ha, an0, -⟩, -, al⟩ := id ap
  have hseW := se_b hse hb0
  have hbW : 0 ≤ b ∧ b < W 0 6 := by rw [e06]; exact hb
  have hslW : s + W 10 (g i.toNatClampNeg).toNatClampNeg ≤ 200 := by rw [o10]; exact hsl
  have un := hun _ (Nat.le_refl _) him
  have i30 : (g i.toNatClampNeg).toNatClampNeg < 30 := a_lt30 ⟨a0, Int32.lt_of_lt_of_le ag.2 hc.2.2.2.2.2.2.2.2.1.2⟩
  have hnoi := hno _ i30 un
  have l4 := hc.2.2.2.2.2.1 (g i.toNatClampNeg).toNatClampNeg
  have l4n : (W 10 (g i.toNatClampNeg).toNatClampNeg).toNatClampNeg < 5 := cl_lt (j := 5) l4.1 (Int32.lt_of_le_of_lt l4.2 (by decide))
  have s200 : 0 ≤ s ∧ s ≤ 200 := ⟨hs.1, Int32.le_trans hs.2 (by decide)⟩
  obtain ⟨kb, kb0, -⟩ := hc.2.1.2.2.1 b hbW.1 hbW.2
  obtain ⟨eB2, eB3, -⟩ := hseW.1 b hbW.1 hbW.2
  obtain ⟨bB, ⟨w1, w2, w3⟩, ⟨s1, s2, s3⟩, -⟩ := hT.g_bnc _ kb
  have hx96 := (hT.g_ask _ ha).1
  -- the cells are free
  have fr : ∀ y : Int32, 0 ≤ y → y < W 10 (g i.toNatClampNeg).toNatClampNeg → whC C I R b (s + y).toNatClampNeg = -9 := fun y y0 y1 => by
    have hsz := (sh_lt (i := y) s200 l4 hslW ⟨y0, Int32.le_of_lt y1⟩).1 y1
    refine hg_free hc ag hbW hsz.1 un ?_
    have := op_hg _ 0 hop y.toNatClampNeg (cl_lt y0 y1)
    rw [← on_cl y0, Int32.zero_add] at this
    exact this
  have cell : ∀ j, s.toNatClampNeg ≤ j → j < s.toNatClampNeg + (W 10 (g i.toNatClampNeg).toNatClampNeg).toNatClampNeg → I (R (C + 16) b.toNatClampNeg + 1) j = -9 ∧ I (R (C + 16) b.toNatClampNeg + 2) j = 0 := fun j j0 j1 => by
    have hy0 : 0 ≤ Int32.ofNat (j - s.toNatClampNeg) := (on_ok (p := j - s.toNatClampNeg) (by omega)).1
    have hyn : (Int32.ofNat (j - s.toNatClampNeg)).toNatClampNeg = j - s.toNatClampNeg := (on_p (p := j - s.toNatClampNeg) (by omega)).2.2.1
    have hy1 : Int32.ofNat (j - s.toNatClampNeg) < W 10 (g i.toNatClampNeg).toNatClampNeg := cl_lt2 hy0 l4.1 (by rw [hyn]; omega)
    have hf := fr _ hy0 hy1
    obtain ⟨es, -⟩ := sh_at (i := Int32.ofNat (j - s.toNatClampNeg)) s200.1 s200.2 ⟨hy0, Int32.le_of_lt (Int32.lt_of_lt_of_le hy1 l4.2)⟩
    have hsz := (sh_lt (i := Int32.ofNat (j - s.toNatClampNeg)) s200 l4 hslW ⟨hy0, Int32.le_of_lt hy1⟩).1 hy1
    have ej : (s + Int32.ofNat (j - s.toNatClampNeg)).toNatClampNeg = j := by rw [es, hyn]; omega
    have h2 := hc.2.1.2.2.2.2 b _ hbW.1 hbW.2 hsz.1.1 hsz.1.2
    rw [ej] at hf h2
    have hst : snC C I R b j = 0 := by
      rcases h2 with h2 | ⟨o, x, o0, o1, o2, x0, x1, o3⟩
      · exact h2.2
      · have h3 := (hc.2.1.2.2.2.1 o o0 o1 (by rw [o2]; exact hbW.1)).2.2.2 x x0 x1
        rw [o2, ← o3, ej, hf] at h3
        exact absurd h3.1 (fun q => by rw [← q] at o0; exact absurd o0 (by decide))
    unfold whC at hf
    unfold snC at hst
    rw [eB2] at hf
    rw [eB3] at hst
    exact ⟨hf, hst⟩
  refine cx_lay (d := E + 15) hT hc hseW ap rfl hbW hs hslW un fr (fun z z0 z1 => by
    rw [o10] at z1
    rw [wtA_b hb0]
    exact hw z z0 z1) (fun J1 j1 c1 f1 => ?_)
  have hT1 := j1.1
  have hS1 := hT1.s
  have hT1' : cT C K L (a_ui J1 (C + 33) i.toNatClampNeg v) R := sT_Best_tried hT1
  have sp1 : spP C Y g m.toNatClampNeg (a_ui J1 (C + 33) i.toNatClampNeg v) := fun k hk => by
    have e : ∀ q j, (q = 29 ∨ q = 30 ∨ q = 31) → a_ui J1 (C + 33) i.toNatClampNeg v (C + q) j = I (C + q) j := fun q j hq => by
      rw [ui_ap, if_neg (by omega)]
      exact f1 _ _ (by omega) (by omega)
    rw [e 31 _ (by omega)]
    refine ⟨(sp k hk).1, fun y hy => ?_⟩
    rw [e 29 _ (by omega), e 30 _ (by omega)]
    exact (sp k hk).2 y hy
  have c1' : cpP C K L (a_ui J1 (C + 33) i.toNatClampNeg v) R (puY W (g i.toNatClampNeg) b s) := cp_sc hT1 c1 (k := 33) (by omega) (by omega)
  have bW1 : sbE Y (puY W (g i.toNatClampNeg) b s) := sb_tr hb0 puY_b
  have hcall := hr sf' (a_ui J1 (C + 33) i.toNatClampNeg v) (puY W (g i.toNatClampNeg) b s) (fun r' h' => a_at (E + 19) (a_xm a_m138) 204 [some (a_rf (C + 27)), some (.int i), x2, some (a_rf (R (C + 15) (g i.toNatClampNeg).toNatClampNeg)), x3, x5, some (.int v), some (.int w)] (r'.toList ++ []) h' P) hT1' c1' bW1 (no_pu hb.1 hno) (by rw [ui_ap, if_neg (by omega), f1 _ _ (by omega) (by omega)]; exact hm) sp1 (fun k k0 k1 => by
    rw [eup] at k0
    have hne : ¬ (g k).toNatClampNeg = (g i.toNatClampNeg).toNatClampNeg := fun e => bd _ _ (by omega : i.toNatClampNeg < k) k1 e.symm
    rw [pu_pp, pp_o (Or.inr ⟨hne, by omega⟩)]
    exact hun k (by omega) k1) (fun J2 T2 x2f => by
    have hS2 := T2.s
    have c2 := xf_cp hT1' c1' x2f
    have ag2 : 0 ≤ g i.toNatClampNeg ∧ g i.toNatClampNeg < puY W (g i.toNatClampNeg) b s 0 17 := by rw [pu_pp, pp_o (Or.inl (by omega))]; exact ag
    have ap2 := aa_of c2 ag2.1 ag2.2
    have e20 : puY W (g i.toNatClampNeg) b s 20 (g i.toNatClampNeg).toNatClampNeg = b := by rw [pu_pp, pp_20]
    have e21 : puY W (g i.toNatClampNeg) b s 21 (g i.toNatClampNeg).toNatClampNeg = s := by rw [pu_pp, pp_21]
    have e10 : puY W (g i.toNatClampNeg) b s 10 (g i.toNatClampNeg).toNatClampNeg = W 10 (g i.toNatClampNeg).toNatClampNeg := by rw [pu_pp, pp_10]
    have hl := cy_lift (d := E + 15) (n := n) (t := t) T2 c2 (se_b hse bW1) ap2 rfl (by rw [e20]; exact hb.1) (P := fun r' h' => a_at (E + 19) (a_xm a_m138) 212 [some (a_rf (C + 27)), some (.int i), x2, some (a_rf (R (C + 15) (g i.toNatClampNeg).toNatClampNeg)), x3, x5, some (.int v), some (.int w)] (r'.toList ++ []) h' P) (fun J4 j4 c4 f4 => by
      rw [e20, e21, e10] at f4
      refine hP J4 j4.1 (fun x j q1 q2 q3 q4 q5 => ?_)
      by_cases ca : x = (R (C + 15) (g i.toNatClampNeg).toNatClampNeg) ∧ (j = 13 ∨ j = 14)
      · have a4 := (c4.2.2.1.2.2.2 (g i.toNatClampNeg) ag.1 (by rw [un_o (Or.inl (by omega))]; exact ag2.2)).2.2.2.1
        rw [un_a (Or.inl rfl), un_a (Or.inr rfl)] at a4
        have b4 := al.2.2.2.1
        rw [hnoi.1, hnoi.2] at b4
        rcases ca with ⟨ca, cj | cj⟩
        · rw [ca, cj, a4.1, b4.1]
        · rw [ca, cj, a4.2, b4.2]
      · rw [f4 x j ca]
        unfold lfI
        by_cases c1 : x = R (C + 16) b.toNatClampNeg + 1 ∧ s.toNatClampNeg ≤ j ∧ j < s.toNatClampNeg + (W 10 (g i.toNatClampNeg).toNatClampNeg).toNatClampNeg
        · rw [if_pos c1, c1.1]
          exact (cell j c1.2.1 c1.2.2).1.symm
        · rw [if_neg c1]
          by_cases c2 : x = R (C + 16) b.toNatClampNeg + 2 ∧ s.toNatClampNeg ≤ j ∧ j < s.toNatClampNeg + (W 10 (g i.toNatClampNeg).toNatClampNeg).toNatClampNeg
          · rw [if_pos c2, c2.1]
            exact (cell j c2.2.1 c2.2.2).2.symm
          · rw [if_neg c2, x2f x j q1 q2 q3 q4 q5, ui_ap, if_neg (fun e => q4 e.1)]
            exact f1 x j (fun q => q.1.elim (fun e => c1 ⟨e, q.2⟩) (fun e => c2 ⟨e, q.2⟩)) ca)
    clear hP hr hc c1 c1' c2 ap2 cell fr sp sp1 bm bd hun
    simp only [q138_204, q138_205, q138_208, q138_209, k_27 hS, z_27, r_27_0 hS, k_14 hS, z_14, as_nil, as_i, as_r, Nat.reduceAdd, Nat.reduceLeDiff, z_eq0, z_eq1, z_or, z_em, Classical.not_not, not_false_eq_true, not_true_eq_false, true_and, and_true, false_and, and_false, and_self, true_implies, false_implies, implies_true, Option.toList_some, Option.toList_none, List.cons_append, List.nil_append, Nat.add_eq_zero_iff, a_nl_i, a_nl_r, a_nl_n, true_or, or_true, eq_self, a_isRA_22, a_isRA_24, a_isRA_32, a_isA_20, ok_4, ok_5, ok_6, ok_7, ok_9, ok_20, ok_21, ok_30, ok_50, ok_180, ok_192, ok_200]
    exact hl)
  clear hP hr hc c1 c1' cell fr sp sp1 bm bd hun
  subst hx3
  simp only [q138_187, q138_188, q138_191, q138_192, q138_194, q138_195, q138_196, q138_197, q138_198, q138_199, q138_201, k_27 hS, z_27, r_27_6 hS, k_33 hS, l_33 hS, z_33, as_nil, as_i, as_r, Nat.reduceAdd, Nat.reduceLeDiff, z_eq0, z_eq1, z_or, z_em, Classical.not_not, not_false_eq_true, not_true_eq_false, true_and, and_true, false_and, and_false, and_self, true_implies, false_implies, implies_true, Option.toList_some, Option.toList_none, List.cons_append, List.nil_append, Nat.add_eq_zero_iff, a_nl_i, a_nl_r, a_nl_n, true_or, or_true, eq_self, a_isRA_22, a_isRA_24, a_isRA_32, a_isA_20, ok_4, ok_5, ok_6, ok_7, ok_9, ok_20, ok_21, ok_30, ok_50, ok_180, ok_192, ok_200]
  try simp only [true_and, and_true, true_implies, false_implies, implies_true, not_true_eq_false, not_false_eq_true]
  first
    | exact ⟨hi, hcall⟩
    | exact hcall
    | grind
end ZLL
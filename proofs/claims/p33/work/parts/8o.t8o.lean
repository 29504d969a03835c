/-! the class: the best, the public call -/
section ZOO
variable {d n t C c : Nat} {K L : Nat → Nat} {I I0 J J0 J1 J2 : Nat → Nat → Int32} {R : Nat → Nat → Nat} {P : Option Value → AH → Prop}
variable {Y Z W : Nat → Nat → Int32} {R' R1 R2 : Nat → Nat → Nat}
theorem le_search_8 (hH0 : cH C c n t K L I R) (hc : cpP C K L I R Y) (hse : seP C R Y) (hno : noP Y) {p q r : Int32} (hfr : ∀ k : Int32, 0 ≤ k → k < Y 0 17 → bq r k.toNatClampNeg = true → ¬ 0 ≤ Y 20 k.toNatClampNeg) (hp : 0 ≤ p ∧ p ≤ 210) (hq : q ≤ 199) (hP : ∀ J R1, fbP C c n t K L I R J R1 → bnP C R1 (J (C + 27) 8) → P none (n, t, K, L, J, R1)) : ∀ i : Int32, i ≤ 30 → ∀ J R1 u (g : Nat → Int32), 0 ≤ i → i ≤ Y 0 17 → fbP C c n t K L I R J R1 → (0 ≤ (J (C + 27) 8) ∧ (J (C + 27) 8) ≤ 4) → ((∀ k, k < (J (C + 27) 8).toNatClampNeg → ((0 ≤ g k ∧ g k < Y 0 17) ∧ R1 (C + 28) k = R1 (C + 15) (g k).toNatClampNeg) ∧ (g k < i ∧ ¬ 0 ≤ Y 20 (g k).toNatClampNeg)) ∧ ∀ k j, k < j → j < (J (C + 27) 8).toNatClampNeg → g k < g j) → a_at (d + 30) (a_xm a_m132) 8 [some (a_rf (C + 27)), some (.int p), some (.int q), some (.int r), some (.int i), u] [] (n, t, K, L, J, R1) P := by
  have y17 := hc.2.2.2.2.2.2.2.2.1
  refine up_ind 30 (fun i hk ih => ?_)
  intro J R1 u g h0 h1 hq2 sz mb
  have hT := hq2.1.1
  have hS := hT.s
  have gA := hT.g_asksR
  have gB := hT.g_benchesR
  have gX := hT.g_textsR
  have hcJ := fb_cp hH0.1 hc hq2
  have e4 : J (C + 14) 4 = Y 0 17 := hcJ.2.2.1.1
  rw [q132_8]
  by_cases ci : i < Y 0 17
  · obtain ⟨t1, t2, t3, t4⟩ := lp_st h0 ci
    have hi30 : 0 ≤ i ∧ i < 30 := ⟨h0, Int32.lt_of_lt_of_le ci y17.2⟩
    have hia : 0 ≤ i ∧ i < Y 0 17 ∧ i < 30 := ⟨h0, ci, hi30.2⟩
    obtain ⟨-, ⟨ha, an0, -⟩, -, al⟩ := aa_of hcJ h0 ci
    have nc : ¬ Y 0 17 ≤ i := Int32.not_le.mpr ci
    have iup : i < i + 1 := by clear ih hP hc hcJ mb hq2; grind
    have hnext : ∀ J R1 u (g : Nat → Int32), fbP C c n t K L I R J R1 → (0 ≤ (J (C + 27) 8) ∧ (J (C + 27) 8) ≤ 4) → ((∀ k, k < (J (C + 27) 8).toNatClampNeg → ((0 ≤ g k ∧ g k < Y 0 17) ∧ R1 (C + 28) k = R1 (C + 15) (g k).toNatClampNeg) ∧ (g k < (i + 1) ∧ ¬ 0 ≤ Y 20 (g k).toNatClampNeg)) ∧ ∀ k j, k < j → j < (J (C + 27) 8).toNatClampNeg → g k < g j) → a_at (d + 30) (a_xm a_m132) 74 [some (a_rf (C + 27)), some (.int p), some (.int q), some (.int r), some (.int i), u] [] (n, t, K, L, J, R1) P := fun J R1 u g q s m => by
      have hS := q.1.1.s
      have hg := ih hi30.2 J R1 u g t2 t3 q s m
      clear ih hP hc hcJ mb
      simp only [q132_74, q132_77, as_nil, as_i, as_r, Nat.reduceAdd, Nat.reduceLeDiff, z_eq0, z_eq1, z_or, z_em, Classical.not_not, not_false_eq_true, not_true_eq_false, true_and, and_true, false_and, and_false, and_self, true_implies, false_implies, implies_true, Option.toList_some, Option.toList_none, List.cons_append, List.nil_append, Nat.add_eq_zero_iff, a_nl_i, a_nl_r, a_nl_n, true_or, or_true, eq_self, a_isRA_22, a_isRA_24, a_isRA_32, a_isA_20, ok_4, ok_5, ok_6, ok_7, ok_9, ok_20, ok_21, ok_30, ok_50, ok_180, ok_192, ok_200, ui_ap, cc_ne, cc_n0, cc_0n, Nat.reduceEqDiff, reduceIte, if_true, if_false]
      exact hg
    have hsame : ∀ u, a_at (d + 30) (a_xm a_m132) 74 [some (a_rf (C + 27)), some (.int p), some (.int q), some (.int r), some (.int i), u] [] (n, t, K, L, J, R1) P := fun u => hnext J R1 u g hq2 sz ⟨fun k hk => ⟨(mb.1 k hk).1, ⟨Int32.lt_trans (mb.1 k hk).2.1 iup, (mb.1 k hk).2.2⟩⟩, mb.2⟩
    have hcall : a_does (d + 30) 130 [.int r, .int i] (n, t, K, L, J, R1) (fun r' h' => a_at (d + 30) (a_xm a_m132) 42 [some (a_rf (C + 27)), some (.int p), some (.int q), some (.int r), some (.int i), some (a_rf (R1 (C + 15) i.toNatClampNeg))] (r'.toList ++ []) h' P) := by
      refine ce_isIn (d := d + 29) hi30 ?_
      by_cases cb : bq r i.toNatClampNeg = true
      · rw [if_pos cb]
        by_cases c4 : (J (C + 27) 8) < 4
        · obtain ⟨u1, u2, u3, u4⟩ := lp_st sz.1 c4
          obtain ⟨g', gA', gL⟩ : ∃ g' : Nat → Int32, g' ((J (C + 27) 8)).toNatClampNeg = i ∧ ∀ k, ¬ k = ((J (C + 27) 8)).toNatClampNeg → g' k = g k := ⟨fun k => if k = ((J (C + 27) 8)).toNatClampNeg then i else g k, if_pos rfl, fun k h => if_neg h⟩
          have hg := hnext (a_ui J (C + 27) 8 ((J (C + 27) 8) + 1)) (a_ur R1 (C + 28) ((J (C + 27) 8)).toNatClampNeg (R1 (C + 15) i.toNatClampNeg)) (some (a_rf (R1 (C + 15) i.toNatClampNeg))) g' (fb_T (fb_R hq2 (Or.inr ha)) (sT_Best_size (fb_R hq2 (j := ((J (C + 27) 8)).toNatClampNeg) (Or.inr ha)).1.1 ⟨u2, u3⟩) (fun x j _ _ a3 => by rw [ui_ap, if_neg (by omega)])) (by rw [ui_ap, if_pos ⟨rfl, rfl⟩]; exact ⟨u2, u3⟩) (by
            rw [ui_ap, if_pos ⟨rfl, rfl⟩, u4]
            refine ⟨fun k hk => ?_, fun k j hkj hj => ?_⟩
            · by_cases e : k = ((J (C + 27) 8)).toNatClampNeg
              · rw [e, gA', ur_ap, if_pos ⟨rfl, rfl⟩, ur_ap, if_neg (by omega)]
                exact ⟨⟨⟨h0, ci⟩, rfl⟩, ⟨iup, hfr i h0 ci cb⟩⟩
              · rw [gL k e, ur_ap, if_neg (fun q => e q.2), ur_ap, if_neg (by omega)]
                have := mb.1 k (by omega)
                exact ⟨this.1, ⟨Int32.lt_trans this.2.1 iup, this.2.2⟩⟩
            · by_cases e : j = ((J (C + 27) 8)).toNatClampNeg
              · rw [e, gA', gL k (by omega)]
                exact (mb.1 k (by omega)).2.1
              · rw [gL j e, gL k (by omega)]
                exact mb.2 k j hkj (by omega))
          have c4' : ¬ 4 ≤ (J (C + 27) 8) := Int32.not_le.mpr c4
          have sz4 : 0 ≤ (J (C + 27) 8) ∧ (J (C + 27) 8) < 4 := ⟨sz.1, c4⟩
          clear ih hP hc hcJ mb hq2 hnext hsame hfr
          simp only [q132_42, q132_45, q132_46, q132_49, q132_50, q132_53, q132_54, q132_57, q132_58, q132_61, q132_63, q132_64, q132_65, q132_66, q132_69, q132_70, q132_71, k_27 hS, z_27, r_27_1 hS, k_28 hS, l_28 hS, z_28, as_nil, as_i, as_r, Nat.reduceAdd, Nat.reduceLeDiff, z_eq0, z_eq1, z_or, z_em, Classical.not_not, not_false_eq_true, not_true_eq_false, true_and, and_true, false_and, and_false, and_self, true_implies, false_implies, implies_true, Option.toList_some, Option.toList_none, List.cons_append, List.nil_append, Nat.add_eq_zero_iff, a_nl_i, a_nl_r, a_nl_n, true_or, or_true, eq_self, a_isRA_22, a_isRA_24, a_isRA_32, a_isA_20, ok_4, ok_5, ok_6, ok_7, ok_9, ok_20, ok_21, ok_30, ok_50, ok_180, ok_192, ok_200, ui_ap, cc_ne, cc_n0, cc_0n, Nat.reduceEqDiff, reduceIte, if_true, if_false, ha, an0, c4']
          try simp only [true_and, and_true, true_implies, false_implies, implies_true, not_true_eq_false, not_false_eq_true]
          repeat' first
            | with_reducible apply And.intro
            | with_reducible intro _
            | exact hg
            | exact sz4.1
            | exact sz4.2
            | (right; rfl)
            | (exfalso; rename_i h9; exact absurd h9 (by decide))
            | decide
        · have hg := hsame (some (a_rf (R1 (C + 15) i.toNatClampNeg)))
          have c4' : 4 ≤ (J (C + 27) 8) := Int32.not_lt.mp c4
          clear ih hP hc hcJ mb hq2 hnext hsame hfr
          simp only [q132_42, q132_45, q132_46, q132_49, q132_50, k_27 hS, z_27, as_nil, as_i, as_r, Nat.reduceAdd, Nat.reduceLeDiff, z_eq0, z_eq1, z_or, z_em, Classical.not_not, not_false_eq_true, not_true_eq_false, true_and, and_true, false_and, and_false, and_self, true_implies, false_implies, implies_true, Option.toList_some, Option.toList_none, List.cons_append, List.nil_append, Nat.add_eq_zero_iff, a_nl_i, a_nl_r, a_nl_n, true_or, or_true, eq_self, a_isRA_22, a_isRA_24, a_isRA_32, a_isA_20, ok_4, ok_5, ok_6, ok_7, ok_9, ok_20, ok_21, ok_30, ok_50, ok_180, ok_192, ok_200, ui_ap, cc_ne, cc_n0, cc_0n, Nat.reduceEqDiff, reduceIte, if_true, if_false, c4']
          try simp only [true_and, and_true, true_implies, false_implies, implies_true, not_true_eq_false, not_false_eq_true]
          first
            | exact hg
            | grind
      · rw [if_neg cb]
        have hg := hsame (some (a_rf (R1 (C + 15) i.toNatClampNeg)))
        clear ih hP hc hcJ mb hq2 hnext hsame hfr
        simp only [q132_42, as_nil, as_i, as_r, Nat.reduceAdd, Nat.reduceLeDiff, z_eq0, z_eq1, z_or, z_em, Classical.not_not, not_false_eq_true, not_true_eq_false, true_and, and_true, false_and, and_false, and_self, true_implies, false_implies, implies_true, Option.toList_some, Option.toList_none, List.cons_append, List.nil_append, Nat.add_eq_zero_iff, a_nl_i, a_nl_r, a_nl_n, true_or, or_true, eq_self, a_isRA_22, a_isRA_24, a_isRA_32, a_isA_20, ok_4, ok_5, ok_6, ok_7, ok_9, ok_20, ok_21, ok_30, ok_50, ok_180, ok_192, ok_200, ui_ap, cc_ne, cc_n0, cc_0n, Nat.reduceEqDiff, reduceIte, if_true, if_false]
        try simp only [true_and, and_true, true_implies, false_implies, implies_true, not_true_eq_false, not_false_eq_true]
        first
          | exact hg
          | grind
    clear ih hP hc hcJ mb hq2 hnext hsame hfr
    simp only [q132_10, q132_11, q132_14, q132_17, q132_20, q132_21, q132_24, q132_26, q132_29, q132_31, q132_33, q132_36, q132_37, q132_39, k_27 hS, z_27, r_27_0 hS, k_14 hS, z_14, sp_askAt hS gA, as_nil, as_i, as_r, Nat.reduceAdd, Nat.reduceLeDiff, z_eq0, z_eq1, z_or, z_em, Classical.not_not, not_false_eq_true, not_true_eq_false, true_and, and_true, false_and, and_false, and_self, true_implies, false_implies, implies_true, Option.toList_some, Option.toList_none, List.cons_append, List.nil_append, Nat.add_eq_zero_iff, a_nl_i, a_nl_r, a_nl_n, true_or, or_true, eq_self, a_isRA_22, a_isRA_24, a_isRA_32, a_isA_20, ok_4, ok_5, ok_6, ok_7, ok_9, ok_20, ok_21, ok_30, ok_50, ok_180, ok_192, ok_200, e4, hia, ha, an0, nc]
    try simp only [true_and, and_true, true_implies, false_implies, implies_true, not_true_eq_false, not_false_eq_true]
    first
      | exact hcall
      | grind
  · have nc : Y 0 17 ≤ i := Int32.not_lt.mp ci
    have hl := le_search_83 (d := d) (n := n) (t := t) (P := P) (r := r) hq2.1 hcJ (fb_se hH0.1 hc hse hq2) hno sz (fun k hk => (mb.1 k hk).1) (fun k j hkj hj e => by
      have e2 := cl_inj (mb.1 k (by omega)).1.1.1 (mb.1 j hj).1.1.1 e
      exact absurd (mb.2 k j hkj hj) (by rw [e2]; exact Int32.lt_irrefl)) (fun k hk => (mb.1 k hk).2.2) rfl hp hq (fun J2 T2 f2 e2 => hP J2 R1 (fb_T hq2 T2 f2) (fun j j0 j1 => by
        rw [e2] at j1
        have := (mb.1 j.toNatClampNeg (cl_lt j0 j1)).1
        rw [this.2]
        exact (hcJ.2.2.1.2.1 _ this.1.1 this.1.2).2.1)) 0 (by decide) J u (by decide) sz.1 hT fc_refl (fun k hk => absurd hk (Nat.not_lt_zero k))
    clear ih hP hc hcJ mb hq2 hfr
    simp only [q132_10, q132_11, q132_14, q132_17, q132_80, q132_81, k_27 hS, z_27, r_27_0 hS, k_14 hS, z_14, as_nil, as_i, as_r, Nat.reduceAdd, Nat.reduceLeDiff, z_eq0, z_eq1, z_or, z_em, Classical.not_not, not_false_eq_true, not_true_eq_false, true_and, and_true, false_and, and_false, and_self, true_implies, false_implies, implies_true, Option.toList_some, Option.toList_none, List.cons_append, List.nil_append, Nat.add_eq_zero_iff, a_nl_i, a_nl_r, a_nl_n, true_or, or_true, eq_self, a_isRA_22, a_isRA_24, a_isRA_32, a_isA_20, ok_4, ok_5, ok_6, ok_7, ok_9, ok_20, ok_21, ok_30, ok_50, ok_180, ok_192, ok_200, e4, nc]
    try simp only [true_and, and_true, true_implies, false_implies, implies_true, not_true_eq_false, not_false_eq_true]
    first
      | exact hl
      | grind
theorem ce_search (hH : cH C c n t K L I R) (hc : cpP C K L I R Y) (hse : seP C R Y) (hno : noP Y) {p q r : Int32} (hfr : ∀ k : Int32, 0 ≤ k → k < Y 0 17 → bq r k.toNatClampNeg = true → ¬ 0 ≤ Y 20 k.toNatClampNeg) (hp : 0 ≤ p ∧ p ≤ 210) (hq : q ≤ 199) (hP : ∀ J R1, fbP C c n t K L I R J R1 → bnP C R1 (J (C + 27) 8) → P none (n, t, K, L, J, R1)) : a_does (d + 31) 132 [a_rf (C + 27), .int p, .int q, .int r] (n, t, K, L, I, R) P := by
  have hT := hH.1
  have hS := hT.s
  have hl := fun u => le_search_8 (d := d) (n := n) (t := t) (P := P) hH hc hse hno hfr hp hq hP 0 (by decide) (a_ui I (C + 27) 8 0) R u (fun _ => 0) (by decide) hc.2.2.2.2.2.2.2.2.1.1 ⟨cH_J hH (sT_Best_size hT (by decide)), fun _ _ _ _ _ => rfl, fun x j _ _ a3 => by rw [ui_ap, if_neg (by omega)]⟩ (by rw [ui_ap, if_pos ⟨rfl, rfl⟩]; decide) (by
    rw [ui_ap, if_pos ⟨rfl, rfl⟩]
    exact ⟨fun k hk => absurd hk (Nat.not_lt_zero k), fun k j _ hj => absurd hj (Nat.not_lt_zero j)⟩)
  clear hP hc hfr
  rw [a_enter1 (M := a_m132) rfl (a_cat_rf (a_cat_int (a_cat_int (a_cat_int a_cat_nil)))) (show 4 ≤ 6 by decide)]
  show a_at _ (a_xm a_m132) 0 [some (a_rf (C + 27)), some (.int p), some (.int q), some (.int r), none, none] [] _ _
  simp only [q132_0, q132_1, q132_2, q132_5, q132_6, k_27 hS, z_27, as_nil, as_i, as_r, Nat.reduceAdd, Nat.reduceLeDiff, z_eq0, z_eq1, z_or, z_em, Classical.not_not, not_false_eq_true, not_true_eq_false, true_and, and_true, false_and, and_false, and_self, true_implies, false_implies, implies_true, Option.toList_some, Option.toList_none, List.cons_append, List.nil_append, Nat.add_eq_zero_iff, a_nl_i, a_nl_r, a_nl_n, true_or, or_true, eq_self, a_isRA_22, a_isRA_24, a_isRA_32, a_isA_20, ok_4, ok_5, ok_6, ok_7, ok_9, ok_20, ok_21, ok_30, ok_50, ok_180, ok_192, ok_200, ui_ap, cc_ne, cc_n0, cc_0n, Nat.reduceEqDiff, reduceIte, if_true, if_false]
  exact hl _
theorem ge_best (hH : cH C c (n + 1) t K L I R) (hu : cuP C K L I R Y) {x y r w : Int32} (hP : ∀ v J R1, cH C c (n + 1) t K L J R1 → cuP C K L J R1 Y → P (some (.int v)) (n + 1, t, K, L, J, R1)) : a_does (d + 70) 128 [a_rf C, .int x, .int y, .int r, .int w] (n + 1, t, K, L, I, R) P := by
  have hT := hH.1
  have hS := hT.s
  have gA := hT.g_asksR
  have gB := hT.g_benchesR
  have gX := hT.g_textsR
  have hrf : ∀ v : Int32, a_does (d + 69) 10 [a_rf C, .int v] (n + 1, t, K, L, I, R) (fun r' h' => ∀ z : Int32, r' = some (.int z) → P (some (.int z)) h') := fun v => by
    refine ge_refuse (d := d + 68) hH hu (fun J z u2 => ?_)
    intro q hq
    cases hq
    exact hP _ J R z u2
  have hq0 : ∀ v, ∀ Q : Option Value → AH → Prop, (∀ J, cH C c (n + 1) t K L J R → cuP C K L J R Y → Q (some (.int v)) (n + 1, t, K, L, J, R)) → a_does (d + 69) 10 [a_rf C, .int v] (n + 1, t, K, L, I, R) Q := fun v Q hQ => ge_refuse (d := d + 68) hH hu hQ
  have h75 : (0 ≤ x ∧ x < 200) → (0 ≤ y ∧ y < 200) → a_at (d + 69) (a_xm a_m128) 75 [some (a_rf C), some (.int x), some (.int y), some (.int r), some (.int w)] [] (n + 1, t, K, L, I, R) P := fun hx hy => by
    have y199 : y ≤ 199 := by clear hP hu hrf hq0; grind
    have hp := hP
    have hfree := ce_areAllFree (d := d + 67) (n := n + 1) (t := t) hT hu.1 (r := r) (P := fun r' h' => a_at (d + 69) (a_xm a_m128) 83 [some (a_rf C), some (.int x), some (.int y), some (.int r), some (.int w)] (r'.toList ++ []) h' P) (fun v hv => by
      by_cases cv : v = 0
      · have hr := hq0 (-3) (fun r' h' => a_at (d + 69) (a_xm a_m128) 92 [some (a_rf C), some (.int x), some (.int y), some (.int r), some (.int w)] (r'.toList ++ []) h' P) (fun J z u2 => by
          have hS := z.1.s
          have hp := hP (-3) J R z u2
          clear hP hu hrf hq0
          simp only [q128_92, as_nil, as_i, as_r, Nat.reduceAdd, Nat.reduceLeDiff, z_eq0, z_eq1, z_or, z_em, Classical.not_not, not_false_eq_true, not_true_eq_false, true_and, and_true, false_and, and_false, and_self, true_implies, false_implies, implies_true, Option.toList_some, Option.toList_none, List.cons_append, List.nil_append, Nat.add_eq_zero_iff, a_nl_i, a_nl_r, a_nl_n, true_or, or_true, eq_self, a_isRA_22, a_isRA_24, a_isRA_32, a_isA_20, ok_4, ok_5, ok_6, ok_7, ok_9, ok_20, ok_21, ok_30, ok_50, ok_180, ok_192, ok_200]
          exact hp)
        clear hP hu hrf hq0 hv
        simp only [q128_83, q128_86, q128_87, q128_89, k_0 hS, z_C hS, as_nil, as_i, as_r, Nat.reduceAdd, Nat.reduceLeDiff, z_eq0, z_eq1, z_or, z_em, Classical.not_not, not_false_eq_true, not_true_eq_false, true_and, and_true, false_and, and_false, and_self, true_implies, false_implies, implies_true, Option.toList_some, Option.toList_none, List.cons_append, List.nil_append, Nat.add_eq_zero_iff, a_nl_i, a_nl_r, a_nl_n, true_or, or_true, eq_self, a_isRA_22, a_isRA_24, a_isRA_32, a_isA_20, ok_4, ok_5, ok_6, ok_7, ok_9, ok_20, ok_21, ok_30, ok_50, ok_180, ok_192, ok_200, cv]
        try simp only [true_and, and_true, true_implies, false_implies, implies_true, not_true_eq_false, not_false_eq_true]
        first
          | exact hr
          | grind
      · have hs := ce_search (d := d + 38) (n := n + 1) hH hu.1 hu.2.1 hu.2.2.2.1 (hv cv) (p := x) (q := y) (r := r) ⟨hx.1, by clear hP hu hrf hq0 hv; grind⟩ y199 (P := fun r' h' => a_at (d + 69) (a_xm a_m128) 103 [some (a_rf C), some (.int x), some (.int y), some (.int r), some (.int w)] (r'.toList ++ []) h' P) (fun J R1 fb bn => by
          have hS := fb.1.1.s
          have hu2 := fb_cu hH hu fb
          have hp := fun v => hP v J R1 fb.1 hu2
          have hT2 := fb.1.1
          clear hP hu hrf hq0 hv hu2 fb
          simp only [q128_103, q128_105, q128_106, q128_109, q128_110, q128_113, q128_116, q128_119, q128_120, q128_123, q128_125, q128_128, k_0 hS, z_C hS, r_0_6 hS, k_27 hS, z_27, as_nil, as_i, as_r, Nat.reduceAdd, Nat.reduceLeDiff, z_eq0, z_eq1, z_or, z_em, Classical.not_not, not_false_eq_true, not_true_eq_false, true_and, and_true, false_and, and_false, and_self, true_implies, false_implies, implies_true, Option.toList_some, Option.toList_none, List.cons_append, List.nil_append, Nat.add_eq_zero_iff, a_nl_i, a_nl_r, a_nl_n, true_or, or_true, eq_self, a_isRA_22, a_isRA_24, a_isRA_32, a_isA_20, ok_4, ok_5, ok_6, ok_7, ok_9, ok_20, ok_21, ok_30, ok_50, ok_180, ok_192, ok_200]
          refine ⟨fun _ => ?_, fun _ => ?_⟩
          · first
              | exact hp _
              | (refine ck_spotOf hT2 bn (fun v2 => ?_)
                 simp only [q128_128, as_nil, as_i, as_r, Nat.reduceAdd, Nat.reduceLeDiff, z_eq0, z_eq1, z_or, z_em, Classical.not_not, not_false_eq_true, not_true_eq_false, true_and, and_true, false_and, and_false, and_self, true_implies, false_implies, implies_true, Option.toList_some, Option.toList_none, List.cons_append, List.nil_append, Nat.add_eq_zero_iff, a_nl_i, a_nl_r, a_nl_n, true_or, or_true, eq_self, a_isRA_22, a_isRA_24, a_isRA_32, a_isA_20, ok_4, ok_5, ok_6, ok_7, ok_9, ok_20, ok_21, ok_30, ok_50, ok_180, ok_192, ok_200]
                 exact hp _)
          · first
              | exact hp _
              | (refine ck_spotOf hT2 bn (fun v2 => ?_)
                 simp only [q128_128, as_nil, as_i, as_r, Nat.reduceAdd, Nat.reduceLeDiff, z_eq0, z_eq1, z_or, z_em, Classical.not_not, not_false_eq_true, not_true_eq_false, true_and, and_true, false_and, and_false, and_self, true_implies, false_implies, implies_true, Option.toList_some, Option.toList_none, List.cons_append, List.nil_append, Nat.add_eq_zero_iff, a_nl_i, a_nl_r, a_nl_n, true_or, or_true, eq_self, a_isRA_22, a_isRA_24, a_isRA_32, a_isA_20, ok_4, ok_5, ok_6, ok_7, ok_9, ok_20, ok_21, ok_30, ok_50, ok_180, ok_192, ok_200]
                 exact hp _))
        clear hP hu hrf hq0 hv
        simp only [q128_83, q128_93, q128_94, q128_97, q128_98, q128_99, q128_100, k_0 hS, z_C hS, r_0_6 hS, k_27 hS, z_27, as_nil, as_i, as_r, Nat.reduceAdd, Nat.reduceLeDiff, z_eq0, z_eq1, z_or, z_em, Classical.not_not, not_false_eq_true, not_true_eq_false, true_and, and_true, false_and, and_false, and_self, true_implies, false_implies, implies_true, Option.toList_some, Option.toList_none, List.cons_append, List.nil_append, Nat.add_eq_zero_iff, a_nl_i, a_nl_r, a_nl_n, true_or, or_true, eq_self, a_isRA_22, a_isRA_24, a_isRA_32, a_isA_20, ok_4, ok_5, ok_6, ok_7, ok_9, ok_20, ok_21, ok_30, ok_50, ok_180, ok_192, ok_200, cv]
        try simp only [true_and, and_true, true_implies, false_implies, implies_true, not_true_eq_false, not_false_eq_true]
        first
          | exact hs
          | grind)
    clear hP hu hrf hq0
    simp only [q128_75, q128_76, q128_79, q128_80, k_0 hS, z_C hS, r_0_4 hS, k_14 hS, z_14, as_nil, as_i, as_r, Nat.reduceAdd, Nat.reduceLeDiff, z_eq0, z_eq1, z_or, z_em, Classical.not_not, not_false_eq_true, not_true_eq_false, true_and, and_true, false_and, and_false, and_self, true_implies, false_implies, implies_true, Option.toList_some, Option.toList_none, List.cons_append, List.nil_append, Nat.add_eq_zero_iff, a_nl_i, a_nl_r, a_nl_n, true_or, or_true, eq_self, a_isRA_22, a_isRA_24, a_isRA_32, a_isA_20, ok_4, ok_5, ok_6, ok_7, ok_9, ok_20, ok_21, ok_30, ok_50, ok_180, ok_192, ok_200]
    exact hfree
  have hqz : ∀ v J, cH C c (n + 1) t K L J R → cuP C K L J R Y → P (some (.int v)) (n + 1, t, K, L, J, R) := fun v J z u2 => hP v J R z u2
  clear hP hrf
  rw [a_enter1 (M := a_m128) rfl (a_cat_rf (a_cat_int (a_cat_int (a_cat_int (a_cat_int a_cat_nil))))) (show 5 ≤ 5 by decide)]
  show a_at _ (a_xm a_m128) 0 [some (a_rf C), some (.int x), some (.int y), some (.int r), some (.int w)] [] _ _
  repeat' first
    | with_reducible apply And.intro
    | with_reducible assumption
    | with_reducible intro _
    | refine hq0 _ _ (fun _ _ _ => ?_)
    | exact hqz _ _ (by assumption) (by assumption)
    | with_reducible apply ck_areAsks hT
    | with_reducible apply ck_isIn
    | with_reducible apply ck_bitCount
    | with_reducible apply h75
    | simp only [q128_0, q128_1, q128_2, q128_5, q128_8, q128_9, q128_12, q128_13, q128_16, q128_19, q128_21, q128_24, q128_25, q128_27, q128_30, q128_33, q128_34, q128_35, q128_38, q128_39, q128_41, q128_42, q128_45, q128_46, q128_48, q128_51, q128_52, q128_53, q128_54, q128_55, q128_57, q128_60, q128_61, q128_64, q128_65, q128_68, q128_69, q128_71, q128_74, k_0 hS, z_C hS, r_0_4 hS, k_14 hS, z_14, sp_areShifts, as_nil, as_i, as_r, Nat.reduceAdd, Nat.reduceLeDiff, z_eq0, z_eq1, z_or, z_em, Classical.not_not, not_false_eq_true, not_true_eq_false, true_and, and_true, false_and, and_false, and_self, true_implies, false_implies, implies_true, Option.toList_some, Option.toList_none, List.cons_append, List.nil_append, Nat.add_eq_zero_iff, a_nl_i, a_nl_r, a_nl_n, true_or, or_true, eq_self, a_isRA_22, a_isRA_24, a_isRA_32, a_isA_20, ok_4, ok_5, ok_6, ok_7, ok_9, ok_20, ok_21, ok_30, ok_50, ok_180, ok_192, ok_200]
  all_goals ((try clear h75); (try clear hq0); (try clear hqz); (try clear hu); (try clear hH); (try clear hT); grind [ui_ap])
end ZOO
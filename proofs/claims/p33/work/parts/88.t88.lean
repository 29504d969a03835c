/-! the class: closes, find -/
section ZY0
variable {d n t C c : Nat} {K L : Nat → Nat} {I I0 J J0 J1 J2 : Nat → Nat → Int32} {R : Nat → Nat → Nat} {P : Option Value → AH → Prop}
variable {Y Z W : Nat → Nat → Int32} {g : Nat → Int32} {R' R1 R2 : Nat → Nat → Nat}
theorem a_1 {a : Int32} (h : 1 ≤ a) (h5 : a ≤ 5) : (a - 1).toNatClampNeg = a.toNatClampNeg - 1 ∧ 1 ≤ a.toNatClampNeg ∧ (a - 1).toNatClampNeg < a.toNatClampNeg ∧ 0 ≤ a - 1 ∧ a - 1 < 5 ∧ 0 < a := by
  have h0 : 0 ≤ a - 1 := by grind
  have h1 : a - 1 < a := by grind
  have := (lp_st h0 h1).2.2.2
  rw [show a - 1 + 1 = a by grind] at this
  exact ⟨by omega, by omega, by omega, h0, by grind, by grind⟩
theorem le_closes_66 (hT0 : cT C K L I R) (hc : cpP C K L I R Y) {E : Nat} {m a : Int32} (hm : 2 ≤ m ∧ m ≤ 5) (h1a : 1 ≤ a) (ham : a < m) {R0 : Nat → Nat → Nat} (hr : ∀ (g : Nat → Int32) (J : Nat → Nat → Int32) (R1 : Nat → Nat → Nat) (P : Option Value → AH → Prop), fqP C c n t K L I R J R1 → J (C + 35) 7 = m → sdP C Y (Y 0 17).toNatClampNeg J → mbP C R1 Y (a + 1).toNatClampNeg g → pfP Y (a + 1).toNatClampNeg g → (hP : ∀ (v : Int32) J2 R2 g2, fqP C c n t K L I R J2 R2 → J2 (C + 35) 7 = m → sdP C Y (Y 0 17).toNatClampNeg J2 → (∀ k, k < (a + 1).toNatClampNeg → R2 (C + 38) k = R1 (C + 38) k) → (v = 0 ∧ noR Y m.toNatClampNeg (a + 1).toNatClampNeg g) ∨ (v = 1 ∧ (∀ k, k < (a + 1).toNatClampNeg → g2 k = g k) ∧ fsR Y m.toNatClampNeg (a + 1).toNatClampNeg g2 ∧ mbP C R2 Y m.toNatClampNeg g2) → P (some (.int v)) (n, t, K, L, J2, R2)) → a_does (E + 19) 152 [a_rf (C + 35), .int (a + 1)] (n, t, K, L, J, R1) P) (pf : pfP Y a.toNatClampNeg g) (hP : ∀ (v : Int32) J2 R2 g2, fqP C c n t K L I R J2 R2 → J2 (C + 35) 7 = m → sdP C Y (Y 0 17).toNatClampNeg J2 → (∀ k, k < a.toNatClampNeg → R2 (C + 38) k = R0 (C + 38) k) → (v = 0 ∧ noR Y m.toNatClampNeg a.toNatClampNeg g) ∨ (v = 1 ∧ (∀ k, k < a.toNatClampNeg → g2 k = g k) ∧ fsR Y m.toNatClampNeg a.toNatClampNeg g2 ∧ mbP C R2 Y m.toNatClampNeg g2) → P (some (.int v)) (n, t, K, L, J2, R2)) : ∀ i : Int32, i ≤ 30 → ∀ J R1 u, 0 ≤ i → i ≤ Y 0 17 → fqP C c n t K L I R J R1 → J (C + 35) 7 = m → sdP C Y (Y 0 17).toNatClampNeg J → mbP C R1 Y a.toNatClampNeg g → (∀ k, k < a.toNatClampNeg → R1 (C + 38) k = R0 (C + 38) k) → g 0 < i → blR Y m.toNatClampNeg a.toNatClampNeg g i → a_at (E + 19) (a_xm a_m152) 66 [some (a_rf (C + 35)), some (.int a), some (.int (g 0)), some (.int (g (a - 1).toNatClampNeg)), some (.int i), u] [] (n, t, K, L, J, R1) P := by
  have y17 := hc.2.2.2.2.2.2.2.2.1
  have am5 : a ≤ 5 := Int32.le_trans (Int32.le_of_lt ham) hm.2
  obtain ⟨e1, a1, a1l, b0, b5, apos⟩ := a_1 h1a am5
  have amn : a.toNatClampNeg < m.toNatClampNeg := cl_lt (Int32.le_of_lt apos) ham
  have a50 : 0 ≤ a ∧ a < 5 := ⟨Int32.le_of_lt apos, Int32.lt_of_lt_of_le ham hm.2⟩
  have eup : (a + 1).toNatClampNeg = a.toNatClampNeg + 1 := (lp_st a50.1 ham).2.2.2
  refine up_ind 30 (fun i hk ih => ?_)
  intro J R1 u h0 h1 hq es hs hb hR hg0 hbl
  have hT := hq.1.1
  have hS := hT.s
  have gA := hT.g_asksR
  have gB := hT.g_benchesR
  have gX := hT.g_textsR
  have hcJ := fq_cp hT0 hc hq
  have e4 : J (C + 14) 4 = Y 0 17 := hcJ.2.2.1.1
  rw [q152_66]
  by_cases ci : i < Y 0 17
  · obtain ⟨t1, t2, t3, t4⟩ := lp_st h0 ci
    have hi30 : 0 ≤ i ∧ i < 30 := ⟨h0, Int32.lt_of_lt_of_le ci y17.2⟩
    have hia : 0 ≤ i ∧ i < Y 0 17 ∧ i < 30 := ⟨h0, ci, hi30.2⟩
    obtain ⟨-, ⟨hai, ai0, -⟩, -, ali⟩ := aa_of hcJ h0 ci
    have f0 : J (R1 (C + 15) i.toNatClampNeg) 0 = Y 8 i.toNatClampNeg := ali.1.1
    have nc : ¬ Y 0 17 ≤ i := Int32.not_le.mpr ci
    have hg0' : g 0 < i + 1 := by clear ih hP hr hc hcJ hbl hb; grind
    have hnext : (∀ t, (∀ j, j < a.toNatClampNeg → t j = g j) → t a.toNatClampNeg = i → ¬ rgA Y m.toNatClampNeg t) → ∀ J R1 u, fqP C c n t K L I R J R1 → J (C + 35) 7 = m → sdP C Y (Y 0 17).toNatClampNeg J → mbP C R1 Y a.toNatClampNeg g → (∀ k, k < a.toNatClampNeg → R1 (C + 38) k = R0 (C + 38) k) → a_at (E + 19) (a_xm a_m152) 141 [some (a_rf (C + 35)), some (.int a), some (.int (g 0)), some (.int (g (a - 1).toNatClampNeg)), some (.int i), u] [] (n, t, K, L, J, R1) P := fun hv J R1 u hq es hs hb hR => by
      have hS := hq.1.1.s
      have hg := ih hi30.2 J R1 u t2 t3 hq es hs hb hR hg0' (bl_up hi30.2 hbl hv)
      clear ih hP hr hc hcJ hbl
      simp only [q152_141, q152_144, as_nil, as_i, as_r, Nat.reduceAdd, Nat.reduceLeDiff, z_eq0, z_eq1, z_or, z_em, Classical.not_not, not_false_eq_true, not_true_eq_false, true_and, and_true, false_and, and_false, and_self, true_implies, false_implies, implies_true, Option.toList_some, Option.toList_none, List.cons_append, List.nil_append, Nat.add_eq_zero_iff, a_nl_i, a_nl_r, a_nl_n, true_or, or_true, eq_self, a_isRA_22, a_isRA_24, a_isRA_32, a_isA_20, ok_4, ok_5, ok_6, ok_7, ok_9, ok_20, ok_21, ok_30, ok_50, ok_180, ok_192, ok_200]
      exact hg
    have gf := (hb (a - 1).toNatClampNeg a1l).1
    have gf30 : 0 ≤ (g (a - 1).toNatClampNeg) ∧ (g (a - 1).toNatClampNeg) < 30 := ⟨gf.1, Int32.lt_of_lt_of_le gf.2 y17.2⟩
    have hsd := sd_at hs gf ⟨h0, ci⟩ y17.2 (pf.1 _ a1l)
    have hsame := fun hv u => hnext hv J R1 u hq es hs hb hR
    have hmain : a_does (E + 19) 130 [.int (J (C + 37) (g (a - 1).toNatClampNeg).toNatClampNeg), .int i] (n, t, K, L, J, R1) (fun r h' => a_at (E + 19) (a_xm a_m152) 105 [some (a_rf (C + 35)), some (.int a), some (.int (g 0)), some (.int (g (a - 1).toNatClampNeg)), some (.int i), some (a_rf (R1 (C + 15) i.toNatClampNeg))] (r.toList ++ []) h' P) := by
      refine ce_isIn (d := E + 18) hi30 ?_
      by_cases c1 : bq (J (C + 37) (g (a - 1).toNatClampNeg).toNatClampNeg) i.toNatClampNeg = true
      · rw [if_pos c1]
        have hsw := hsd.mp c1
        simp only [q152_105, q152_108, q152_109, q152_111, q152_114, q152_115, k_35 hS, z_35, as_nil, as_i, as_r, Nat.reduceAdd, Nat.reduceLeDiff, z_eq0, z_eq1, z_or, z_em, Classical.not_not, not_false_eq_true, not_true_eq_false, true_and, and_true, false_and, and_false, and_self, true_implies, false_implies, implies_true, Option.toList_some, Option.toList_none, List.cons_append, List.nil_append, Nat.add_eq_zero_iff, a_nl_i, a_nl_r, a_nl_n, true_or, or_true, eq_self, a_isRA_22, a_isRA_24, a_isRA_32, a_isA_20, ok_4, ok_5, ok_6, ok_7, ok_9, ok_20, ok_21, ok_30, ok_50, ok_180, ok_192, ok_200, hai, ai0, f0]
        try simp only [true_and, and_true, true_implies, false_implies, implies_true, not_true_eq_false, not_false_eq_true]
        refine ⟨fun h => absurd h (by decide), fun _ => ?_⟩
        refine ce_isNewGroup (d := E + 18) (g := g) hT hcJ ⟨a50.1, am5⟩ hb (fun v hv hvv => ?_)
        by_cases c2 : v = 0
        · obtain ⟨k, k1, k2⟩ := hvv.mp c2
          have hg := hsame (fun t ht et r => by
            have := r.1.2.2.1 k a.toNatClampNeg k1 amn
            rw [ht k k1, et] at this
            exact this k2) (some (a_rf (R1 (C + 15) i.toNatClampNeg)))
          clear ih hP hr hc hcJ hbl hnext hsame hsd hsw
          simp only [q152_118, as_nil, as_i, as_r, Nat.reduceAdd, Nat.reduceLeDiff, z_eq0, z_eq1, z_or, z_em, Classical.not_not, not_false_eq_true, not_true_eq_false, true_and, and_true, false_and, and_false, and_self, true_implies, false_implies, implies_true, Option.toList_some, Option.toList_none, List.cons_append, List.nil_append, Nat.add_eq_zero_iff, a_nl_i, a_nl_r, a_nl_n, true_or, or_true, eq_self, a_isRA_22, a_isRA_24, a_isRA_32, a_isA_20, ok_4, ok_5, ok_6, ok_7, ok_9, ok_20, ok_21, ok_30, ok_50, ok_180, ok_192, ok_200, c2]
          try simp only [true_and, and_true, true_implies, false_implies, implies_true, not_true_eq_false, not_false_eq_true]
          first
            | exact hg
            | grind
        · have hnew : ∀ k, k < a.toNatClampNeg → ¬ Y 8 (g k).toNatClampNeg = Y 8 i.toNatClampNeg := fun k k1 k2 => c2 (hvv.mpr ⟨k, k1, k2⟩)
          obtain ⟨g', gA', gL⟩ : ∃ g' : Nat → Int32, g' a.toNatClampNeg = i ∧ ∀ k, ¬ k = a.toNatClampNeg → g' k = g k := ⟨fun k => if k = a.toNatClampNeg then i else g k, if_pos rfl, fun k h => if_neg h⟩
          have hgo := hr g' J (a_ur R1 (C + 38) a.toNatClampNeg (R1 (C + 15) i.toNatClampNeg)) (fun r h' => a_at (E + 19) (a_xm a_m152) 136 [some (a_rf (C + 35)), some (.int a), some (.int (g 0)), some (.int (g (a - 1).toNatClampNeg)), some (.int i), some (a_rf (R1 (C + 15) i.toNatClampNeg))] (r.toList ++ []) h' P) (fq_R hq (Or.inr hai)) es hs (fun k hk => by
            rw [eup] at hk
            by_cases e : k = a.toNatClampNeg
            · rw [e, gA', ur_ap, if_pos ⟨rfl, rfl⟩, ur_ap, if_neg (by omega)]
              exact ⟨⟨h0, ci⟩, rfl⟩
            · rw [gL k e, ur_ap, if_neg (fun q => e q.2), ur_ap, if_neg (by omega)]
              exact hb k (by omega)) (by
            rw [eup]
            refine ⟨fun k hk => ?_, fun k hk => ?_, fun x y hxy hy => ?_⟩
            · by_cases e : k = a.toNatClampNeg
              · rw [e, gA']; exact hsw.2.1
              · rw [gL k e]; exact pf.1 k (by omega)
            · rw [gL 0 (by omega)]
              by_cases e : k + 1 = a.toNatClampNeg
              · rw [e, gA', gL k (by omega), show k = (a - 1).toNatClampNeg by omega]
                exact ⟨hg0, hsw⟩
              · rw [gL _ e, gL k (by omega)]
                exact pf.2.1 k (by omega)
            · by_cases e : y = a.toNatClampNeg
              · rw [e, gA', gL x (by omega)]
                exact hnew x (by omega)
              · rw [gL y e, gL x (by omega)]
                exact pf.2.2 x y hxy (by omega)) (fun v3 J3 R3 g3 q3 es3 s3 f3 h3 => by
            have hS3 := q3.1.1.s
            have f3' : ∀ k, k < a.toNatClampNeg → R3 (C + 38) k = R1 (C + 38) k := fun k hk => by
              rw [f3 k (by omega), ur_ap, if_neg (by omega)]
            rcases h3 with ⟨v0, h3⟩ | ⟨v1, g3e, h3, hb3⟩
            · have hr15 : ∀ j, R3 (C + 15) j = R1 (C + 15) j := fun j => (q3.2.1 _ _ (by omega) (by omega) (by omega)).trans (hq.2.1 _ _ (by omega) (by omega) (by omega)).symm
              have hg := hnext (fun t ht et => h3 t (fun j hj => by
                rw [eup] at hj
                by_cases e : j = a.toNatClampNeg
                · rw [e, gA']; exact et
                · rw [gL j e]; exact ht j (by omega))) J3 R3 (some (a_rf (R1 (C + 15) i.toNatClampNeg))) q3 es3 s3 (fun k hk => by
                  rw [f3' k hk, hr15]
                  exact hb k hk) (fun k hk => (f3' k hk).trans (hR k hk))
              clear ih hP hr hc hcJ hbl hnext hsame hsd hsw
              simp only [q152_136, as_nil, as_i, as_r, Nat.reduceAdd, Nat.reduceLeDiff, z_eq0, z_eq1, z_or, z_em, Classical.not_not, not_false_eq_true, not_true_eq_false, true_and, and_true, false_and, and_false, and_self, true_implies, false_implies, implies_true, Option.toList_some, Option.toList_none, List.cons_append, List.nil_append, Nat.add_eq_zero_iff, a_nl_i, a_nl_r, a_nl_n, true_or, or_true, eq_self, a_isRA_22, a_isRA_24, a_isRA_32, a_isA_20, ok_4, ok_5, ok_6, ok_7, ok_9, ok_20, ok_21, ok_30, ok_50, ok_180, ok_192, ok_200, v0]
              try simp only [true_and, and_true, true_implies, false_implies, implies_true, not_true_eq_false, not_false_eq_true]
              first
                | exact hg
                | grind
            · have g3a : g3 a.toNatClampNeg = i := by rw [g3e _ (by omega), gA']
              have g3l : ∀ j, j < a.toNatClampNeg → g3 j = g j := fun j hj => by rw [g3e j (by omega), gL j (by omega)]
              have hg := hP 1 J3 R3 g3 q3 es3 s3 (fun k hk => (f3' k hk).trans (hR k hk)) (Or.inr ⟨rfl, g3l, bl_fs amn (by
                rw [g3a]
                exact fun t ht => hbl t (fun j hj => (ht j hj).trans (g3l j hj))) (by rw [← eup]; exact h3), hb3⟩)
              clear ih hP hr hc hcJ hbl hnext hsame hsd hsw
              simp only [q152_136, q152_139, q152_140, as_nil, as_i, as_r, Nat.reduceAdd, Nat.reduceLeDiff, z_eq0, z_eq1, z_or, z_em, Classical.not_not, not_false_eq_true, not_true_eq_false, true_and, and_true, false_and, and_false, and_self, true_implies, false_implies, implies_true, Option.toList_some, Option.toList_none, List.cons_append, List.nil_append, Nat.add_eq_zero_iff, a_nl_i, a_nl_r, a_nl_n, true_or, or_true, eq_self, a_isRA_22, a_isRA_24, a_isRA_32, a_isA_20, ok_4, ok_5, ok_6, ok_7, ok_9, ok_20, ok_21, ok_30, ok_50, ok_180, ok_192, ok_200, v1]
              try simp only [true_and, and_true, true_implies, false_implies, implies_true, not_true_eq_false, not_false_eq_true]
              first
                | exact hg
                | exact ⟨by decide, hg⟩
                | grind)
          clear ih hP hr hc hcJ hbl hnext hsame hsd hsw
          simp only [q152_118, q152_121, q152_122, q152_125, q152_126, q152_128, q152_129, q152_130, q152_131, q152_132, q152_133, k_35 hS, z_35, r_35_3 hS, k_38 hS, l_38 hS, z_38, as_nil, as_i, as_r, Nat.reduceAdd, Nat.reduceLeDiff, z_eq0, z_eq1, z_or, z_em, Classical.not_not, not_false_eq_true, not_true_eq_false, true_and, and_true, false_and, and_false, and_self, true_implies, false_implies, implies_true, Option.toList_some, Option.toList_none, List.cons_append, List.nil_append, Nat.add_eq_zero_iff, a_nl_i, a_nl_r, a_nl_n, true_or, or_true, eq_self, a_isRA_22, a_isRA_24, a_isRA_32, a_isA_20, ok_4, ok_5, ok_6, ok_7, ok_9, ok_20, ok_21, ok_30, ok_50, ok_180, ok_192, ok_200, c2, hai, ai0]
          try simp only [true_and, and_true, true_implies, false_implies, implies_true, not_true_eq_false, not_false_eq_true]
          repeat' first
            | with_reducible apply And.intro
            | with_reducible assumption
            | exact a50.1
            | exact a50.2
            | exact hgo
            | (right; rfl)
            | trivial
      · rw [if_neg c1]
        have hg := hsame (fun t ht et r => c1 (hsd.mpr (by
          have := rg_sw (k := (a - 1).toNatClampNeg) y17.2 r (by omega)
          rw [show (a - 1).toNatClampNeg + 1 = a.toNatClampNeg by omega, et, ht _ a1l] at this
          exact this))) (some (a_rf (R1 (C + 15) i.toNatClampNeg)))
        clear ih hP hr hc hcJ hbl hnext hsame hsd
        simp only [q152_105, as_nil, as_i, as_r, Nat.reduceAdd, Nat.reduceLeDiff, z_eq0, z_eq1, z_or, z_em, Classical.not_not, not_false_eq_true, not_true_eq_false, true_and, and_true, false_and, and_false, and_self, true_implies, false_implies, implies_true, Option.toList_some, Option.toList_none, List.cons_append, List.nil_append, Nat.add_eq_zero_iff, a_nl_i, a_nl_r, a_nl_n, true_or, or_true, eq_self, a_isRA_22, a_isRA_24, a_isRA_32, a_isA_20, ok_4, ok_5, ok_6, ok_7, ok_9, ok_20, ok_21, ok_30, ok_50, ok_180, ok_192, ok_200]
        try simp only [true_and, and_true, true_implies, false_implies, implies_true, not_true_eq_false, not_false_eq_true]
        first
          | exact hg
          | grind
    clear ih hP hr hc hcJ hbl hnext hsame hsd
    simp only [q152_68, q152_69, q152_72, q152_75, q152_78, q152_79, q152_82, q152_84, q152_87, q152_89, q152_91, q152_94, q152_95, q152_98, q152_99, q152_100, q152_102, k_35 hS, z_35, r_35_0 hS, k_14 hS, z_14, r_35_2 hS, k_37 hS, l_37 hS, z_37, sp_askAt hS gA, as_nil, as_i, as_r, Nat.reduceAdd, Nat.reduceLeDiff, z_eq0, z_eq1, z_or, z_em, Classical.not_not, not_false_eq_true, not_true_eq_false, true_and, and_true, false_and, and_false, and_self, true_implies, false_implies, implies_true, Option.toList_some, Option.toList_none, List.cons_append, List.nil_append, Nat.add_eq_zero_iff, a_nl_i, a_nl_r, a_nl_n, true_or, or_true, eq_self, a_isRA_22, a_isRA_24, a_isRA_32, a_isA_20, ok_4, ok_5, ok_6, ok_7, ok_9, ok_20, ok_21, ok_30, ok_50, ok_180, ok_192, ok_200, e4, hia, hai, ai0, nc, gf30]
    try simp only [true_and, and_true, true_implies, false_implies, implies_true, not_true_eq_false, not_false_eq_true]
    first
      | exact hmain
      | grind
  · have e := (lp_end h1 ci).2
    have c' : Y 0 17 ≤ i := Int32.not_lt.mp ci
    have hg := hP 0 J R1 g hq es hs hR (Or.inl ⟨rfl, bl_no amn hbl c'⟩)
    clear ih hP hr hc hcJ hbl
    simp only [q152_68, q152_69, q152_72, q152_75, q152_147, q152_148, k_35 hS, z_35, r_35_0 hS, k_14 hS, z_14, as_nil, as_i, as_r, Nat.reduceAdd, Nat.reduceLeDiff, z_eq0, z_eq1, z_or, z_em, Classical.not_not, not_false_eq_true, not_true_eq_false, true_and, and_true, false_and, and_false, and_self, true_implies, false_implies, implies_true, Option.toList_some, Option.toList_none, List.cons_append, List.nil_append, Nat.add_eq_zero_iff, a_nl_i, a_nl_r, a_nl_n, true_or, or_true, eq_self, a_isRA_22, a_isRA_24, a_isRA_32, a_isA_20, ok_4, ok_5, ok_6, ok_7, ok_9, ok_20, ok_21, ok_30, ok_50, ok_180, ok_192, ok_200, e4, c']
    try simp only [true_and, and_true, true_implies, false_implies, implies_true, not_true_eq_false, not_false_eq_true]
    first
      | exact hg
      | exact ⟨by decide, hg⟩
      | grind
theorem kc_all (hT0 : cT C K L I R) (hc : cpP C K L I R Y) (hse : seP C R Y) {m : Int32} (hm : 2 ≤ m ∧ m ≤ 5) : ∀ z, kcP C c n t K L I R Y m z := by
  intro z
  have y17 := hc.2.2.2.2.2.2.2.2.1
  have s0 := Int32.le_iff_toInt_le.mp hm.1
  have s1 := Int32.le_iff_toInt_le.mp hm.2
  have c1 : (1 : Int32).toInt = 1 := rfl
  have c2 : (2 : Int32).toInt = 2 := rfl
  have c5 : (5 : Int32).toInt = 5 := rfl
  have mn : 2 ≤ m.toNatClampNeg ∧ m.toNatClampNeg ≤ 5 := by
    have : (m.toNatClampNeg : Int) = m.toInt := by
      show ((m.toInt.toNat : Nat) : Int) = _
      omega
    omega
  -- the first and the last one so far
  have pre : ∀ (a : Int32) (g : Nat → Int32) (J : Nat → Nat → Int32) (R1 : Nat → Nat → Nat), 1 ≤ a → a ≤ m → fqP C c n t K L I R J R1 → mbP C R1 Y a.toNatClampNeg g → (K (R1 (C + 15) (g 0).toNatClampNeg) = 1 ∧ ¬ (R1 (C + 15) (g 0).toNatClampNeg) = 0 ∧ J (R1 (C + 15) (g 0).toNatClampNeg) 4 = g 0 ∧ R1 (C + 38) (0 : Int32).toNatClampNeg = (R1 (C + 15) (g 0).toNatClampNeg)) ∧ (K (R1 (C + 15) (g (a - 1).toNatClampNeg).toNatClampNeg) = 1 ∧ ¬ (R1 (C + 15) (g (a - 1).toNatClampNeg).toNatClampNeg) = 0 ∧ J (R1 (C + 15) (g (a - 1).toNatClampNeg).toNatClampNeg) 4 = (g (a - 1).toNatClampNeg) ∧ R1 (C + 38) (a - 1).toNatClampNeg = (R1 (C + 15) (g (a - 1).toNatClampNeg).toNatClampNeg)) ∧ (0 ≤ (g (a - 1).toNatClampNeg) ∧ (g (a - 1).toNatClampNeg) < 30) ∧ (0 ≤ a - 1 ∧ a - 1 < 5) ∧ ((0 ≤ g 0 ∧ g 0 < Y 0 17) ∧ (0 ≤ (g (a - 1).toNatClampNeg) ∧ (g (a - 1).toNatClampNeg) < Y 0 17)) := fun a g J R1 h1 h2 hq hb => by
    obtain ⟨e1, a1, a1l, b0, b5, apos⟩ := a_1 h1 (Int32.le_trans h2 hm.2)
    have hcJ := fq_cp hT0 hc hq
    obtain ⟨⟨p0, p1⟩, er0⟩ := hb 0 (by omega)
    obtain ⟨⟨q0, q1⟩, er1⟩ := hb (a - 1).toNatClampNeg a1l
    obtain ⟨-, ⟨h1, h2, h3⟩, -⟩ := aa_of hcJ p0 p1
    obtain ⟨-, ⟨k1, k2, k3⟩, -⟩ := aa_of hcJ q0 q1
    exact ⟨⟨h1, h2, h3, er0⟩, ⟨k1, k2, k3, er1⟩, ⟨q0, Int32.lt_of_lt_of_le q1 y17.2⟩, ⟨b0, b5⟩, ⟨p0, p1⟩, ⟨q0, q1⟩⟩
  induction z with
  | zero =>
    intro a g J R1 D P h1 ha hD hq es hs hb pf hP
    obtain ⟨E, rfl⟩ : ∃ E, D = E + 20 := ⟨D - 20, by omega⟩
    have ea : a = m := Int32.toInt_inj.mp (by omega)
    subst ea
    obtain ⟨⟨k0, y0, n0, r0⟩, ⟨k1, y1, n1, r1⟩, g29, x5, gg0, gg1⟩ := pre a g J R1 h1 (Int32.le_refl _) hq hb
    obtain ⟨e1, a1, a1l, b0, b5, apos⟩ := a_1 h1 hm.2
    have hT := hq.1.1
    have hS := hT.s
    have hcJ := fq_cp hT0 hc hq
    have hseJ := fq_se hT0 hc hse hq
    have g30 : 0 ≤ g 0 ∧ g 0 < 30 := ⟨gg0.1, Int32.lt_of_lt_of_le gg0.2 y17.2⟩
    have hsd := sd_at hs gg1 gg0 y17.2 (pf.1 _ a1l)
    have rng : ∀ k, k < a.toNatClampNeg → 0 ≤ g k ∧ g k < Y 0 17 := fun k hk => (hb k hk).1
    have hno : (¬ rgA Y a.toNatClampNeg g) → noR Y a.toNatClampNeg a.toNatClampNeg g := fun h t ht r => h (rgA_c (by omega) ht r)
    have hmain : a_does (E + 19) 130 [.int (J (C + 37) (g (a - 1).toNatClampNeg).toNatClampNeg), .int (g 0)] (n, t, K, L, J, R1) (fun r h' => a_at (E + 19) (a_xm a_m152) 45 [some (a_rf (C + 35)), some (.int a), some (.int (g 0)), some (.int (g (a - 1).toNatClampNeg)), none, none] (r.toList ++ []) h' P) := by
      refine ce_isIn (d := E + 18) g30 ?_
      by_cases c1 : bq (J (C + 37) (g (a - 1).toNatClampNeg).toNatClampNeg) (g 0).toNatClampNeg = true
      · rw [if_pos c1]
        have hcl := hsd.mp c1
        rw [e1] at hcl
        obtain ⟨hS1, hsu⟩ := pf_all y17.2 mn.1 rng pf hcl
        have hct := ce_canTurn (d := E + 13) (n := n) (t := t) hT hcJ hseJ (pf_tu hb pf) (z := a) rfl ⟨h1, hm.2⟩ es hsu (P := fun r h' => a_at (E + 19) (a_xm a_m152) 52 [some (a_rf (C + 35)), some (.int a), some (.int (g 0)), some (.int (g (a - 1).toNatClampNeg)), none, none] (r.toList ++ []) h' P) (fun v J2 T2 f2 hv hvv => by
          have hS2 := T2.s
          have q2 := fq_T hq T2 (fun x j a1 a2 _ _ a5 a6 a7 => f2 x j a1 a2 a5 a6 a7)
          have es2 : J2 (C + 35) 7 = a := (f2 _ _ (by omega) (by omega) (by omega) (by omega) (by omega)).trans es
          have s2 : sdP C Y (Y 0 17).toNatClampNeg J2 := fun q x1 x2 => by
            have := f2 (C + 37) q.toNatClampNeg (by omega) (by omega) (by omega) (by omega) (by omega)
            rw [this]
            exact hs q x1 x2
          by_cases c2 : v = 1
          · have hg := hP 1 J2 R1 g q2 es2 s2 (fun _ _ => rfl) (Or.inr ⟨rfl, fun _ _ => rfl, ⟨⟨hS1, hvv.mp c2⟩, fun t ht ⟨k, k1, k2, k3⟩ => absurd k3 (by rw [ht k k1]; exact Int32.lt_irrefl)⟩, hb⟩)
            clear hP hc hcJ hsd hno hvv pre
            simp only [q152_52, q152_55, q152_56, q152_59, q152_60, as_nil, as_i, as_r, Nat.reduceAdd, Nat.reduceLeDiff, z_eq0, z_eq1, z_or, z_em, Classical.not_not, not_false_eq_true, not_true_eq_false, true_and, and_true, false_and, and_false, and_self, true_implies, false_implies, implies_true, Option.toList_some, Option.toList_none, List.cons_append, List.nil_append, Nat.add_eq_zero_iff, a_nl_i, a_nl_r, a_nl_n, true_or, or_true, eq_self, a_isRA_22, a_isRA_24, a_isRA_32, a_isA_20, ok_4, ok_5, ok_6, ok_7, ok_9, ok_20, ok_21, ok_30, ok_50, ok_180, ok_192, ok_200, c2]
            try simp only [true_and, and_true, true_implies, false_implies, implies_true, not_true_eq_false, not_false_eq_true]
            first
              | exact hg
              | exact ⟨by decide, hg⟩
              | grind
          · have c3 := hv.resolve_right c2
            have hg := hP 0 J2 R1 g q2 es2 s2 (fun _ _ => rfl) (Or.inl ⟨rfl, hno (fun r => c2 (hvv.mpr r.2))⟩)
            clear hP hc hcJ hsd hno hvv pre
            simp only [q152_52, q152_55, q152_56, q152_59, q152_60, as_nil, as_i, as_r, Nat.reduceAdd, Nat.reduceLeDiff, z_eq0, z_eq1, z_or, z_em, Classical.not_not, not_false_eq_true, not_true_eq_false, true_and, and_true, false_and, and_false, and_self, true_implies, false_implies, implies_true, Option.toList_some, Option.toList_none, List.cons_append, List.nil_append, Nat.add_eq_zero_iff, a_nl_i, a_nl_r, a_nl_n, true_or, or_true, eq_self, a_isRA_22, a_isRA_24, a_isRA_32, a_isA_20, ok_4, ok_5, ok_6, ok_7, ok_9, ok_20, ok_21, ok_30, ok_50, ok_180, ok_192, ok_200, c3]
            try simp only [true_and, and_true, true_implies, false_implies, implies_true, not_true_eq_false, not_false_eq_true]
            first
              | exact hg
              | exact ⟨by decide, hg⟩
              | grind)
        clear hP hc hcJ hsd hno pre
        simp only [q152_45, q152_48, q152_49, k_35 hS, z_35, as_nil, as_i, as_r, Nat.reduceAdd, Nat.reduceLeDiff, z_eq0, z_eq1, z_or, z_em, Classical.not_not, not_false_eq_true, not_true_eq_false, true_and, and_true, false_and, and_false, and_self, true_implies, false_implies, implies_true, Option.toList_some, Option.toList_none, List.cons_append, List.nil_append, Nat.add_eq_zero_iff, a_nl_i, a_nl_r, a_nl_n, true_or, or_true, eq_self, a_isRA_22, a_isRA_24, a_isRA_32, a_isA_20, ok_4, ok_5, ok_6, ok_7, ok_9, ok_20, ok_21, ok_30, ok_50, ok_180, ok_192, ok_200]
        try simp only [true_and, and_true, true_implies, false_implies, implies_true, not_true_eq_false, not_false_eq_true]
        first
          | exact hct
          | grind
      · rw [if_neg c1]
        have hg := hP 0 J R1 g hq es hs (fun _ _ => rfl) (Or.inl ⟨rfl, hno (fun r => c1 (hsd.mpr (by
          have := rg_cl y17.2 mn.1 r
          rw [← e1] at this
          exact this)))⟩)
        clear hP hc hcJ hsd hno pre
        simp only [q152_45, q152_48, q152_49, q152_52, q152_55, q152_56, q152_59, q152_60, k_35 hS, z_35, as_nil, as_i, as_r, Nat.reduceAdd, Nat.reduceLeDiff, z_eq0, z_eq1, z_or, z_em, Classical.not_not, not_false_eq_true, not_true_eq_false, true_and, and_true, false_and, and_false, and_self, true_implies, false_implies, implies_true, Option.toList_some, Option.toList_none, List.cons_append, List.nil_append, Nat.add_eq_zero_iff, a_nl_i, a_nl_r, a_nl_n, true_or, or_true, eq_self, a_isRA_22, a_isRA_24, a_isRA_32, a_isA_20, ok_4, ok_5, ok_6, ok_7, ok_9, ok_20, ok_21, ok_30, ok_50, ok_180, ok_192, ok_200]
        try simp only [true_and, and_true, true_implies, false_implies, implies_true, not_true_eq_false, not_false_eq_true]
        first
          | exact hg
          | exact ⟨by decide, hg⟩
          | grind
    clear hP hc hcJ hsd hno pre
    rw [a_enter1 (M := a_m152) rfl (a_cat_rf (a_cat_int a_cat_nil)) (show 2 ≤ 6 by decide)]
    show a_at _ (a_xm a_m152) 0 [some (a_rf (C + 35)), some (.int a), none, none, none, none] [] _ _
    simp only [q152_0, q152_1, q152_4, q152_5, q152_6, q152_9, q152_10, q152_11, q152_14, q152_15, q152_16, q152_17, q152_18, q152_21, q152_22, q152_23, q152_24, q152_27, q152_30, q152_31, q152_32, q152_35, q152_36, q152_39, q152_40, q152_41, q152_42, k_35 hS, z_35, r_35_3 hS, k_38 hS, l_38 hS, z_38, r_35_2 hS, k_37 hS, l_37 hS, z_37, as_nil, as_i, as_r, Nat.reduceAdd, Nat.reduceLeDiff, z_eq0, z_eq1, z_or, z_em, Classical.not_not, not_false_eq_true, not_true_eq_false, true_and, and_true, false_and, and_false, and_self, true_implies, false_implies, implies_true, Option.toList_some, Option.toList_none, List.cons_append, List.nil_append, Nat.add_eq_zero_iff, a_nl_i, a_nl_r, a_nl_n, true_or, or_true, eq_self, a_isRA_22, a_isRA_24, a_isRA_32, a_isA_20, ok_4, ok_5, ok_6, ok_7, ok_9, ok_20, ok_21, ok_30, ok_50, ok_180, ok_192, ok_200, r0, r1, k0, k1, y0, y1, n0, n1, es, Int32.le_refl]
    try simp only [true_and, and_true, true_implies, false_implies, implies_true, not_true_eq_false, not_false_eq_true]
    first
      | exact ⟨by decide, x5, g29, hmain⟩
      | exact ⟨x5, g29, hmain⟩
      | grind
  | succ z ih =>
    intro a g J R1 D P h1 ha hD hq es hs hb pf hP
    obtain ⟨E, rfl⟩ : ∃ E, D = E + 20 := ⟨D - 20, by omega⟩
    have h1i := Int32.le_iff_toInt_le.mp h1
    have ham : a < m := by rw [Int32.lt_iff_toInt_lt]; omega
    obtain ⟨⟨k0, y0, n0, r0⟩, ⟨k1, y1, n1, r1⟩, g29, x5, gg0, gg1⟩ := pre a g J R1 h1 (Int32.le_of_lt ham) hq hb
    obtain ⟨ee1, a1, a1l, b0, b5, apos⟩ := a_1 h1 (Int32.le_trans (Int32.le_of_lt ham) hm.2)
    have hT := hq.1.1
    have hS := hT.s
    have nm : ¬ m ≤ a := Int32.not_le.mpr ham
    have a5 : a < 5 := Int32.lt_of_lt_of_le ham hm.2
    have e1 : (a + 1).toInt = a.toInt + 1 := by rw [ti_add (by omega)]; omega
    have hl0 : 0 ≤ g 0 + 1 ∧ g 0 + 1 ≤ Y 0 17 ∧ g 0 < g 0 + 1 ∧ g 0 + 1 ≤ 30 := by clear hP hc ih pre hs hb pf; grind
    have amn : a.toNatClampNeg < m.toNatClampNeg := cl_lt (Int32.le_of_lt apos) ham
    have hl := fun u => le_closes_66 (E := E) (n := n) (t := t) (P := P) (R0 := R1) hT0 hc hm h1 ham (fun g J R1 P q e s b p hP => ih (a + 1) g J R1 (E + 19) P (by rw [Int32.le_iff_toInt_le]; omega) (by omega) (by omega) q e s b p hP) pf hP (g 0 + 1) hl0.2.2.2 J R1 u hl0.1 hl0.2.1 hq es hs hb (fun _ _ => rfl) hl0.2.2.1 (fun t ht h r => by
      have := (r.1.2.1 (a.toNatClampNeg - 1) (by omega)).1
      rw [show a.toNatClampNeg - 1 + 1 = a.toNatClampNeg by omega, ht 0 (by omega)] at this
      clear hP hc ih pre hs hb pf
      grind)
    clear hP hc ih pre
    rw [a_enter1 (M := a_m152) rfl (a_cat_rf (a_cat_int a_cat_nil)) (show 2 ≤ 6 by decide)]
    show a_at _ (a_xm a_m152) 0 [some (a_rf (C + 35)), some (.int a), none, none, none, none] [] _ _
    simp only [q152_0, q152_1, q152_4, q152_5, q152_6, q152_9, q152_10, q152_11, q152_14, q152_15, q152_16, q152_17, q152_18, q152_21, q152_22, q152_23, q152_24, q152_27, q152_30, q152_31, q152_32, q152_35, q152_36, q152_39, q152_40, q152_41, q152_42, q152_45, q152_48, q152_49, q152_52, q152_55, q152_56, q152_59, q152_60, q152_61, q152_62, q152_63, q152_64, k_35 hS, z_35, r_35_3 hS, k_38 hS, l_38 hS, z_38, r_35_2 hS, k_37 hS, l_37 hS, z_37, as_nil, as_i, as_r, Nat.reduceAdd, Nat.reduceLeDiff, z_eq0, z_eq1, z_or, z_em, Classical.not_not, not_false_eq_true, not_true_eq_false, true_and, and_true, false_and, and_false, and_self, true_implies, false_implies, implies_true, Option.toList_some, Option.toList_none, List.cons_append, List.nil_append, Nat.add_eq_zero_iff, a_nl_i, a_nl_r, a_nl_n, true_or, or_true, eq_self, a_isRA_22, a_isRA_24, a_isRA_32, a_isA_20, ok_4, ok_5, ok_6, ok_7, ok_9, ok_20, ok_21, ok_30, ok_50, ok_180, ok_192, ok_200, r0, r1, k0, k1, y0, y1, n0, n1, es, nm, a5]
    try simp only [true_and, and_true, true_implies, false_implies, implies_true, not_true_eq_false, not_false_eq_true]
    first
      | exact ⟨by decide, x5, hl _⟩
      | exact ⟨x5, hl _⟩
      | grind
end ZY0
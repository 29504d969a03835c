/-! the class: find, ring -/
section ZZ0
variable {d n t C c : Nat} {K L : Nat → Nat} {I I0 J J0 J1 J2 : Nat → Nat → Int32} {R : Nat → Nat → Nat} {P : Option Value → AH → Prop}
variable {Y Z W : Nat → Nat → Int32} {R' R1 R2 : Nat → Nat → Nat}
theorem le_find_44 (hT0 : cT C K L I R) (hc : cpP C K L I R Y) (hse : seP C R Y) {m : Int32} (hm : 2 ≤ m ∧ m ≤ 5) (hno : (∀ z t, 2 ≤ z → z < m.toNatClampNeg → ¬ rgA Y z t)) (hP : ∀ (v : Int32) J R1 g, fqP C c n t K L I R J R1 → J (C + 35) 7 = v → (v = 0 ∨ (2 ≤ v ∧ v ≤ 5)) → rgR Y v.toNatClampNeg g → mbP C R1 Y v.toNatClampNeg g → P (some (.int v)) (n, t, K, L, J, R1)) (hn : ∀ J R1 u, fqP C c n t K L I R J R1 → sdP C Y (Y 0 17).toNatClampNeg J → (∀ t, ¬ rgA Y m.toNatClampNeg t) → a_at (d + 40) (a_xm a_m150) 94 [some (a_rf (C + 35)), some (.int m), u] [] (n, t, K, L, J, R1) P) : ∀ i : Int32, i ≤ 30 → ∀ J R1, 0 ≤ i → i ≤ Y 0 17 → fqP C c n t K L I R J R1 → J (C + 35) 7 = m → sdP C Y (Y 0 17).toNatClampNeg J → blR Y m.toNatClampNeg 0 (fun _ => 0) i → a_at (d + 40) (a_xm a_m150) 44 [some (a_rf (C + 35)), some (.int m), some (.int i)] [] (n, t, K, L, J, R1) P := by
  have y17 := hc.2.2.2.2.2.2.2.2.1
  have s0 := Int32.le_iff_toInt_le.mp hm.1
  have s1 := Int32.le_iff_toInt_le.mp hm.2
  have c1 : (1 : Int32).toInt = 1 := rfl
  have c2 : (2 : Int32).toInt = 2 := rfl
  have c5 : (5 : Int32).toInt = 5 := rfl
  have mn : 2 ≤ m.toNatClampNeg ∧ m.toNatClampNeg ≤ 5 := by
    have : (m.toNatClampNeg : Int) = m.toInt := by
      show ((m.toInt.toNat : Nat) : Int) = _
      omega
    omega
  refine up_ind 30 (fun i hk ih => ?_)
  intro J R1 h0 h1 hq es hs hbl
  have hT := hq.1.1
  have hS := hT.s
  have gA := hT.g_asksR
  have gB := hT.g_benchesR
  have gX := hT.g_textsR
  have hcJ := fq_cp hT0 hc hq
  have e4 : J (C + 14) 4 = Y 0 17 := hcJ.2.2.1.1
  rw [q150_44]
  by_cases ci : i < Y 0 17
  · obtain ⟨t1, t2, t3, t4⟩ := lp_st h0 ci
    have hi30 : 0 ≤ i ∧ i < 30 := ⟨h0, Int32.lt_of_lt_of_le ci y17.2⟩
    have hia : 0 ≤ i ∧ i < Y 0 17 ∧ i < 30 := ⟨h0, ci, hi30.2⟩
    obtain ⟨-, ⟨hai, ai0, -⟩, -, ali⟩ := aa_of hcJ h0 ci
    have nc : ¬ Y 0 17 ≤ i := Int32.not_le.mpr ci
    have hnext : (∀ t, t 0 = i → ¬ rgA Y m.toNatClampNeg t) → ∀ J R1, fqP C c n t K L I R J R1 → J (C + 35) 7 = m → sdP C Y (Y 0 17).toNatClampNeg J → a_at (d + 40) (a_xm a_m150) 88 [some (a_rf (C + 35)), some (.int m), some (.int i)] [] (n, t, K, L, J, R1) P := fun hv J R1 hq es hs => by
      have hS := hq.1.1.s
      have hg := ih hi30.2 J R1 t2 t3 hq es hs (bl_up hi30.2 hbl (fun t _ e => hv t e))
      clear ih hP hn hc hcJ hbl
      simp only [q150_88, q150_91, as_nil, as_i, as_r, Nat.reduceAdd, Nat.reduceLeDiff, z_eq0, z_eq1, z_or, z_em, Classical.not_not, not_false_eq_true, not_true_eq_false, true_and, and_true, false_and, and_false, and_self, true_implies, false_implies, implies_true, Option.toList_some, Option.toList_none, List.cons_append, List.nil_append, Nat.add_eq_zero_iff, a_nl_i, a_nl_r, a_nl_n, true_or, or_true, eq_self, a_isRA_22, a_isRA_24, a_isRA_32, a_isA_20, ok_4, ok_5, ok_6, ok_7, ok_9, ok_20, ok_21, ok_30, ok_50, ok_180, ok_192, ok_200]
      exact hg
    have hsd := hs i h0 (cl_lt h0 ci)
    have q2 := fq_R (j := 0) hq (Or.inr hai)
    by_cases c0 : J (C + 37) i.toNatClampNeg = 0
    · have hg := hnext (fun t et r => by
        have mv := (r.1.1 0 (by omega)).2
        rw [et] at mv
        have sw := rg_sw y17.2 r (k := 0) (by omega)
        rw [et] at sw
        have := (sd_at hs ⟨h0, ci⟩ (r.1.1 1 (by omega)).1 y17.2 mv).mpr sw
        rw [c0, bq_0] at this
        exact Bool.false_ne_true this) J (a_ur R1 (C + 38) 0 (R1 (C + 15) i.toNatClampNeg)) q2 es hs
      clear ih hP hn hc hcJ hbl hnext
      simp only [q150_45, q150_46, q150_49, q150_52, q150_55, q150_56, q150_59, q150_60, q150_61, q150_64, q150_65, q150_68, q150_69, q150_70, q150_73, q150_74, q150_75, k_35 hS, z_35, r_35_0 hS, k_14 hS, z_14, r_35_3 hS, k_38 hS, l_38 hS, z_38, r_35_2 hS, k_37 hS, l_37 hS, z_37, sp_askAt hS gA, as_nil, as_i, as_r, Nat.reduceAdd, Nat.reduceLeDiff, z_eq0, z_eq1, z_or, z_em, Classical.not_not, not_false_eq_true, not_true_eq_false, true_and, and_true, false_and, and_false, and_self, true_implies, false_implies, implies_true, Option.toList_some, Option.toList_none, List.cons_append, List.nil_append, Nat.add_eq_zero_iff, a_nl_i, a_nl_r, a_nl_n, true_or, or_true, eq_self, a_isRA_22, a_isRA_24, a_isRA_32, a_isA_20, ok_4, ok_5, ok_6, ok_7, ok_9, ok_20, ok_21, ok_30, ok_50, ok_180, ok_192, ok_200, ur_ap, cc_ne, Nat.reduceEqDiff, if_false, e4, hia, nc, cn00, hai, c0, hi30]
      try simp only [true_and, and_true, true_implies, false_implies, implies_true, not_true_eq_false, not_false_eq_true]
      repeat' first
        | with_reducible apply And.intro
        | exact hg
        | decide
        | (right; rfl)
        | trivial
    · have mv : mvY Y i := Classical.byContradiction (fun h => c0 (hsd.2 h))
      have hmb : mbP C (a_ur R1 (C + 38) 0 (R1 (C + 15) i.toNatClampNeg)) Y (1 : Int32).toNatClampNeg (fun _ => i) := fun k hk => by
        have hk : k < 1 := hk
        have e : k = 0 := by omega
        rw [e, ur_ap, if_pos ⟨rfl, rfl⟩, ur_ap, if_neg (by omega)]
        exact ⟨⟨h0, ci⟩, rfl⟩
      have hcl := kc_all (n := n) (t := t) hT0 hc hse hm (m.toInt - 1).toNat 1 (fun _ => i) J (a_ur R1 (C + 38) 0 (R1 (C + 15) i.toNatClampNeg)) (d + 40) (fun r' h' => a_at (d + 40) (a_xm a_m150) 83 [some (a_rf (C + 35)), some (.int m), some (.int i)] (r'.toList ++ []) h' P) (by decide) (by omega) (by omega) q2 es hs hmb ⟨fun _ _ => mv, fun x hx => absurd hx (by show ¬ x + 1 < 1; omega), fun x y hxy hy => absurd hy (by show ¬ y < 1; omega)⟩ (fun v J2 R2 g2 q3 es3 s3 _ h3 => by
        have hS2 := q3.1.1.s
        rcases h3 with ⟨v0, h3⟩ | ⟨v1, g3e, h3, hb3⟩
        · have hg := hnext (fun t et => h3 t (fun j hj => by
            have hj : j < 1 := hj
            rw [show j = 0 by omega]
            exact et)) J2 R2 q3 es3 s3
          clear ih hP hn hc hcJ hbl hnext
          simp only [q150_83, as_nil, as_i, as_r, Nat.reduceAdd, Nat.reduceLeDiff, z_eq0, z_eq1, z_or, z_em, Classical.not_not, not_false_eq_true, not_true_eq_false, true_and, and_true, false_and, and_false, and_self, true_implies, false_implies, implies_true, Option.toList_some, Option.toList_none, List.cons_append, List.nil_append, Nat.add_eq_zero_iff, a_nl_i, a_nl_r, a_nl_n, true_or, or_true, eq_self, a_isRA_22, a_isRA_24, a_isRA_32, a_isA_20, ok_4, ok_5, ok_6, ok_7, ok_9, ok_20, ok_21, ok_30, ok_50, ok_180, ok_192, ok_200, v0]
          try simp only [true_and, and_true, true_implies, false_implies, implies_true, not_true_eq_false, not_false_eq_true]
          first
            | exact hg
            | grind
        · have g0 : g2 0 = i := g3e 0 (by decide)
          have hf : fsR Y m.toNatClampNeg 0 g2 := bl_fs (by omega) (by rw [g0]; exact fun t _ => hbl t (fun j hj => absurd hj (Nat.not_lt_zero j))) h3
          have hg := hP m J2 R2 g2 q3 es3 (Or.inr hm) (Or.inr ⟨mn, hf.1, hno, fun t ht => hf.2 t (fun j hj => absurd hj (Nat.not_lt_zero j)) ht⟩) hb3
          clear ih hP hn hc hcJ hbl hnext
          simp only [q150_83, q150_86, q150_87, as_nil, as_i, as_r, Nat.reduceAdd, Nat.reduceLeDiff, z_eq0, z_eq1, z_or, z_em, Classical.not_not, not_false_eq_true, not_true_eq_false, true_and, and_true, false_and, and_false, and_self, true_implies, false_implies, implies_true, Option.toList_some, Option.toList_none, List.cons_append, List.nil_append, Nat.add_eq_zero_iff, a_nl_i, a_nl_r, a_nl_n, true_or, or_true, eq_self, a_isRA_22, a_isRA_24, a_isRA_32, a_isA_20, ok_4, ok_5, ok_6, ok_7, ok_9, ok_20, ok_21, ok_30, ok_50, ok_180, ok_192, ok_200, v1]
          try simp only [true_and, and_true, true_implies, false_implies, implies_true, not_true_eq_false, not_false_eq_true]
          first
            | exact hg
            | exact ⟨by decide, hg⟩
            | grind)
      clear ih hP hn hc hcJ hbl hnext
      simp only [q150_45, q150_46, q150_49, q150_52, q150_55, q150_56, q150_59, q150_60, q150_61, q150_64, q150_65, q150_68, q150_69, q150_70, q150_73, q150_74, q150_75, q150_78, q150_79, q150_80, k_35 hS, z_35, r_35_0 hS, k_14 hS, z_14, r_35_3 hS, k_38 hS, l_38 hS, z_38, r_35_2 hS, k_37 hS, l_37 hS, z_37, sp_askAt hS gA, as_nil, as_i, as_r, Nat.reduceAdd, Nat.reduceLeDiff, z_eq0, z_eq1, z_or, z_em, Classical.not_not, not_false_eq_true, not_true_eq_false, true_and, and_true, false_and, and_false, and_self, true_implies, false_implies, implies_true, Option.toList_some, Option.toList_none, List.cons_append, List.nil_append, Nat.add_eq_zero_iff, a_nl_i, a_nl_r, a_nl_n, true_or, or_true, eq_self, a_isRA_22, a_isRA_24, a_isRA_32, a_isA_20, ok_4, ok_5, ok_6, ok_7, ok_9, ok_20, ok_21, ok_30, ok_50, ok_180, ok_192, ok_200, ur_ap, cc_ne, Nat.reduceEqDiff, if_false, e4, hia, nc, cn00, hai, c0, hi30]
      try simp only [true_and, and_true, true_implies, false_implies, implies_true, not_true_eq_false, not_false_eq_true]
      repeat' first
        | with_reducible apply And.intro
        | exact hcl
        | decide
        | (right; rfl)
        | trivial
  · have e := (lp_end h1 ci).2
    have c' : Y 0 17 ≤ i := Int32.not_lt.mp ci
    have hg := hn J R1 (some (.int i)) hq hs (fun t => bl_no (by omega) hbl c' t (fun j hj => absurd hj (Nat.not_lt_zero j)))
    clear ih hP hn hc hcJ hbl
    simp only [q150_45, q150_46, q150_49, q150_52, k_35 hS, z_35, r_35_0 hS, k_14 hS, z_14, as_nil, as_i, as_r, Nat.reduceAdd, Nat.reduceLeDiff, z_eq0, z_eq1, z_or, z_em, Classical.not_not, not_false_eq_true, not_true_eq_false, true_and, and_true, false_and, and_false, and_self, true_implies, false_implies, implies_true, Option.toList_some, Option.toList_none, List.cons_append, List.nil_append, Nat.add_eq_zero_iff, a_nl_i, a_nl_r, a_nl_n, true_or, or_true, eq_self, a_isRA_22, a_isRA_24, a_isRA_32, a_isA_20, ok_4, ok_5, ok_6, ok_7, ok_9, ok_20, ok_21, ok_30, ok_50, ok_180, ok_192, ok_200, e4, c']
    try simp only [true_and, and_true, true_implies, false_implies, implies_true, not_true_eq_false, not_false_eq_true]
    first
      | exact hg
      | grind
theorem le_find_32 (hT0 : cT C K L I R) (hc : cpP C K L I R Y) (hse : seP C R Y) (hP : ∀ (v : Int32) J R1 g, fqP C c n t K L I R J R1 → J (C + 35) 7 = v → (v = 0 ∨ (2 ≤ v ∧ v ≤ 5)) → rgR Y v.toNatClampNeg g → mbP C R1 Y v.toNatClampNeg g → P (some (.int v)) (n, t, K, L, J, R1)) : ∀ m : Int32, m ≤ 6 → ∀ J R1 u, 2 ≤ m → fqP C c n t K L I R J R1 → sdP C Y (Y 0 17).toNatClampNeg J → (∀ z t, 2 ≤ z → z < m.toNatClampNeg → ¬ rgA Y z t) → a_at (d + 40) (a_xm a_m150) 32 [some (a_rf (C + 35)), some (.int m), u] [] (n, t, K, L, J, R1) P := by
  have y17 := hc.2.2.2.2.2.2.2.2.1
  refine up_ind 6 (fun m hk ih => ?_)
  intro J R1 u q0 hq hs hno
  have hT := hq.1.1
  have hS := hT.s
  have hup : m < 6 → (m + 1).toNatClampNeg = m.toNatClampNeg + 1 ∧ 2 ≤ m + 1 := fun w => ⟨(lp_st (Int32.le_trans (by decide) q0) w).2.2.2, by clear ih hP hc hno; grind⟩
  have fsz : ∀ v : Int32, 0 ≤ v ∧ v ≤ 5 → fqP C c n t K L I R (a_ui J (C + 35) 7 v) R1 ∧ sdP C Y (Y 0 17).toNatClampNeg (a_ui J (C + 35) 7 v) := fun v hv => ⟨fq_T hq (sT_Circle_size hT hv) (fun x j _ _ a3 _ _ _ _ => by rw [ui_ap, if_neg (fun e => a3 e.1)]), fun q x1 x2 => by
    rw [ui_ap, if_neg (by omega)]
    have := hs q x1 x2
    exact this⟩
  rw [q150_32]
  by_cases ci : 5 < m
  · have em : m = 6 := by clear ih hP hc hno; grind
    obtain ⟨q2, -⟩ := fsz 0 (by decide)
    have hg := hP 0 _ R1 (fun _ => 0) q2 (by rw [ui_ap, if_pos ⟨rfl, rfl⟩]) (Or.inl rfl) (Or.inl ⟨rfl, fun z t z1 z2 => hno z t z1 (by rw [em]; show z < 6; omega)⟩) (fun k hk => absurd hk (Nat.not_lt_zero k))
    clear ih hP hc hno fsz
    simp only [q150_33, q150_34, q150_100, q150_101, q150_102, q150_105, q150_106, k_35 hS, z_35, as_nil, as_i, as_r, Nat.reduceAdd, Nat.reduceLeDiff, z_eq0, z_eq1, z_or, z_em, Classical.not_not, not_false_eq_true, not_true_eq_false, true_and, and_true, false_and, and_false, and_self, true_implies, false_implies, implies_true, Option.toList_some, Option.toList_none, List.cons_append, List.nil_append, Nat.add_eq_zero_iff, a_nl_i, a_nl_r, a_nl_n, true_or, or_true, eq_self, a_isRA_22, a_isRA_24, a_isRA_32, a_isA_20, ok_4, ok_5, ok_6, ok_7, ok_9, ok_20, ok_21, ok_30, ok_50, ok_180, ok_192, ok_200, ui_ap, cc_ne, cc_n0, cc_0n, Nat.reduceEqDiff, reduceIte, if_true, if_false, ci]
    try simp only [true_and, and_true, true_implies, false_implies, implies_true, not_true_eq_false, not_false_eq_true]
    first
      | exact hg
      | exact ⟨by decide, hg⟩
      | grind
  · have hm : 2 ≤ m ∧ m ≤ 5 := ⟨q0, Int32.not_lt.mp ci⟩
    have m6 : m < 6 := Int32.lt_of_le_of_lt hm.2 (by decide)
    obtain ⟨u1, u2⟩ := hup m6
    have mn := cl_lt (i := 1) (j := m) (by decide) (Int32.lt_of_lt_of_le (by decide) q0)
    have mn2 : 1 < m.toNatClampNeg := mn
    obtain ⟨q2, s2⟩ := fsz m ⟨Int32.le_trans (by decide) hm.1, hm.2⟩
    have hg := le_find_44 (d := d) (n := n) (t := t) (P := P) hT0 hc hse hm hno hP (fun J R1 u hq hs hall => by
      have hS := hq.1.1.s
      have hg := ih m6 J R1 u u2 hq hs (fun z t z1 z2 => by
        rw [u1] at z2
        by_cases e : z = m.toNatClampNeg
        · rw [e]; exact hall t
        · exact hno z t z1 (by omega))
      clear ih hP hc hno
      simp only [q150_94, q150_97, as_nil, as_i, as_r, Nat.reduceAdd, Nat.reduceLeDiff, z_eq0, z_eq1, z_or, z_em, Classical.not_not, not_false_eq_true, not_true_eq_false, true_and, and_true, false_and, and_false, and_self, true_implies, false_implies, implies_true, Option.toList_some, Option.toList_none, List.cons_append, List.nil_append, Nat.add_eq_zero_iff, a_nl_i, a_nl_r, a_nl_n, true_or, or_true, eq_self, a_isRA_22, a_isRA_24, a_isRA_32, a_isA_20, ok_4, ok_5, ok_6, ok_7, ok_9, ok_20, ok_21, ok_30, ok_50, ok_180, ok_192, ok_200]
      exact hg) 0 (by decide) _ R1 (by decide) y17.1 q2 (by rw [ui_ap, if_pos ⟨rfl, rfl⟩]) s2 (bl_0 (by omega))
    clear ih hP hc hno fsz
    simp only [q150_33, q150_34, q150_37, q150_38, q150_39, q150_42, q150_43, k_35 hS, z_35, as_nil, as_i, as_r, Nat.reduceAdd, Nat.reduceLeDiff, z_eq0, z_eq1, z_or, z_em, Classical.not_not, not_false_eq_true, not_true_eq_false, true_and, and_true, false_and, and_false, and_self, true_implies, false_implies, implies_true, Option.toList_some, Option.toList_none, List.cons_append, List.nil_append, Nat.add_eq_zero_iff, a_nl_i, a_nl_r, a_nl_n, true_or, or_true, eq_self, a_isRA_22, a_isRA_24, a_isRA_32, a_isA_20, ok_4, ok_5, ok_6, ok_7, ok_9, ok_20, ok_21, ok_30, ok_50, ok_180, ok_192, ok_200, ui_ap, cc_ne, cc_n0, cc_0n, Nat.reduceEqDiff, reduceIte, if_true, if_false, ci]
    try simp only [true_and, and_true, true_implies, false_implies, implies_true, not_true_eq_false, not_false_eq_true]
    first
      | exact hg
      | grind
theorem le_find_2 (hT0 : cT C K L I R) (hc : cpP C K L I R Y) (hw : ∀ a o : Nat, a < 30 → o < 30 → (bq (I (C + 36) a) o = true ↔ ¬ Y 47 (30 * a + o) = 0)) (hse : seP C R Y) (hP : ∀ (v : Int32) J R1 g, fqP C c n t K L I R J R1 → J (C + 35) 7 = v → (v = 0 ∨ (2 ≤ v ∧ v ≤ 5)) → rgR Y v.toNatClampNeg g → mbP C R1 Y v.toNatClampNeg g → P (some (.int v)) (n, t, K, L, J, R1)) : ∀ i : Int32, i ≤ 30 → ∀ J u, 0 ≤ i → i ≤ Y 0 17 → fqP C c n t K L I R J R → sdP C Y i.toNatClampNeg J → a_at (d + 40) (a_xm a_m150) 2 [some (a_rf (C + 35)), some (.int i), u] [] (n, t, K, L, J, R) P := by
  have y17 := hc.2.2.2.2.2.2.2.2.1
  refine up_ind 30 (fun i hk ih => ?_)
  intro J u h0 h1 hq hs
  have hT := hq.1.1
  have hS := hT.s
  have hcJ := fq_cp hT0 hc hq
  have e4 : J (C + 14) 4 = Y 0 17 := hcJ.2.2.1.1
  rw [q150_2]
  by_cases ci : i < Y 0 17
  · obtain ⟨t1, t2, t3, t4⟩ := lp_st h0 ci
    have hi30 : 0 ≤ i ∧ i < 30 := ⟨h0, Int32.lt_of_lt_of_le ci y17.2⟩
    have nc : ¬ Y 0 17 ≤ i := Int32.not_le.mpr ci
    have hwJ : ∀ a o : Nat, a < 30 → o < 30 → (bq (J (C + 36) a) o = true ↔ ¬ Y 47 (30 * a + o) = 0) := fun a o ha ho => by
      rw [hq.2.2 _ _ (by omega) (by omega) (by omega) (by omega) (by omega) (by omega) (by omega)]
      exact hw a o ha ho
    have hcall := ce_soundWishes (d := d + 34) (n := n) (t := t) hT hcJ hwJ (q := i) ⟨h0, ci⟩ (P := fun r' h' => a_at (d + 40) (a_xm a_m150) 23 [some (a_rf (C + 35)), some (.int i), u] ((r'.toList ++ [.int i]) ++ [a_rf (C + 37)]) h' P) (fun w J2 j2 h3 h4 => by
      have hS2 := j2.1.s
      have q3 : fqP C c n t K L I R (a_ui J2 (C + 37) i.toNatClampNeg w) R := fq_T (fq_C hq j2) (sT_Circle_sound j2.1) (fun x j _ _ _ a4 _ _ _ => by rw [ui_ap, if_neg (fun e => a4 e.1)])
      have hg := ih hi30.2 _ u t2 t3 q3 (fun q x1 x2 => by
        rw [t4] at x2
        by_cases e : q = i
        · rw [e]
          refine ⟨fun mv k hk => ?_, fun mv => ?_⟩
          · rw [ui_ap, if_pos ⟨rfl, rfl⟩]
            exact h3 mv k hk
          · rw [ui_ap, if_pos ⟨rfl, rfl⟩]
            exact h4 mv
        · have ne : ¬ q.toNatClampNeg = i.toNatClampNeg := fun r => e (cl_inj x1 h0 r)
          have := hs q x1 (by omega)
          have f := j2.2 (C + 37) q.toNatClampNeg (by omega) (by omega)
          refine ⟨fun mv k hk => ?_, fun mv => ?_⟩
          · rw [ui_ap, if_neg (fun r => ne r.2), f]
            exact this.1 mv k hk
          · rw [ui_ap, if_neg (fun r => ne r.2), f]
            exact this.2 mv)
      clear ih hP hc hcJ hwJ hw
      simp only [q150_23, q150_24, q150_27, as_nil, as_i, as_r, Nat.reduceAdd, Nat.reduceLeDiff, z_eq0, z_eq1, z_or, z_em, Classical.not_not, not_false_eq_true, not_true_eq_false, true_and, and_true, false_and, and_false, and_self, true_implies, false_implies, implies_true, Option.toList_some, Option.toList_none, List.cons_append, List.nil_append, Nat.add_eq_zero_iff, a_nl_i, a_nl_r, a_nl_n, true_or, or_true, eq_self, a_isRA_22, a_isRA_24, a_isRA_32, a_isA_20, ok_4, ok_5, ok_6, ok_7, ok_9, ok_20, ok_21, ok_30, ok_50, ok_180, ok_192, ok_200, ui_ap, cc_ne, cc_n0, cc_0n, Nat.reduceEqDiff, reduceIte, if_true, if_false, k_37 hS2, l_37 hS2, z_37]
      try simp only [true_and, and_true, true_implies, false_implies, implies_true, not_true_eq_false, not_false_eq_true]
      first
        | exact ⟨hi30, hg⟩
        | exact hg
        | grind)
    clear ih hP hc hcJ hwJ hw
    simp only [q150_3, q150_4, q150_7, q150_10, q150_13, q150_14, q150_17, q150_18, q150_19, q150_20, k_35 hS, z_35, r_35_0 hS, k_14 hS, z_14, r_35_2 hS, k_37 hS, l_37 hS, z_37, as_nil, as_i, as_r, Nat.reduceAdd, Nat.reduceLeDiff, z_eq0, z_eq1, z_or, z_em, Classical.not_not, not_false_eq_true, not_true_eq_false, true_and, and_true, false_and, and_false, and_self, true_implies, false_implies, implies_true, Option.toList_some, Option.toList_none, List.cons_append, List.nil_append, Nat.add_eq_zero_iff, a_nl_i, a_nl_r, a_nl_n, true_or, or_true, eq_self, a_isRA_22, a_isRA_24, a_isRA_32, a_isA_20, ok_4, ok_5, ok_6, ok_7, ok_9, ok_20, ok_21, ok_30, ok_50, ok_180, ok_192, ok_200, ui_ap, cc_ne, cc_n0, cc_0n, Nat.reduceEqDiff, reduceIte, if_true, if_false, e4, nc]
    try simp only [true_and, and_true, true_implies, false_implies, implies_true, not_true_eq_false, not_false_eq_true]
    first
      | exact hcall
      | grind
  · have e := (lp_end h1 ci).2
    have c' : Y 0 17 ≤ i := Int32.not_lt.mp ci
    have hg := le_find_32 (d := d) (n := n) (t := t) (P := P) hT0 hc hse hP 2 (by decide) J R u (by decide) hq (by rw [← e]; exact hs) (fun z t z1 z2 => by
      have z2 : z < 2 := z2
      omega)
    clear ih hP hc hcJ hw
    simp only [q150_3, q150_4, q150_7, q150_10, q150_30, q150_31, k_35 hS, z_35, r_35_0 hS, k_14 hS, z_14, as_nil, as_i, as_r, Nat.reduceAdd, Nat.reduceLeDiff, z_eq0, z_eq1, z_or, z_em, Classical.not_not, not_false_eq_true, not_true_eq_false, true_and, and_true, false_and, and_false, and_self, true_implies, false_implies, implies_true, Option.toList_some, Option.toList_none, List.cons_append, List.nil_append, Nat.add_eq_zero_iff, a_nl_i, a_nl_r, a_nl_n, true_or, or_true, eq_self, a_isRA_22, a_isRA_24, a_isRA_32, a_isA_20, ok_4, ok_5, ok_6, ok_7, ok_9, ok_20, ok_21, ok_30, ok_50, ok_180, ok_192, ok_200, ui_ap, cc_ne, cc_n0, cc_0n, Nat.reduceEqDiff, reduceIte, if_true, if_false, e4, c']
    try simp only [true_and, and_true, true_implies, false_implies, implies_true, not_true_eq_false, not_false_eq_true]
    first
      | exact hg
      | grind
theorem ce_find (hH : cH C c n t K L I R) (hu : cuP C K L I R Y) (hP : ∀ (v : Int32) J R1 g, fqP C c n t K L I R J R1 → J (C + 35) 7 = v → (v = 0 ∨ (2 ≤ v ∧ v ≤ 5)) → rgR Y v.toNatClampNeg g → mbP C R1 Y v.toNatClampNeg g → P (some (.int v)) (n, t, K, L, J, R1)) : a_does (d + 41) 150 [a_rf (C + 35)] (n, t, K, L, I, R) P := by
  have hS := hH.1.s
  have hw := hu.2.2.1.1.2.2.2.2
  have hl := fun u => le_find_2 (d := d) (n := n) (t := t) (P := P) hH.1 hu.1 hw hu.2.1 hP 0 (by decide) I u (by decide) hu.1.2.2.2.2.2.2.2.2.1.1 (fq_refl hH) (fun q _ x2 => absurd x2 (Nat.not_lt_zero _))
  clear hP hu hw
  rw [a_enter1 (M := a_m150) rfl (a_cat_rf a_cat_nil) (show 1 ≤ 3 by decide)]
  show a_at _ (a_xm a_m150) 0 [some (a_rf (C + 35)), none, none] [] _ _
  simp only [q150_0, q150_1, as_nil, as_i, as_r, Nat.reduceAdd, Nat.reduceLeDiff, z_eq0, z_eq1, z_or, z_em, Classical.not_not, not_false_eq_true, not_true_eq_false, true_and, and_true, false_and, and_false, and_self, true_implies, false_implies, implies_true, Option.toList_some, Option.toList_none, List.cons_append, List.nil_append, Nat.add_eq_zero_iff, a_nl_i, a_nl_r, a_nl_n, true_or, or_true, eq_self, a_isRA_22, a_isRA_24, a_isRA_32, a_isA_20, ok_4, ok_5, ok_6, ok_7, ok_9, ok_20, ok_21, ok_30, ok_50, ok_180, ok_192, ok_200, ui_ap, cc_ne, cc_n0, cc_0n, Nat.reduceEqDiff, reduceIte, if_true, if_false]
  exact hl _
/-- what ring answers -/
def rgV (m : Nat) (g : Nat → Int32) (w : Int32) : Int32 := if w = -1 then Int32.ofNat m else if w < Int32.ofNat m then g w.toNatClampNeg else -9
def rgO (Y : Nat → Nat → Int32) (w v : Int32) : Prop := (w < -1 ∧ v = -2) ∨ (¬ w < -1 ∧ ∃ m g, rgR Y m g ∧ v = rgV m g w)
theorem rgV_u {m z : Nat} {g t : Nat → Int32} {w : Int32} (hw : ¬ w < -1) (h : rgR Y m g) (h2 : rgR Y z t) : rgV z t w = rgV m g w := by
  obtain ⟨e1, e2⟩ := rgR_u h h2
  have m5 : m ≤ 5 := by
    rcases h with ⟨h, -⟩ | ⟨h, -⟩ <;> omega
  subst e1
  unfold rgV
  by_cases c1 : w = -1
  · rw [if_pos c1, if_pos c1]
  · rw [if_neg c1, if_neg c1]
    by_cases c2 : w < Int32.ofNat z
    · have w0 : 0 ≤ w := by clear h h2 e2 c2; grind
      have ez : (Int32.ofNat z).toNatClampNeg = z := (on_p (p := z) (by omega)).2.2.1
      have := cl_lt w0 c2
      rw [if_pos c2, if_pos c2, e2 _ (by omega)]
    · rw [if_neg c2, if_neg c2]
theorem rgO_u {w v u : Int32} (h : rgO Y w v) (h2 : rgO Y w u) : v = u := by
  rcases h with ⟨h, e⟩ | ⟨h, m, g, r, e⟩
  · rcases h2 with ⟨q, f⟩ | ⟨q, z, t, s, f⟩
    · rw [e, f]
    · exact absurd h q
  · rcases h2 with ⟨q, f⟩ | ⟨q, z, t, s, f⟩
    · exact absurd q h
    · rw [e, f]
      exact rgV_u h s r
theorem ce_memberAt (hT : cT C K L I R) (hc : cpP C K L I R Y) {g : Nat → Int32} {q z : Int32} (hz : 0 ≤ z ∧ z ≤ 5) (es : I (C + 35) 7 = z) (hb : mbP C R Y z.toNatClampNeg g) (hP : P (some (.int (if 0 ≤ q ∧ q < z then g q.toNatClampNeg else -9))) (n, t, K, L, I, R)) : a_does (d + 1) 157 [a_rf (C + 35), .int q] (n, t, K, L, I, R) P := by
  have hS := hT.s
  by_cases c : 0 ≤ q ∧ q < z
  · have q5 : 0 ≤ q ∧ q < 5 := ⟨c.1, Int32.lt_of_lt_of_le c.2 hz.2⟩
    obtain ⟨⟨g0, g1⟩, er⟩ := hb q.toNatClampNeg (cl_lt c.1 c.2)
    obtain ⟨-, ⟨ha, a0, a4⟩, -⟩ := aa_of hc g0 g1
    have nq : ¬ q < 0 := Int32.not_lt.mpr c.1
    have nz : ¬ z ≤ q := Int32.not_le.mpr c.2
    rw [if_pos c] at hP
    clear hc hb
    rw [a_enter1 (M := a_m157) rfl (a_cat_rf (a_cat_int a_cat_nil)) (show 2 ≤ 2 by decide)]
    show a_at _ (a_xm a_m157) 0 [some (a_rf (C + 35)), some (.int q)] [] _ _
    simp only [q157_0, q157_1, q157_4, q157_5, q157_6, q157_9, q157_12, q157_13, q157_16, q157_17, q157_18, q157_21, q157_24, q157_26, k_35 hS, z_35, r_35_3 hS, k_38 hS, l_38 hS, z_38, as_nil, as_i, as_r, Nat.reduceAdd, Nat.reduceLeDiff, z_eq0, z_eq1, z_or, z_em, Classical.not_not, not_false_eq_true, not_true_eq_false, true_and, and_true, false_and, and_false, and_self, true_implies, false_implies, implies_true, Option.toList_some, Option.toList_none, List.cons_append, List.nil_append, Nat.add_eq_zero_iff, a_nl_i, a_nl_r, a_nl_n, true_or, or_true, eq_self, a_isRA_22, a_isRA_24, a_isRA_32, a_isA_20, ok_4, ok_5, ok_6, ok_7, ok_9, ok_20, ok_21, ok_30, ok_50, ok_180, ok_192, ok_200, es, er, ha, a0, a4, q5, nq, nz]
    try simp only [true_and, and_true, true_implies, false_implies, implies_true, not_true_eq_false, not_false_eq_true]
    first
      | exact hP
      | exact ⟨q5, hP⟩
      | grind
  · rw [if_neg c] at hP
    clear hc hb
    rw [a_enter1 (M := a_m157) rfl (a_cat_rf (a_cat_int a_cat_nil)) (show 2 ≤ 2 by decide)]
    show a_at _ (a_xm a_m157) 0 [some (a_rf (C + 35)), some (.int q)] [] _ _
    simp only [q157_0, q157_1, q157_4, q157_5, q157_6, q157_9, q157_12, q157_13, q157_16, q157_17, q157_18, q157_21, q157_24, q157_26, k_35 hS, z_35, r_35_3 hS, k_38 hS, l_38 hS, z_38, as_nil, as_i, as_r, Nat.reduceAdd, Nat.reduceLeDiff, z_eq0, z_eq1, z_or, z_em, Classical.not_not, not_false_eq_true, not_true_eq_false, true_and, and_true, false_and, and_false, and_self, true_implies, false_implies, implies_true, Option.toList_some, Option.toList_none, List.cons_append, List.nil_append, Nat.add_eq_zero_iff, a_nl_i, a_nl_r, a_nl_n, true_or, or_true, eq_self, a_isRA_22, a_isRA_24, a_isRA_32, a_isA_20, ok_4, ok_5, ok_6, ok_7, ok_9, ok_20, ok_21, ok_30, ok_50, ok_180, ok_192, ok_200, es]
    try simp only [true_and, and_true, true_implies, false_implies, implies_true, not_true_eq_false, not_false_eq_true]
    grind
theorem ge_ring (hH : cH C c (n + 1) t K L I R) (hu : cuP C K L I R Y) {w : Int32} (hP : ∀ v J R1, rgO Y w v → cH C c (n + 1) t K L J R1 → cuP C K L J R1 Y → P (some (.int v)) (n + 1, t, K, L, J, R1)) : a_does (d + 70) 149 [a_rf C, .int w] (n + 1, t, K, L, I, R) P := by
  have hS := hH.1.s
  by_cases c1 : w < -1
  · have hl := ge_refuse (d := d + 68) (v := -2) hH hu (P := fun r' h' => a_at (d + 69) (a_xm a_m149) 11 [some (a_rf C), some (.int w), none] (r'.toList ++ []) h' P) (fun J z u2 => by
      have hS2 := z.1.s
      have hp := hP (-2) J R (Or.inl ⟨c1, rfl⟩) z u2
      clear hP hu
      simp only [q149_11, as_nil, as_i, as_r, Nat.reduceAdd, Nat.reduceLeDiff, z_eq0, z_eq1, z_or, z_em, Classical.not_not, not_false_eq_true, not_true_eq_false, true_and, and_true, false_and, and_false, and_self, true_implies, false_implies, implies_true, Option.toList_some, Option.toList_none, List.cons_append, List.nil_append, Nat.add_eq_zero_iff, a_nl_i, a_nl_r, a_nl_n, true_or, or_true, eq_self, a_isRA_22, a_isRA_24, a_isRA_32, a_isA_20, ok_4, ok_5, ok_6, ok_7, ok_9, ok_20, ok_21, ok_30, ok_50, ok_180, ok_192, ok_200]
      exact hp)
    clear hP hu
    rw [a_enter1 (M := a_m149) rfl (a_cat_rf (a_cat_int a_cat_nil)) (show 2 ≤ 3 by decide)]
    show a_at _ (a_xm a_m149) 0 [some (a_rf C), some (.int w), none] [] _ _
    simp only [q149_0, q149_1, q149_2, q149_5, q149_6, q149_8, k_0 hS, z_C hS, as_nil, as_i, as_r, Nat.reduceAdd, Nat.reduceLeDiff, z_eq0, z_eq1, z_or, z_em, Classical.not_not, not_false_eq_true, not_true_eq_false, true_and, and_true, false_and, and_false, and_self, true_implies, false_implies, implies_true, Option.toList_some, Option.toList_none, List.cons_append, List.nil_append, Nat.add_eq_zero_iff, a_nl_i, a_nl_r, a_nl_n, true_or, or_true, eq_self, a_isRA_22, a_isRA_24, a_isRA_32, a_isA_20, ok_4, ok_5, ok_6, ok_7, ok_9, ok_20, ok_21, ok_30, ok_50, ok_180, ok_192, ok_200, c1]
    try simp only [true_and, and_true, true_implies, false_implies, implies_true, not_true_eq_false, not_false_eq_true]
    first
      | exact hl
      | grind
  · have hl := ce_find (d := d + 28) (n := n + 1) hH hu (P := fun r' h' => a_at (d + 69) (a_xm a_m149) 19 [some (a_rf C), some (.int w), none] (r'.toList ++ []) h' P) (fun v J R1 g q es hv hr hb => by
      have hT2 := q.1.1
      have hS := hT2.s
      have hu2 := fq_cu hH hu q
      have v05 : 0 ≤ v ∧ v ≤ 5 := by clear hP hu hu2 hr hb q; grind
      have eo : v = Int32.ofNat v.toNatClampNeg := on_cl v05.1
      by_cases c2 : w = -1
      · have hp := hP v J R1 (Or.inr ⟨c1, _, g, hr, by unfold rgV; rw [if_pos c2]; exact eo⟩) q.1 hu2
        clear hP hu hu2 hr hb q
        simp only [q149_19, q149_20, q149_21, q149_22, q149_25, q149_26, q149_37, as_nil, as_i, as_r, Nat.reduceAdd, Nat.reduceLeDiff, z_eq0, z_eq1, z_or, z_em, Classical.not_not, not_false_eq_true, not_true_eq_false, true_and, and_true, false_and, and_false, and_self, true_implies, false_implies, implies_true, Option.toList_some, Option.toList_none, List.cons_append, List.nil_append, Nat.add_eq_zero_iff, a_nl_i, a_nl_r, a_nl_n, true_or, or_true, eq_self, a_isRA_22, a_isRA_24, a_isRA_32, a_isA_20, ok_4, ok_5, ok_6, ok_7, ok_9, ok_20, ok_21, ok_30, ok_50, ok_180, ok_192, ok_200, c2]
        try simp only [true_and, and_true, true_implies, false_implies, implies_true, not_true_eq_false, not_false_eq_true]
        first
          | exact hp
          | grind
      · have w0 : 0 ≤ w := by clear hP hu hu2 hr hb q; grind
        have hp := hP _ J R1 (Or.inr ⟨c1, _, g, hr, rfl⟩) q.1 hu2
        unfold rgV at hp
        rw [if_neg c2, ← eo] at hp
        have hm := ce_memberAt (d := d + 68) (n := n + 1) (t := t) (q := w) hT2 hu2.1 v05 es hb (P := fun r' h' => a_at (d + 69) (a_xm a_m149) 37 [some (a_rf C), some (.int w), some (.int v)] (r'.toList ++ []) h' P) (by
          by_cases c3 : w < v
          · rw [if_pos c3] at hp
            rw [if_pos ⟨w0, c3⟩]
            clear hP hu hu2 hr hb q
            simp only [q149_37, as_nil, as_i, as_r, Nat.reduceAdd, Nat.reduceLeDiff, z_eq0, z_eq1, z_or, z_em, Classical.not_not, not_false_eq_true, not_true_eq_false, true_and, and_true, false_and, and_false, and_self, true_implies, false_implies, implies_true, Option.toList_some, Option.toList_none, List.cons_append, List.nil_append, Nat.add_eq_zero_iff, a_nl_i, a_nl_r, a_nl_n, true_or, or_true, eq_self, a_isRA_22, a_isRA_24, a_isRA_32, a_isA_20, ok_4, ok_5, ok_6, ok_7, ok_9, ok_20, ok_21, ok_30, ok_50, ok_180, ok_192, ok_200]
            exact hp
          · rw [if_neg c3] at hp
            rw [if_neg (fun q => c3 q.2)]
            clear hP hu hu2 hr hb q
            simp only [q149_37, as_nil, as_i, as_r, Nat.reduceAdd, Nat.reduceLeDiff, z_eq0, z_eq1, z_or, z_em, Classical.not_not, not_false_eq_true, not_true_eq_false, true_and, and_true, false_and, and_false, and_self, true_implies, false_implies, implies_true, Option.toList_some, Option.toList_none, List.cons_append, List.nil_append, Nat.add_eq_zero_iff, a_nl_i, a_nl_r, a_nl_n, true_or, or_true, eq_self, a_isRA_22, a_isRA_24, a_isRA_32, a_isA_20, ok_4, ok_5, ok_6, ok_7, ok_9, ok_20, ok_21, ok_30, ok_50, ok_180, ok_192, ok_200]
            exact hp)
        clear hP hu hu2 hr hb q hp
        simp only [q149_19, q149_20, q149_21, q149_22, q149_25, q149_26, q149_29, q149_30, q149_33, q149_34, k_0 hS, z_C hS, r_0_7 hS, k_35 hS, z_35, as_nil, as_i, as_r, Nat.reduceAdd, Nat.reduceLeDiff, z_eq0, z_eq1, z_or, z_em, Classical.not_not, not_false_eq_true, not_true_eq_false, true_and, and_true, false_and, and_false, and_self, true_implies, false_implies, implies_true, Option.toList_some, Option.toList_none, List.cons_append, List.nil_append, Nat.add_eq_zero_iff, a_nl_i, a_nl_r, a_nl_n, true_or, or_true, eq_self, a_isRA_22, a_isRA_24, a_isRA_32, a_isA_20, ok_4, ok_5, ok_6, ok_7, ok_9, ok_20, ok_21, ok_30, ok_50, ok_180, ok_192, ok_200, c2]
        try simp only [true_and, and_true, true_implies, false_implies, implies_true, not_true_eq_false, not_false_eq_true]
        first
          | exact hm
          | grind)
    clear hP hu
    rw [a_enter1 (M := a_m149) rfl (a_cat_rf (a_cat_int a_cat_nil)) (show 2 ≤ 3 by decide)]
    show a_at _ (a_xm a_m149) 0 [some (a_rf C), some (.int w), none] [] _ _
    simp only [q149_0, q149_1, q149_2, q149_5, q149_6, q149_8, q149_11, q149_12, q149_13, q149_16, k_0 hS, z_C hS, r_0_7 hS, k_35 hS, z_35, as_nil, as_i, as_r, Nat.reduceAdd, Nat.reduceLeDiff, z_eq0, z_eq1, z_or, z_em, Classical.not_not, not_false_eq_true, not_true_eq_false, true_and, and_true, false_and, and_false, and_self, true_implies, false_implies, implies_true, Option.toList_some, Option.toList_none, List.cons_append, List.nil_append, Nat.add_eq_zero_iff, a_nl_i, a_nl_r, a_nl_n, true_or, or_true, eq_self, a_isRA_22, a_isRA_24, a_isRA_32, a_isA_20, ok_4, ok_5, ok_6, ok_7, ok_9, ok_20, ok_21, ok_30, ok_50, ok_180, ok_192, ok_200, c1]
    try simp only [true_and, and_true, true_implies, false_implies, implies_true, not_true_eq_false, not_false_eq_true]
    first
      | exact hl
      | grind
end ZZ0
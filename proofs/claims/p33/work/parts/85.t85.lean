/-! the class: all is put back; canTurn -/
section ZV0
variable {d n t C c : Nat} {K L : Nat → Nat} {I I0 J J0 J1 J2 : Nat → Nat → Int32} {R : Nat → Nat → Nat} {P : Option Value → AH → Prop}
variable {Y Z W : Nat → Nat → Int32} {m : Nat} {g : Nat → Int32}
theorem le_restore_44 (hT0 : cT C K L I R) (hc : cpP C K L I R Y) (hse : seP C R Y) (tp : tuP C R Y m g) (kv : ∀ k, k < m → (I (C + 39) k = Y 20 (g k).toNatClampNeg ∧ I (C + 40) k = (Y 21 (g k).toNatClampNeg)) ∧ ∀ y, y < (Y 10 (g 0).toNatClampNeg).toNatClampNeg → I (C + 41) (4 * k + y) = I ((R (C + 16) (Y 20 (g k).toNatClampNeg).toNatClampNeg) + 2) ((Y 21 (g k).toNatClampNeg).toNatClampNeg + y)) {i : Int32} (hi : 0 ≤ i ∧ i < 5) (him : i.toNatClampNeg < m) (hP : ∀ J, cT C K L J R → qF C R Y g (i.toNatClampNeg + 1) m I J → P none (n, t, K, L, J, R)) : ∀ x : Int32, x ≤ 4 → ∀ J, 0 ≤ x → x ≤ (Y 10 (g 0).toNatClampNeg) → cT C K L J R → (∀ y j, ¬ y = C + 9 → ¬ y = C + 10 → (∀ k, i.toNatClampNeg + 1 ≤ k → k < m → ¬ plc C R Y g k y j) → ¬ ((y = (R (C + 16) (Y 20 (g i.toNatClampNeg).toNatClampNeg).toNatClampNeg) + 1 ∨ y = (R (C + 16) (Y 20 (g i.toNatClampNeg).toNatClampNeg).toNatClampNeg) + 2) ∧ (Y 21 (g i.toNatClampNeg).toNatClampNeg).toNatClampNeg + x.toNatClampNeg ≤ j ∧ j < (Y 21 (g i.toNatClampNeg).toNatClampNeg).toNatClampNeg + (Y 10 (g 0).toNatClampNeg).toNatClampNeg) → J y j = I y j) → a_at (d + 1) (a_xm a_m155) 44 [some (a_rf (C + 35)), some (.int i), some (a_rf (R (C + 15) (g i.toNatClampNeg).toNatClampNeg)), some (a_rf (R (C + 16) (Y 20 (g i.toNatClampNeg).toNatClampNeg).toNatClampNeg)), some (.int x)] [] (n, t, K, L, J, R) P := by
  obtain ⟨⟨pa, p6⟩, ⟨p21, p199⟩, psl, pl, e10⟩ := tp_pl hc tp him
  obtain ⟨⟨kb, kb0⟩, ⟨eB2, eB3⟩, ⟨w1, w2, w3⟩, ⟨s1, s2, s3⟩⟩ := tp_B hT0 hc hse tp him
  obtain ⟨⟨a0, a1⟩, -, er⟩ := tp.1 _ him
  obtain ⟨ai, ⟨ha, an0, a4n⟩, am, al⟩ := aa_of hc a0 a1
  have hx96 := (hT0.g_ask _ ha).1
  have who := (hc.2.1.2.2.2.1 _ a0 a1 pa).2.2.2
  have hv := kv _ him
  refine up_ind 4 (fun x hk ih => ?_)
  intro J q0 q1 hT hJ
  have hS := hT.s
  have hq : qF C R Y g i.toNatClampNeg m I J := fun y j n1 n2 n3 => hJ y j n1 n2 (fun k h1 h2 => n3 k (by omega) h2) (fun q => n3 i.toNatClampNeg (Nat.le_refl _) him (Or.inl ⟨q.1, by omega, q.2.2⟩))
  have f2 : J (R (C + 15) (g i.toNatClampNeg).toNatClampNeg) 2 = (Y 10 (g 0).toNatClampNeg) := by rw [qF_a hT0 hc hse tp hq ha (by decide), al.1.2.2.1, e10]
  have f4 : J (R (C + 15) (g i.toNatClampNeg).toNatClampNeg) 4 = g i.toNatClampNeg := by rw [qF_a hT0 hc hse tp hq ha (by decide)]; exact a4n
  have f40 : J (C + 40) i.toNatClampNeg = (Y 21 (g i.toNatClampNeg).toNatClampNeg) := by rw [qF_c hT0 hc hse tp hq (k := 40) (by omega)]; exact hv.1.2
  have hexit : ¬ x < (Y 10 (g 0).toNatClampNeg) → P none (n, t, K, L, J, R) := fun w => by
    refine hP J hT (fun y j n1 n2 n3 => hJ y j n1 n2 n3 (fun q => ?_))
    have e : (Y 10 (g 0).toNatClampNeg) = x := by clear ih hP hJ hq kv hv who; grind
    rw [e] at q
    omega
  have hgo : x < (Y 10 (g 0).toNatClampNeg) → a_does (d + 1) 52 [a_rf (R (C + 16) (Y 20 (g i.toNatClampNeg).toNatClampNeg).toNatClampNeg), .int ((Y 21 (g i.toNatClampNeg).toNatClampNeg) + x), .int (g i.toNatClampNeg), .int (J (C + 41) (i * 4 + x).toNatClampNeg)] (n, t, K, L, J, R) (fun r h' => a_at (d + 1) (a_xm a_m155) 85 [some (a_rf (C + 35)), some (.int i), some (a_rf (R (C + 15) (g i.toNatClampNeg).toNatClampNeg)), some (a_rf (R (C + 16) (Y 20 (g i.toNatClampNeg).toNatClampNeg).toNatClampNeg)), some (.int x)] (r.toList ++ []) h' P) := fun w => by
    obtain ⟨t1, t2, t3, t4⟩ := lp_st q0 w
    have hx4 : 0 ≤ x ∧ x < 4 := ⟨q0, Int32.lt_of_lt_of_le w pl.2⟩
    have e20 := ix_20 hi hx4
    obtain ⟨es, -⟩ := sh_at (i := x) p21 (Int32.le_trans p199 (by decide)) ⟨q0, Int32.le_of_lt hx4.2⟩
    have hsh := ((sh_lt ⟨p21, Int32.le_trans p199 (by decide)⟩ ⟨Int32.le_trans (by decide) pl.1, pl.2⟩ psl ⟨q0, q1⟩).1 w).1
    have xl : x.toNatClampNeg < (Y 10 (g 0).toNatClampNeg).toNatClampNeg := cl_lt q0 w
    have est : J (C + 41) (i * 4 + x).toNatClampNeg = I ((R (C + 16) (Y 20 (g i.toNatClampNeg).toNatClampNeg).toNatClampNeg) + 2) ((Y 21 (g i.toNatClampNeg).toNatClampNeg).toNatClampNeg + x.toNatClampNeg) := by
      rw [qF_c hT0 hc hse tp hq (k := 41) (by omega), e20]
      exact hv.2 _ xl
    have ewh : I ((R (C + 16) (Y 20 (g i.toNatClampNeg).toNatClampNeg).toNatClampNeg) + 1) ((Y 21 (g i.toNatClampNeg).toNatClampNeg).toNatClampNeg + x.toNatClampNeg) = g i.toNatClampNeg := by
      have := (who x q0 (by rw [e10]; exact w)).1
      unfold whC at this
      rw [eB2, es] at this
      exact this
    refine cp_settle kb hT hsh ?_
    rw [eB2, eB3, est, es]
    have hg := ih hx4.2 (a_ui (a_ui J ((R (C + 16) (Y 20 (g i.toNatClampNeg).toNatClampNeg).toNatClampNeg) + 1) ((Y 21 (g i.toNatClampNeg).toNatClampNeg).toNatClampNeg + x.toNatClampNeg) (g i.toNatClampNeg)) ((R (C + 16) (Y 20 (g i.toNatClampNeg).toNatClampNeg).toNatClampNeg) + 2) ((Y 21 (g i.toNatClampNeg).toNatClampNeg).toNatClampNeg + x.toNatClampNeg) (I ((R (C + 16) (Y 20 (g i.toNatClampNeg).toNatClampNeg).toNatClampNeg) + 2) ((Y 21 (g i.toNatClampNeg).toNatClampNeg).toNatClampNeg + x.toNatClampNeg))) t2 t3 (dL_arr (dL_arr (dL_refl hT) w1 w2) s1 s2).1 (fun y j n1 n2 n3 n4 => by
      rw [t4] at n4
      by_cases c2 : y = (R (C + 16) (Y 20 (g i.toNatClampNeg).toNatClampNeg).toNatClampNeg) + 2 ∧ j = (Y 21 (g i.toNatClampNeg).toNatClampNeg).toNatClampNeg + x.toNatClampNeg
      · rw [ui_ap, if_pos c2, c2.1, c2.2]
      · rw [ui_ap, if_neg c2]
        by_cases c1 : y = (R (C + 16) (Y 20 (g i.toNatClampNeg).toNatClampNeg).toNatClampNeg) + 1 ∧ j = (Y 21 (g i.toNatClampNeg).toNatClampNeg).toNatClampNeg + x.toNatClampNeg
        · rw [ui_ap, if_pos c1, c1.1, c1.2]
          exact ewh.symm
        · rw [ui_ap, if_neg c1]
          exact hJ y j n1 n2 n3 (by omega))
    clear ih hP hJ hexit hc tp kv hv who
    simp only [q155_85, q155_88, as_nil, as_i, as_r, Nat.reduceAdd, Nat.reduceLeDiff, z_eq0, z_eq1, z_or, z_em, Classical.not_not, not_false_eq_true, not_true_eq_false, true_and, and_true, false_and, and_false, and_self, true_implies, false_implies, implies_true, Option.toList_some, Option.toList_none, List.cons_append, List.nil_append, Nat.add_eq_zero_iff, a_nl_i, a_nl_r, a_nl_n, true_or, or_true, eq_self, a_isRA_22, a_isRA_24, a_isRA_32, a_isA_20, ok_4, ok_5, ok_6, ok_7, ok_9, ok_20, ok_21, ok_30, ok_50, ok_180, ok_192, ok_200]
    exact hg
  clear ih hP hJ hc tp kv hv who hq
  rw [q155_44]
  simp only [q155_46, q155_47, q155_50, q155_53, q155_54, k_35 hS, z_35, as_nil, as_i, as_r, Nat.reduceAdd, Nat.reduceLeDiff, z_eq0, z_eq1, z_or, z_em, Classical.not_not, not_false_eq_true, not_true_eq_false, true_and, and_true, false_and, and_false, and_self, true_implies, false_implies, implies_true, Option.toList_some, Option.toList_none, List.cons_append, List.nil_append, Nat.add_eq_zero_iff, a_nl_i, a_nl_r, a_nl_n, true_or, or_true, eq_self, a_isRA_22, a_isRA_24, a_isRA_32, a_isA_20, ok_4, ok_5, ok_6, ok_7, ok_9, ok_20, ok_21, ok_30, ok_50, ok_180, ok_192, ok_200, ha, an0, f2, kb, kb0]
  refine ⟨fun h => ?_, fun h => ?_⟩
  · have := hexit (Int32.not_lt.mpr h)
    simp only [q155_91, as_nil, as_i, as_r, Nat.reduceAdd, Nat.reduceLeDiff, z_eq0, z_eq1, z_or, z_em, Classical.not_not, not_false_eq_true, not_true_eq_false, true_and, and_true, false_and, and_false, and_self, true_implies, false_implies, implies_true, Option.toList_some, Option.toList_none, List.cons_append, List.nil_append, Nat.add_eq_zero_iff, a_nl_i, a_nl_r, a_nl_n, true_or, or_true, eq_self, a_isRA_22, a_isRA_24, a_isRA_32, a_isA_20, ok_4, ok_5, ok_6, ok_7, ok_9, ok_20, ok_21, ok_30, ok_50, ok_180, ok_192, ok_200]
    exact this
  · have h := Int32.not_le.mp h
    have h20 := ix4 hi ⟨q0, Int32.lt_of_lt_of_le h pl.2⟩
    have hgo := hgo h
    simp only [q155_57, q155_58, q155_59, q155_62, q155_63, q155_64, q155_66, q155_67, q155_68, q155_71, q155_72, q155_75, q155_76, q155_77, q155_78, q155_80, q155_81, q155_82, k_35 hS, z_35, r_35_5 hS, k_40 hS, l_40 hS, z_40, r_35_6 hS, k_41 hS, l_41 hS, z_41, as_nil, as_i, as_r, Nat.reduceAdd, Nat.reduceLeDiff, z_eq0, z_eq1, z_or, z_em, Classical.not_not, not_false_eq_true, not_true_eq_false, true_and, and_true, false_and, and_false, and_self, true_implies, false_implies, implies_true, Option.toList_some, Option.toList_none, List.cons_append, List.nil_append, Nat.add_eq_zero_iff, a_nl_i, a_nl_r, a_nl_n, true_or, or_true, eq_self, a_isRA_22, a_isRA_24, a_isRA_32, a_isA_20, ok_4, ok_5, ok_6, ok_7, ok_9, ok_20, ok_21, ok_30, ok_50, ok_180, ok_192, ok_200, ha, an0, f4, f40, kb, kb0]
    try simp only [true_and, and_true, true_implies, false_implies, implies_true, not_true_eq_false, not_false_eq_true]
    first
      | exact ⟨hi, h20, hgo⟩
      | exact ⟨hi, h20.1, h20.2, hgo⟩
theorem cx_restore (hT0 : cT C K L I R) (hc : cpP C K L I R Y) (hse : seP C R Y) (tp : tuP C R Y m g) (kv : ∀ k, k < m → (I (C + 39) k = Y 20 (g k).toNatClampNeg ∧ I (C + 40) k = (Y 21 (g k).toNatClampNeg)) ∧ ∀ y, y < (Y 10 (g 0).toNatClampNeg).toNatClampNeg → I (C + 41) (4 * k + y) = I ((R (C + 16) (Y 20 (g k).toNatClampNeg).toNatClampNeg) + 2) ((Y 21 (g k).toNatClampNeg).toNatClampNeg + y)) {i : Int32} (hi : 0 ≤ i ∧ i < 5) (him : i.toNatClampNeg < m) (hT : cT C K L J R) (hq : qF C R Y g i.toNatClampNeg m I J) (hP : ∀ J, cT C K L J R → qF C R Y g (i.toNatClampNeg + 1) m I J → P none (n, t, K, L, J, R)) : a_does (d + 3) 155 [a_rf (C + 35), .int i] (n, t, K, L, J, R) P := by
  have hS := hT.s
  have gA := hT.g_asksR
  have gB := hT.g_benchesR
  have gX := hT.g_textsR
  obtain ⟨⟨pa, p6⟩, ⟨p21, p199⟩, psl, pl, e10⟩ := tp_pl hc tp him
  obtain ⟨⟨kb, kb0⟩, -⟩ := tp_B hT0 hc hse tp him
  obtain ⟨⟨a0, a1⟩, -, er⟩ := tp.1 _ him
  obtain ⟨ai, ⟨ha, an0, a4n⟩, am, al⟩ := aa_of hc a0 a1
  have hx96 := (hT0.g_ask _ ha).1
  have hv := kv _ him
  have f2 : J (R (C + 15) (g i.toNatClampNeg).toNatClampNeg) 2 = (Y 10 (g 0).toNatClampNeg) := by rw [qF_a hT0 hc hse tp hq ha (by decide), al.1.2.2.1, e10]
  have f39 : J (C + 39) i.toNatClampNeg = Y 20 (g i.toNatClampNeg).toNatClampNeg := by rw [qF_c hT0 hc hse tp hq (k := 39) (by omega)]; exact hv.1.1
  have f40 : J (C + 40) i.toNatClampNeg = (Y 21 (g i.toNatClampNeg).toNatClampNeg) := by rw [qF_c hT0 hc hse tp hq (k := 40) (by omega)]; exact hv.1.2
  have e5 : J (C + 14) 5 = Y 0 6 := by rw [qF_c hT0 hc hse tp hq (k := 14) (by omega)]; exact hc.2.1.1
  have b6 : Y 20 (g i.toNatClampNeg).toNatClampNeg < 6 := Int32.lt_of_lt_of_le p6 hc.2.2.2.2.2.2.2.2.2.1.2
  have hbc : 0 ≤ Y 20 (g i.toNatClampNeg).toNatClampNeg ∧ Y 20 (g i.toNatClampNeg).toNatClampNeg < Y 0 6 ∧ Y 20 (g i.toNatClampNeg).toNatClampNeg < 6 := ⟨pa, p6, b6⟩
  have hT2 : cT C K L (a_ui (a_ui J (R (C + 15) (g i.toNatClampNeg).toNatClampNeg) 13 (Y 20 (g i.toNatClampNeg).toNatClampNeg)) (R (C + 15) (g i.toNatClampNeg).toNatClampNeg) 14 (Y 21 (g i.toNatClampNeg).toNatClampNeg)) R := (dL_place (dL_refl hT) hx96 ha (fun _ => ⟨p21, p199, by rw [f2]; exact psl⟩)).1
  have n39 : ((R (C + 15) (g i.toNatClampNeg).toNatClampNeg) = C + 39) = False := eq_false (by omega)
  have n40 : ((R (C + 15) (g i.toNatClampNeg).toNatClampNeg) = C + 40) = False := eq_false (by omega)
  have m39 : (C + 39 = (R (C + 15) (g i.toNatClampNeg).toNatClampNeg)) = False := eq_false (by omega)
  have m40 : (C + 40 = (R (C + 15) (g i.toNatClampNeg).toNatClampNeg)) = False := eq_false (by omega)
  have n14 : (C + 14 = (R (C + 15) (g i.toNatClampNeg).toNatClampNeg)) = False := eq_false (by omega)
  have hg := le_restore_44 (d := d + 1) (n := n) (t := t) (P := P) hT0 hc hse tp kv hi him hP 0 (by decide) (a_ui (a_ui J (R (C + 15) (g i.toNatClampNeg).toNatClampNeg) 13 (Y 20 (g i.toNatClampNeg).toNatClampNeg)) (R (C + 15) (g i.toNatClampNeg).toNatClampNeg) 14 (Y 21 (g i.toNatClampNeg).toNatClampNeg)) (by decide) (Int32.le_trans (by decide) pl.1) hT2 (fun y j n1 n2 n3 n4 => by
    by_cases c14 : y = (R (C + 15) (g i.toNatClampNeg).toNatClampNeg) ∧ j = 14
    · rw [ui_ap, if_pos c14, c14.1, c14.2]
      exact al.2.2.2.1.2.symm
    · rw [ui_ap, if_neg c14]
      by_cases c13 : y = (R (C + 15) (g i.toNatClampNeg).toNatClampNeg) ∧ j = 13
      · rw [ui_ap, if_pos c13, c13.1, c13.2]
        exact al.2.2.2.1.1.symm
      · rw [ui_ap, if_neg c13]
        refine hq y j n1 n2 (fun k k1 k2 => ?_)
        by_cases e : k = i.toNatClampNeg
        · rw [e]
          rintro (w | w)
          · exact n4 ⟨w.1, by rw [show (0 : Int32).toNatClampNeg = 0 from rfl]; omega, w.2.2⟩
          · omega
        · exact n3 k (by omega) k2)
  clear hP hc tp kv hv hq al am
  rw [a_enter1 (M := a_m155) rfl (a_cat_rf (a_cat_int a_cat_nil)) (show 2 ≤ 5 by decide)]
  show a_at _ (a_xm a_m155) 0 [some (a_rf (C + 35)), some (.int i), none, none, none] [] _ _
  simp only [q155_0, q155_1, q155_4, q155_5, q155_6, q155_7, q155_8, q155_11, q155_12, q155_15, q155_16, q155_17, q155_20, q155_21, q155_22, q155_23, q155_26, q155_27, q155_28, q155_31, q155_32, q155_33, q155_36, q155_37, q155_38, q155_41, q155_42, k_35 hS, z_35, r_35_3 hS, k_38 hS, l_38 hS, z_38, r_35_0 hS, k_14 hS, z_14, r_35_4 hS, k_39 hS, l_39 hS, z_39, r_35_5 hS, k_40 hS, l_40 hS, z_40, sp_benchAt hS gB, as_nil, as_i, as_r, Nat.reduceAdd, Nat.reduceLeDiff, z_eq0, z_eq1, z_or, z_em, Classical.not_not, not_false_eq_true, not_true_eq_false, true_and, and_true, false_and, and_false, and_self, true_implies, false_implies, implies_true, Option.toList_some, Option.toList_none, List.cons_append, List.nil_append, Nat.add_eq_zero_iff, a_nl_i, a_nl_r, a_nl_n, true_or, or_true, eq_self, a_isRA_22, a_isRA_24, a_isRA_32, a_isA_20, ok_4, ok_5, ok_6, ok_7, ok_9, ok_20, ok_21, ok_30, ok_50, ok_180, ok_192, ok_200, ui_ap, cc_ne, cc_n0, cc_0n, Nat.reduceEqDiff, reduceIte, if_true, if_false, er, ha, an0, f39, f40, e5, hbc, kb, kb0, hi, n39, n40, m39, m40, n14]
  try simp only [true_and, and_true, true_implies, false_implies, implies_true, not_true_eq_false, not_false_eq_true]
  first
    | exact hg
    | exact ⟨hi, hg⟩
theorem le_turn_back_168 (hT0 : cT C K L I R) (hc : cpP C K L I R Y) (hse : seP C R Y) (tp : tuP C R Y m g) {z : Int32} (ez : z.toNatClampNeg = m) (hz : 1 ≤ z ∧ z ≤ 5) (es : I (C + 35) 7 = z) (kv : ∀ k, k < m → (I (C + 39) k = Y 20 (g k).toNatClampNeg ∧ I (C + 40) k = (Y 21 (g k).toNatClampNeg)) ∧ ∀ y, y < (Y 10 (g 0).toNatClampNeg).toNatClampNeg → I (C + 41) (4 * k + y) = I ((R (C + 16) (Y 20 (g k).toNatClampNeg).toNatClampNeg) + 2) ((Y 21 (g k).toNatClampNeg).toNatClampNeg + y)) {o : Int32} (hP : ∀ J, cT C K L J R → qF C R Y g m m I J → P (some (.int (if o = z then 1 else 0))) (n, t, K, L, J, R)) : ∀ i : Int32, i ≤ 5 → ∀ J w q r, 0 ≤ i → i ≤ z → cT C K L J R → qF C R Y g i.toNatClampNeg m I J → a_at (d + 5) (a_xm a_m153) 168 [some (a_rf (C + 35)), some (.int o), some (.int i), w, q, r] [] (n, t, K, L, J, R) P := by
  refine up_ind 5 (fun i hk ih => ?_)
  intro J w q r q0 q1 hT hq
  have hS := hT.s
  have e7 : J (C + 35) 7 = z := (qF_c hT0 hc hse tp hq (k := 35) (by omega) 7).trans es
  rw [q153_168]
  by_cases c : z ≤ i
  · have e : i = z := by clear hP ih; grind
    have hp := hP J hT (by rw [e, ez] at hq; exact hq)
    clear hP ih hc
    by_cases ce : o = z
    · rw [if_pos ce] at hp
      simp only [q153_169, q153_170, q153_173, q153_187, q153_188, q153_189, q153_192, q153_195, q153_196, q153_199, q153_200, k_35 hS, z_35, as_nil, as_i, as_r, Nat.reduceAdd, Nat.reduceLeDiff, z_eq0, z_eq1, z_or, z_em, Classical.not_not, not_false_eq_true, not_true_eq_false, true_and, and_true, false_and, and_false, and_self, true_implies, false_implies, implies_true, Option.toList_some, Option.toList_none, List.cons_append, List.nil_append, Nat.add_eq_zero_iff, a_nl_i, a_nl_r, a_nl_n, true_or, or_true, eq_self, a_isRA_22, a_isRA_24, a_isRA_32, a_isA_20, ok_4, ok_5, ok_6, ok_7, ok_9, ok_20, ok_21, ok_30, ok_50, ok_180, ok_192, ok_200, e7, ce]
      refine ⟨fun _ => ?_, fun h => absurd c h⟩
      try simp only [true_and, and_true, true_implies, false_implies, implies_true, not_true_eq_false, not_false_eq_true]
      first
        | exact hp
        | exact ⟨fun h => absurd rfl h, fun _ => ⟨by decide, hp⟩⟩
        | grind
    · rw [if_neg ce] at hp
      simp only [q153_169, q153_170, q153_173, q153_187, q153_188, q153_189, q153_192, q153_195, q153_196, q153_199, q153_200, k_35 hS, z_35, as_nil, as_i, as_r, Nat.reduceAdd, Nat.reduceLeDiff, z_eq0, z_eq1, z_or, z_em, Classical.not_not, not_false_eq_true, not_true_eq_false, true_and, and_true, false_and, and_false, and_self, true_implies, false_implies, implies_true, Option.toList_some, Option.toList_none, List.cons_append, List.nil_append, Nat.add_eq_zero_iff, a_nl_i, a_nl_r, a_nl_n, true_or, or_true, eq_self, a_isRA_22, a_isRA_24, a_isRA_32, a_isA_20, ok_4, ok_5, ok_6, ok_7, ok_9, ok_20, ok_21, ok_30, ok_50, ok_180, ok_192, ok_200, e7, ce]
      refine ⟨fun _ => ?_, fun h => absurd c h⟩
      try simp only [true_and, and_true, true_implies, false_implies, implies_true, not_true_eq_false, not_false_eq_true]
      first
        | exact hp
        | exact ⟨by decide, hp⟩
        | grind
  · have h1 := Int32.not_le.mp c
    have hi : 0 ≤ i ∧ i < 5 := ⟨q0, Int32.lt_of_lt_of_le h1 hz.2⟩
    have him : i.toNatClampNeg < m := by rw [← ez]; exact cl_lt q0 h1
    obtain ⟨t1, t2, t3, t4⟩ := lp_st q0 h1
    have hcall := cx_restore (d := d + 2) (n := n) (t := t) hT0 hc hse tp kv hi him hT hq (P := fun r' h' => a_at (d + 5) (a_xm a_m153) 181 [some (a_rf (C + 35)), some (.int o), some (.int i), w, q, r] (r'.toList ++ []) h' P) (fun J2 T2 h2 => by
      have hg := ih hi.2 J2 w q r t2 t3 T2 (by rw [t4]; exact h2)
      clear ih hP hc
      simp only [q153_181, q153_184, as_nil, as_i, as_r, Nat.reduceAdd, Nat.reduceLeDiff, z_eq0, z_eq1, z_or, z_em, Classical.not_not, not_false_eq_true, not_true_eq_false, true_and, and_true, false_and, and_false, and_self, true_implies, false_implies, implies_true, Option.toList_some, Option.toList_none, List.cons_append, List.nil_append, Nat.add_eq_zero_iff, a_nl_i, a_nl_r, a_nl_n, true_or, or_true, eq_self, a_isRA_22, a_isRA_24, a_isRA_32, a_isA_20, ok_4, ok_5, ok_6, ok_7, ok_9, ok_20, ok_21, ok_30, ok_50, ok_180, ok_192, ok_200]
      exact hg)
    clear ih hP hc
    simp only [q153_169, q153_170, q153_173, q153_176, q153_177, q153_178, k_35 hS, z_35, as_nil, as_i, as_r, Nat.reduceAdd, Nat.reduceLeDiff, z_eq0, z_eq1, z_or, z_em, Classical.not_not, not_false_eq_true, not_true_eq_false, true_and, and_true, false_and, and_false, and_self, true_implies, false_implies, implies_true, Option.toList_some, Option.toList_none, List.cons_append, List.nil_append, Nat.add_eq_zero_iff, a_nl_i, a_nl_r, a_nl_n, true_or, or_true, eq_self, a_isRA_22, a_isRA_24, a_isRA_32, a_isA_20, ok_4, ok_5, ok_6, ok_7, ok_9, ok_20, ok_21, ok_30, ok_50, ok_180, ok_192, ok_200, e7]
    exact ⟨fun h => absurd h c, fun _ => hcall⟩
theorem ce_canTurn (hT : cT C K L I R) (hc : cpP C K L I R Y) (hse : seP C R Y) (tp : tuP C R Y m g) {z : Int32} (ez : z.toNatClampNeg = m) (hz : 1 ≤ z ∧ z ≤ 5) (es : I (C + 35) 7 = z) (hsu : ∀ k, k < m → suB Y (g k) (Y 20 (g (nxN m k)).toNatClampNeg) (Y 21 (g (nxN m k)).toNatClampNeg) = true) (hP : ∀ (v : Int32) J, cT C K L J R → (∀ x j, ¬ x = C + 9 → ¬ x = C + 10 → ¬ x = C + 39 → ¬ x = C + 40 → ¬ x = C + 41 → J x j = I x j) → (v = 0 ∨ v = 1) → (v = 1 ↔ ∀ k, k < m → rgF Y m g k) → P (some (.int v)) (n, t, K, L, J, R)) : a_does (d + 6) 153 [a_rf (C + 35)] (n, t, K, L, I, R) P := by
  have hS := hT.s
  have hz0 : 0 ≤ z ∧ z ≤ 5 := ⟨Int32.le_trans (by decide) hz.1, hz.2⟩
  have hmain := ce_keep (d := d + 3) (n := n) (t := t) hT hc hse tp ez hz0 es (P := fun r' h' => a_at (d + 5) (a_xm a_m153) 4 [some (a_rf (C + 35)), none, none, none, none, none] (r'.toList ++ []) h' P) (fun J1 T1 k1 => by
    have hS1 := T1.s
    have fr := k1.1
    have hc1 : cpP C K L J1 R Y := cp_fr hT hc (fun k j hk => fr _ _ (by omega) (by omega) (by omega)) (fun x j kx => by
      have := (hT.g_ask x kx).1
      exact fr _ _ (by omega) (by omega) (by omega)) (fun x j kx _ => by
      have := (hT.g_bnc x kx).1
      exact fr _ _ (by omega) (by omega) (by omega)) (fun x j kx => by
      have := (hT.g_txt x kx).1
      exact fr _ _ (by omega) (by omega) (by omega)) (fun k k0 k1 j => by
      have := (hT.g_txt _ (hc.2.2.2.1.2 k k0 k1).1).2.1
      exact fr _ _ (by omega) (by omega) (by omega)) (fun b b0 b1 j => by
      obtain ⟨-, ⟨w1, -⟩, ⟨s1, -⟩, -⟩ := hT.g_bnc _ (hc.2.1.2.2.1 b b0 b1).1
      exact ⟨fr _ _ (by omega) (by omega) (by omega), fr _ _ (by omega) (by omega) (by omega)⟩)
    have es1 : J1 (C + 35) 7 = z := (fr _ _ (by omega) (by omega) (by omega)).trans es
    have kv1 : ∀ k, k < m → (J1 (C + 39) k = Y 20 (g k).toNatClampNeg ∧ J1 (C + 40) k = (Y 21 (g k).toNatClampNeg)) ∧ ∀ y, y < (Y 10 (g 0).toNatClampNeg).toNatClampNeg → J1 (C + 41) (4 * k + y) = J1 ((R (C + 16) (Y 20 (g k).toNatClampNeg).toNatClampNeg) + 2) ((Y 21 (g k).toNatClampNeg).toNatClampNeg + y) := fun k hk => ⟨k1.2.1 k hk, fun y hy => by
      have := tp_B hT hc hse tp hk
      rw [fr ((R (C + 16) (Y 20 (g k).toNatClampNeg).toNatClampNeg) + 2) _ (by omega) (by omega) (by omega)]
      exact k1.2.2 k y hk hy (Or.inr hy)⟩
    have hback : ∀ J (o : Int32), cT C K L J R → qF C R Y g 0 m J1 J → (o = z ↔ ∀ k, k < m → rgF Y m g k) → ∀ v w q r, a_at (d + 5) (a_xm a_m153) 166 [some (a_rf (C + 35)), some (.int o), v, w, q, r] [] (n, t, K, L, J, R) P := fun J o hTJ hqJ ho v w q r => by
      have hSJ := hTJ.s
      have hg := le_turn_back_168 (d := d) (n := n) (t := t) (P := P) (o := o) T1 hc1 hse tp ez hz es1 kv1 (fun J4 T4 h4 => by
        refine hP _ J4 T4 (fun x j n1 n2 n3 n4 n5 => (h4 x j n1 n2 (fun k q1 q2 => by omega)).trans (fr x j n3 n4 n5)) ?_ ?_
        · split
          · exact Or.inr rfl
          · exact Or.inl rfl
        · rw [← ho]
          split
          · exact ⟨fun _ => by assumption, fun _ => rfl⟩
          · exact ⟨fun e => absurd e (by decide), fun e => absurd e (by assumption)⟩) 0 (by decide) J w q r (by decide) hz0.1 hTJ hqJ
      clear hP hc hc1 fr k1
      simp only [q153_166, q153_167, as_nil, as_i, as_r, Nat.reduceAdd, Nat.reduceLeDiff, z_eq0, z_eq1, z_or, z_em, Classical.not_not, not_false_eq_true, not_true_eq_false, true_and, and_true, false_and, and_false, and_self, true_implies, false_implies, implies_true, Option.toList_some, Option.toList_none, List.cons_append, List.nil_append, Nat.add_eq_zero_iff, a_nl_i, a_nl_r, a_nl_n, true_or, or_true, eq_self, a_isRA_22, a_isRA_24, a_isRA_32, a_isA_20, ok_4, ok_5, ok_6, ok_7, ok_9, ok_20, ok_21, ok_30, ok_50, ok_180, ok_192, ok_200]
      exact hg
    have hl := le_turn_lift_6 (d := d) (n := n) (t := t) (P := P) T1 hc1 hse tp ez hz es1 (fun J2 T2 c2 q2 u v w q r => by
      have hS2 := T2.s
      have hg := le_turn_lay_37 (d := d) (n := n) (t := t) (P := P) T1 hc1 hse tp ez hz es1 kv1 hsu hback 0 (by decide) J2 w q r (by decide) hz0.1 T2 c2 q2 (fun k hk => absurd hk (Nat.not_lt_zero k))
      clear hP hc hc1 fr k1 hback
      simp only [q153_33, q153_34, q153_35, q153_36, as_nil, as_i, as_r, Nat.reduceAdd, Nat.reduceLeDiff, z_eq0, z_eq1, z_or, z_em, Classical.not_not, not_false_eq_true, not_true_eq_false, true_and, and_true, false_and, and_false, and_self, true_implies, false_implies, implies_true, Option.toList_some, Option.toList_none, List.cons_append, List.nil_append, Nat.add_eq_zero_iff, a_nl_i, a_nl_r, a_nl_n, true_or, or_true, eq_self, a_isRA_22, a_isRA_24, a_isRA_32, a_isA_20, ok_4, ok_5, ok_6, ok_7, ok_9, ok_20, ok_21, ok_30, ok_50, ok_180, ok_192, ok_200]
      exact hg) 0 (by decide) J1 none none none none (by decide) hz0.1 T1 hc1 (fun _ _ _ _ _ => rfl)
    clear hP hc hc1 fr k1 hback
    simp only [q153_4, q153_5, as_nil, as_i, as_r, Nat.reduceAdd, Nat.reduceLeDiff, z_eq0, z_eq1, z_or, z_em, Classical.not_not, not_false_eq_true, not_true_eq_false, true_and, and_true, false_and, and_false, and_self, true_implies, false_implies, implies_true, Option.toList_some, Option.toList_none, List.cons_append, List.nil_append, Nat.add_eq_zero_iff, a_nl_i, a_nl_r, a_nl_n, true_or, or_true, eq_self, a_isRA_22, a_isRA_24, a_isRA_32, a_isA_20, ok_4, ok_5, ok_6, ok_7, ok_9, ok_20, ok_21, ok_30, ok_50, ok_180, ok_192, ok_200]
    exact hl)
  clear hP hc
  rw [a_enter1 (M := a_m153) rfl (a_cat_rf a_cat_nil) (show 1 ≤ 6 by decide)]
  show a_at _ (a_xm a_m153) 0 [some (a_rf (C + 35)), none, none, none, none, none] [] _ _
  simp only [q153_0, q153_1, k_35 hS, z_35, as_nil, as_i, as_r, Nat.reduceAdd, Nat.reduceLeDiff, z_eq0, z_eq1, z_or, z_em, Classical.not_not, not_false_eq_true, not_true_eq_false, true_and, and_true, false_and, and_false, and_self, true_implies, false_implies, implies_true, Option.toList_some, Option.toList_none, List.cons_append, List.nil_append, Nat.add_eq_zero_iff, a_nl_i, a_nl_r, a_nl_n, true_or, or_true, eq_self, a_isRA_22, a_isRA_24, a_isRA_32, a_isA_20, ok_4, ok_5, ok_6, ok_7, ok_9, ok_20, ok_21, ok_30, ok_50, ok_180, ok_192, ok_200]
  exact hmain
end ZV0
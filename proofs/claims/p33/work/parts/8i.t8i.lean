/-! the reference: swap -/
section ZII
variable {d n t M : Nat} {K L : Nat → Nat} {I I0 J J0 J1 J2 : Nat → Nat → Int32} {R : Nat → Nat → Nat} {P : Option Value → AH → Prop} {f : Nat → Int32} {e : Int32}
variable {Y Z W : Nat → Nat → Int32} {m c : Nat} {g w v : Nat → Int32}
theorem xt_swap_20 (hS : m_S M K L R) {I1 : Nat → Nat → Int32} {z : Int32} (ez : z.toNatClampNeg = m) (hz : 2 ≤ z ∧ z ≤ 5) (hy : ∀ k, k < m → (0 ≤ g k ∧ g k < 30) ∧ (0 ≤ Y 20 (g k).toNatClampNeg ∧ Y 20 (g k).toNatClampNeg ≤ 5) ∧ (0 ≤ Y 21 (g k).toNatClampNeg ∧ Y 21 (g k).toNatClampNeg ≤ 199)) (hP : ∀ J i, mF M c I1 J → gs M I0 J Y → (∀ k, k < m → J (M + 48) k = g k) → J M 74 = z → (∀ k, k < m → J (M + 49) k = Y 20 (g k).toNatClampNeg ∧ J (M + 50) k = Y 21 (g k).toNatClampNeg) → a_at d (a_xm a_m255) 68 [some (a_rf M), some (.int i), none, none] [] (n, t, K, L, J, R) P) : ∀ i : Int32, i ≤ 5 → ∀ J, 0 ≤ i → i ≤ z → mF M c I1 J → gs M I0 J Y → (∀ k, k < m → J (M + 48) k = g k) → J M 74 = z → (∀ k, k < i.toNatClampNeg → J (M + 49) k = Y 20 (g k).toNatClampNeg ∧ J (M + 50) k = Y 21 (g k).toNatClampNeg) → a_at d (a_xm a_m255) 20 [some (a_rf M), some (.int i), none, none] [] (n, t, K, L, J, R) P := by
  refine up_ind 5 (fun i hk ih => ?_)
  intro J q0 q1 hF hg ra st ob
  rw [q255_20]
  by_cases ci : i < z
  · obtain ⟨t1, t2, t3, t4⟩ := lp_st q0 ci
    have him : i.toNatClampNeg < m := by rw [← ez]; exact cl_lt q0 ci
    have hi5 : i < 5 := Int32.lt_of_lt_of_le ci hz.2
    have i6 : 0 ≤ i ∧ i < 6 := ⟨q0, Int32.lt_trans hi5 (by decide)⟩
    obtain ⟨g30, b20, b21⟩ := hy _ him
    have e48 := ra _ him
    have f20 : J (M + 20) (g i.toNatClampNeg).toNatClampNeg = Y 20 (g i.toNatClampNeg).toNatClampNeg := hg.2.2.1 20 _ (by unfold ps1; omega)
    have f21 : J (M + 21) (g i.toNatClampNeg).toNatClampNeg = Y 21 (g i.toNatClampNeg).toNatClampNeg := hg.2.2.1 21 _ (by unfold ps1; omega)
    have c' : ¬ z ≤ i := Int32.not_le.mpr ci
    have r20 : (-9 : Int32) ≤ Y 20 (g i.toNatClampNeg).toNatClampNeg ∧ Y 20 (g i.toNatClampNeg).toNatClampNeg ≤ 5 := ⟨Int32.le_trans (by decide) b20.1, b20.2⟩
    have r21 : (-9 : Int32) ≤ Y 21 (g i.toNatClampNeg).toNatClampNeg ∧ Y 21 (g i.toNatClampNeg).toNatClampNeg ≤ 200 := ⟨Int32.le_trans (by decide) b21.1, Int32.le_trans b21.2 (by decide)⟩
    have hp := ih hi5 (a_ui (a_ui J (M + 49) i.toNatClampNeg (Y 20 (g i.toNatClampNeg).toNatClampNeg)) (M + 50) i.toNatClampNeg (Y 21 (g i.toNatClampNeg).toNatClampNeg)) t2 t3 (sF_oldShift (sF_oldBench hF r20) r21) (gs_ui (gs_ui hg (sR_oldBench hg.1 r20) (by omega) ⟨by unfold ps1; omega, by omega⟩) (sR_oldShift (sR_oldBench hg.1 r20) r21) (by omega) ⟨by unfold ps1; omega, by omega⟩) (fun k hk => by rw [ui_ap, if_neg (by omega), ui_ap, if_neg (by omega)]; exact ra k hk) (by rw [ui_ap, if_neg (by omega), ui_ap, if_neg (by omega)]; exact st) (fun k hk => by
      rw [t4] at hk
      rw [ui_ap, if_neg (by omega), ui_ap, ui_ap, ui_ap, if_neg (by omega : ¬ (M + 50 = M + 49 ∧ k = i.toNatClampNeg))]
      by_cases e : k = i.toNatClampNeg
      · rw [if_pos ⟨rfl, e⟩, if_pos ⟨rfl, e⟩, e]
        exact ⟨rfl, rfl⟩
      · rw [if_neg (fun q => e q.2), if_neg (fun q => e q.2)]
        exact ob k (by omega))
    clear ih hP hy hF hg ra ob
    simp only [q255_21, q255_22, q255_25, q255_28, q255_29, q255_32, q255_33, q255_34, q255_37, q255_38, q255_41, q255_42, q255_43, q255_44, q255_45, q255_46, q255_49, q255_50, q255_51, q255_54, q255_55, q255_58, q255_59, q255_60, q255_61, q255_62, q255_65, m_0 hS, m_K hS, mR_oldBench hS, mK_oldBench hS, mL_oldBench hS, mR_atBench hS, mK_atBench hS, mL_atBench hS, mR_ringAsk hS, mK_ringAsk hS, mL_ringAsk hS, mR_oldShift hS, mK_oldShift hS, mL_oldShift hS, mR_atShift hS, mK_atShift hS, mL_atShift hS, as_nil, as_i, as_r, Nat.reduceAdd, Nat.reduceLeDiff, z_eq0, z_eq1, z_or, z_em, Classical.not_not, not_false_eq_true, not_true_eq_false, true_and, and_true, false_and, and_false, and_self, true_implies, false_implies, implies_true, Option.toList_some, Option.toList_none, List.cons_append, List.nil_append, Nat.add_eq_zero_iff, a_nl_i, a_nl_r, a_nl_n, true_or, or_true, eq_self, ok_4, ok_5, ok_6, ok_7, ok_9, ok_10, ok_20, ok_21, ok_24, ok_30, ok_48, ok_50, ok_60, ok_80, ok_120, ok_180, ok_192, ok_200, ok_900, ok_1000, ok_84000, ui_ap, ne_MM, ne_M0, ne_0M, Nat.reduceEqDiff, reduceIte, if_true, if_false, st, c', e48, f20, f21, i6]
    try simp only [true_and, and_true, true_implies, false_implies, implies_true, not_true_eq_false, not_false_eq_true]
    first
      | exact hp
      | (repeat refine And.intro (by grind) ?_
         exact hp)
      | grind
  · have e := (lp_end q1 ci).2
    have hp := hP J i hF hg ra st (by rw [e, ez] at ob; exact ob)
    have c' : z ≤ i := Int32.not_lt.mp ci
    clear ih hP hy hF hg ra ob
    simp only [q255_21, q255_22, q255_25, m_0 hS, m_K hS, as_nil, as_i, as_r, Nat.reduceAdd, Nat.reduceLeDiff, z_eq0, z_eq1, z_or, z_em, Classical.not_not, not_false_eq_true, not_true_eq_false, true_and, and_true, false_and, and_false, and_self, true_implies, false_implies, implies_true, Option.toList_some, Option.toList_none, List.cons_append, List.nil_append, Nat.add_eq_zero_iff, a_nl_i, a_nl_r, a_nl_n, true_or, or_true, eq_self, ok_4, ok_5, ok_6, ok_7, ok_9, ok_10, ok_20, ok_21, ok_24, ok_30, ok_48, ok_50, ok_60, ok_80, ok_120, ok_180, ok_192, ok_200, ok_900, ok_1000, ok_84000, ui_ap, ne_MM, ne_M0, ne_0M, Nat.reduceEqDiff, reduceIte, if_true, if_false, st, c']
    try simp only [true_and, and_true, true_implies, false_implies, implies_true, not_true_eq_false, not_false_eq_true]
    first
      | exact hp
      | grind
theorem yR_k {X : Nat → Nat → Int32} (h : yR M I J X) {k j : Nat} (hk : k ≤ 52) (hm : ¬ mk0 k j) (e : X k j = I (M + k) j) : J (M + k) j = I (M + k) j := (h.2.2 k j hk hm).trans e
theorem xt_swap_70 (hS : m_S M K L R) {I1 : Nat → Nat → Int32} {z : Int32} (ez : z.toNatClampNeg = m) (hz : 2 ≤ z ∧ z ≤ 5) (hc : c + 40 ≤ 84000) (hy : ∀ k, k < m → (0 ≤ g k ∧ g k < 30)) (hP : ∀ J i, mF M (c + 20) I1 J → gs M I0 J (rgU g Y m) → (∀ k, k < m → J (M + 48) k = g k) → J M 74 = z → (∀ k, k < m → J (M + 49) k = Y 20 (g k).toNatClampNeg ∧ J (M + 50) k = Y 21 (g k).toNatClampNeg) → a_at (d + 12) (a_xm a_m255) 94 [some (a_rf M), some (.int i), none, none] [] (n, t, K, L, J, R) P) : ∀ i : Int32, i ≤ 5 → ∀ J, 0 ≤ i → i ≤ z → mF M (c + 4 * i.toNatClampNeg) I1 J → gs M I0 J (rgU g Y i.toNatClampNeg) → (∀ k, k < m → J (M + 48) k = g k) → J M 74 = z → (∀ k, k < m → J (M + 49) k = Y 20 (g k).toNatClampNeg ∧ J (M + 50) k = Y 21 (g k).toNatClampNeg) → a_at (d + 12) (a_xm a_m255) 70 [some (a_rf M), some (.int i), none, none] [] (n, t, K, L, J, R) P := by
  refine up_ind 5 (fun i hk ih => ?_)
  intro J q0 q1 hF hg ra st ob
  have i5 : i.toNatClampNeg < 6 := cl_lt (j := 6) q0 (Int32.lt_of_le_of_lt hk (by decide))
  rw [q255_70]
  by_cases ci : i < z
  · obtain ⟨t1, t2, t3, t4⟩ := lp_st q0 ci
    have him : i.toNatClampNeg < m := by rw [← ez]; exact cl_lt q0 ci
    have hi5 : i < 5 := Int32.lt_of_lt_of_le ci hz.2
    have i6 : 0 ≤ i ∧ i < 6 := ⟨q0, Int32.lt_trans hi5 (by decide)⟩
    have g30 := hy _ him
    have e48 := ra _ him
    have c' : ¬ z ≤ i := Int32.not_le.mpr ci
    have hcall := xt_takeFrom (d := d + 10) (n := n) (t := t) (K := K) (L := L) (R := R) hS hF (by omega) g30 (P := fun r' h' => a_at (d + 12) (a_xm a_m255) 88 [some (a_rf M), some (.int i), none, none] (r'.toList ++ []) h' P) (fun J2 g1 _ y2 => by
      have hg2 := yR_gs hg y2 (unY_p hg.2.2 g30)
      have keep : ∀ k j, k ≤ 52 → ¬ mk0 k j → ¬ k = 20 ∧ ¬ k = 21 → J2 (M + k) j = J (M + k) j := fun k j h1 h2 h3 => yR_k y2 h1 h2 (un_o (Or.inl h3))
      have hp := ih hi5 J2 t2 t3 (mF_le g1 (by rw [t4]; omega)) (by rw [t4]; exact hg2) (fun k hk => (keep 48 k (by omega) (by unfold mk0; omega) (by omega)).trans (ra k hk)) ((keep 0 74 (by omega) (by unfold mk0; omega) (by omega)).trans st) (fun k hk => ⟨(keep 49 k (by omega) (by unfold mk0; omega) (by omega)).trans (ob k hk).1, (keep 50 k (by omega) (by unfold mk0; omega) (by omega)).trans (ob k hk).2⟩)
      clear ih hP hy hF hg ra ob g1 y2 hg2 keep
      simp only [q255_88, q255_91, as_nil, as_i, as_r, Nat.reduceAdd, Nat.reduceLeDiff, z_eq0, z_eq1, z_or, z_em, Classical.not_not, not_false_eq_true, not_true_eq_false, true_and, and_true, false_and, and_false, and_self, true_implies, false_implies, implies_true, Option.toList_some, Option.toList_none, List.cons_append, List.nil_append, Nat.add_eq_zero_iff, a_nl_i, a_nl_r, a_nl_n, true_or, or_true, eq_self, ok_4, ok_5, ok_6, ok_7, ok_9, ok_10, ok_20, ok_21, ok_24, ok_30, ok_48, ok_50, ok_60, ok_80, ok_120, ok_180, ok_192, ok_200, ok_900, ok_1000, ok_84000]
      exact hp)
    clear ih hP hy hF hg ra ob
    simp only [q255_71, q255_72, q255_75, q255_78, q255_79, q255_80, q255_83, q255_84, q255_85, m_0 hS, m_K hS, mR_ringAsk hS, mK_ringAsk hS, mL_ringAsk hS, as_nil, as_i, as_r, Nat.reduceAdd, Nat.reduceLeDiff, z_eq0, z_eq1, z_or, z_em, Classical.not_not, not_false_eq_true, not_true_eq_false, true_and, and_true, false_and, and_false, and_self, true_implies, false_implies, implies_true, Option.toList_some, Option.toList_none, List.cons_append, List.nil_append, Nat.add_eq_zero_iff, a_nl_i, a_nl_r, a_nl_n, true_or, or_true, eq_self, ok_4, ok_5, ok_6, ok_7, ok_9, ok_10, ok_20, ok_21, ok_24, ok_30, ok_48, ok_50, ok_60, ok_80, ok_120, ok_180, ok_192, ok_200, ok_900, ok_1000, ok_84000, st, c', e48, i6]
    try simp only [true_and, and_true, true_implies, false_implies, implies_true, not_true_eq_false, not_false_eq_true]
    first
      | exact hcall
      | (repeat refine And.intro (by grind) ?_
         exact hcall)
      | grind
  · have e := (lp_end q1 ci).2
    have hp := hP J i (mF_le hF (by omega)) (by rw [e, ez] at hg; exact hg) ra st ob
    have c' : z ≤ i := Int32.not_lt.mp ci
    clear ih hP hy hF hg ra ob
    simp only [q255_71, q255_72, q255_75, m_0 hS, m_K hS, as_nil, as_i, as_r, Nat.reduceAdd, Nat.reduceLeDiff, z_eq0, z_eq1, z_or, z_em, Classical.not_not, not_false_eq_true, not_true_eq_false, true_and, and_true, false_and, and_false, and_self, true_implies, false_implies, implies_true, Option.toList_some, Option.toList_none, List.cons_append, List.nil_append, Nat.add_eq_zero_iff, a_nl_i, a_nl_r, a_nl_n, true_or, or_true, eq_self, ok_4, ok_5, ok_6, ok_7, ok_9, ok_10, ok_20, ok_21, ok_24, ok_30, ok_48, ok_50, ok_60, ok_80, ok_120, ok_180, ok_192, ok_200, ok_900, ok_1000, ok_84000, st, c']
    try simp only [true_and, and_true, true_implies, false_implies, implies_true, not_true_eq_false, not_false_eq_true]
    first
      | exact hp
      | grind
theorem xt_swap_146 (hS : m_S M K L R) {I1 : Nat → Nat → Int32} {i j a : Int32} (ha : 0 ≤ a ∧ a < 30) (hi : 0 ≤ i ∧ i < 6) (e48 : I (M + 48) i.toNatClampNeg = a) (hP : ∀ J, mF M c I1 J → (∀ x y, J x y = if x = M + 47 ∧ 30 * a.toNatClampNeg ≤ y ∧ y < 30 * a.toNatClampNeg + 30 then 0 else I x y) → a_at d (a_xm a_m255) 175 [some (a_rf M), some (.int i), some (.int j), some (.int 30)] [] (n, t, K, L, J, R) P) : ∀ o : Int32, o ≤ 30 → ∀ J, 0 ≤ o → mF M c I1 J → (∀ x y, J x y = if x = M + 47 ∧ 30 * a.toNatClampNeg ≤ y ∧ y < 30 * a.toNatClampNeg + o.toNatClampNeg then 0 else I x y) → a_at d (a_xm a_m255) 146 [some (a_rf M), some (.int i), some (.int j), some (.int o)] [] (n, t, K, L, J, R) P := by
  refine up_ind 30 (fun o ho ih => ?_)
  intro J h0 hF hJ
  rw [q255_146]
  by_cases co : o < 30
  · obtain ⟨t1, t2, t3, t4⟩ := lp_st h0 co
    obtain ⟨x1, x2, -⟩ := ix_900 ha ⟨h0, co⟩
    have k48 : J (M + 48) i.toNatClampNeg = a := by rw [hJ, if_neg (by omega)]; exact e48
    have c' : ¬ 30 ≤ o := Int32.not_le.mpr co
    have hp := ih co (a_ui J (M + 47) (30 * a + o).toNatClampNeg 0) t2 (sF_isWish hF) (fun x y => by
      rw [ui_ap, x1, hJ, t4]
      by_cases e : x = M + 47 ∧ y = 30 * a.toNatClampNeg + o.toNatClampNeg
      · rw [if_pos e, if_pos ⟨e.1, by omega, by omega⟩]
      · rw [if_neg e]
        by_cases e2 : x = M + 47 ∧ 30 * a.toNatClampNeg ≤ y ∧ y < 30 * a.toNatClampNeg + o.toNatClampNeg
        · rw [if_pos e2, if_pos ⟨e2.1, e2.2.1, by omega⟩]
        · rw [if_neg e2, if_neg (by omega)])
    have z1 : (0 : Int32) &&& 1 = 0 := by decide
    clear ih hP hF hJ
    simp only [q255_147, q255_149, q255_152, q255_153, q255_156, q255_158, q255_159, q255_162, q255_163, q255_164, q255_165, q255_166, q255_167, q255_168, q255_169, q255_172, m_0 hS, m_K hS, mR_isWish hS, mK_isWish hS, mL_isWish hS, mR_ringAsk hS, mK_ringAsk hS, mL_ringAsk hS, as_nil, as_i, as_r, Nat.reduceAdd, Nat.reduceLeDiff, z_eq0, z_eq1, z_or, z_em, Classical.not_not, not_false_eq_true, not_true_eq_false, true_and, and_true, false_and, and_false, and_self, true_implies, false_implies, implies_true, Option.toList_some, Option.toList_none, List.cons_append, List.nil_append, Nat.add_eq_zero_iff, a_nl_i, a_nl_r, a_nl_n, true_or, or_true, eq_self, ok_4, ok_5, ok_6, ok_7, ok_9, ok_10, ok_20, ok_21, ok_24, ok_30, ok_48, ok_50, ok_60, ok_80, ok_120, ok_180, ok_192, ok_200, ok_900, ok_1000, ok_84000, k48, c', x2, hi, z1]
    try simp only [true_and, and_true, true_implies, false_implies, implies_true, not_true_eq_false, not_false_eq_true]
    first
      | exact hp
      | (repeat refine And.intro (by grind) ?_
         exact hp)
      | grind
  · have e : o = 30 := by clear ih hP hF hJ; grind
    subst e
    have hp := hP J hF hJ
    clear ih hP hF hJ
    simp only [q255_147, q255_149, as_nil, as_i, as_r, Nat.reduceAdd, Nat.reduceLeDiff, z_eq0, z_eq1, z_or, z_em, Classical.not_not, not_false_eq_true, not_true_eq_false, true_and, and_true, false_and, and_false, and_self, true_implies, false_implies, implies_true, Option.toList_some, Option.toList_none, List.cons_append, List.nil_append, Nat.add_eq_zero_iff, a_nl_i, a_nl_r, a_nl_n, true_or, or_true, eq_self, ok_4, ok_5, ok_6, ok_7, ok_9, ok_10, ok_20, ok_21, ok_24, ok_30, ok_48, ok_50, ok_60, ok_80, ok_120, ok_180, ok_192, ok_200, ok_900, ok_1000, ok_84000]
    try simp only [true_and, and_true, true_implies, false_implies, implies_true, not_true_eq_false, not_false_eq_true]
    first
      | exact hp
      | exact ⟨fun _ => hp, fun h => absurd (by decide) h⟩
      | grind
theorem xt_swap_96 (hS : m_S M K L R) {I1 : Nat → Nat → Int32} (hm : okY Y) {z : Int32} (ez : z.toNatClampNeg = m) (hz : 2 ≤ z ∧ z ≤ 5) (hc : c + 40 ≤ 84000) (ty : tyP Y m g) (hb5 : ∀ k, k < m → (0 ≤ Y 20 (g k).toNatClampNeg ∧ Y 20 (g k).toNatClampNeg ≤ 5) ∧ (0 ≤ Y 21 (g k).toNatClampNeg ∧ Y 21 (g k).toNatClampNeg ≤ 199) ∧ Y 21 (g k).toNatClampNeg + Y 10 (g 0).toNatClampNeg ≤ 200) (hP : ∀ J, mF M (c + 40) I1 J → gs M I0 J (swS g m Y m) → P (some (.int z)) (n, t, K, L, J, R)) : ∀ i : Int32, i ≤ 5 → ∀ J x y, 0 ≤ i → i ≤ z → mF M (c + 20 + 4 * i.toNatClampNeg) I1 J → gs M I0 J (swS g m Y i.toNatClampNeg) → (∀ k, k < m → J (M + 48) k = g k) → J M 74 = z → (∀ k, k < m → J (M + 49) k = Y 20 (g k).toNatClampNeg ∧ J (M + 50) k = Y 21 (g k).toNatClampNeg) → a_at (d + 12) (a_xm a_m255) 96 [some (a_rf M), some (.int i), x, y] [] (n, t, K, L, J, R) P := by
  have h17 := hm.1.2.2.2.2.1
  refine up_ind 5 (fun i hk ih => ?_)
  intro J x y q0 q1 hF hg ra st ob
  have i5 : i.toNatClampNeg < 6 := cl_lt (j := 6) q0 (Int32.lt_of_le_of_lt hk (by decide))
  rw [q255_96]
  by_cases ci : i < z
  · obtain ⟨t1, t2, t3, t4⟩ := lp_st q0 ci
    have him : i.toNatClampNeg < m := by rw [← ez]; exact cl_lt q0 ci
    have hi5 : i < 5 := Int32.lt_of_lt_of_le ci hz.2
    have in5 : i.toNatClampNeg < 5 := cl_lt q0 hi5
    have i6 : 0 ≤ i ∧ i < 6 := ⟨q0, Int32.lt_trans hi5 (by decide)⟩
    have hnm := nxN_lt (m := m) him
    obtain ⟨⟨a0, a1⟩, -⟩ := ty.1 _ him
    have g30 : 0 ≤ g i.toNatClampNeg ∧ g i.toNatClampNeg < 30 := ⟨a0, Int32.lt_of_lt_of_le a1 h17.2⟩
    have e48 := ra _ him
    have c' : ¬ z ≤ i := Int32.not_le.mpr ci
    obtain ⟨bb, bs, bl⟩ := hb5 _ hnm
    have bW : sbE Y (swS g m Y i.toNatClampNeg) := sw_b _
    have o10 : (swS g m Y i.toNatClampNeg) 10 = Y 10 := sbE_r bW (by omega)
    have e17 : (swS g m Y i.toNatClampNeg) 0 17 = Y 0 17 := by
      rw [sw_row (g := g) (m := m) (Y := Y) (q := 0) (by decide) i.toNatClampNeg]
      exact ss_tr (rgU_s m) (rgP_s _) 0 17 (by unfold ss ps1; omega)
    have inW : inP (swS g m Y i.toNatClampNeg) := sw_in hm.2.1.2.2.2.1 ty hb5 _ (by omega)
    have mW : moY (swS g m Y i.toNatClampNeg) := moY_b hm.2.1 bW inW
    have h121 : ∀ j : Int32, 0 ≤ j ∧ j < 6 → j.toNatClampNeg = (nxN m i.toNatClampNeg) → ∀ y, a_at (d + 12) (a_xm a_m255) 122 [some (a_rf M), some (.int i), some (.int j), y] [] (n, t, K, L, J, R) P := fun j hj ej y => by
      have x49 : J (M + 49) j.toNatClampNeg = (Y 20 (g (nxN m i.toNatClampNeg)).toNatClampNeg) := by rw [ej]; exact (ob _ hnm).1
      have x50 : J (M + 50) j.toNatClampNeg = (Y 21 (g (nxN m i.toNatClampNeg)).toNatClampNeg) := by rw [ej]; exact (ob _ hnm).2
      have hcall := xt_giveTo (d := d + 1) (n := n) (t := t) (K := K) (L := L) (R := R) hS (moP_of hg.1 mW hg.2.2) hF (by omega) g30 bb ⟨Int32.le_trans (by decide) bs.1, Int32.le_trans bs.2 (by decide)⟩ (P := fun r' h' => a_at (d + 12) (a_xm a_m255) 144 [some (a_rf M), some (.int i), some (.int j), y] (r'.toList ++ []) h' P) (fun J2 g1 y2 => by
        have hg2 := yR_gs hg y2 (puY_p (by rw [e17]; exact h17) (by rw [o10]; exact hm.1.2.1) hg.2.2 g30)
        have keep : ∀ k j, k ≤ 52 → ¬ mk0 k j → ¬ k = 20 ∧ ¬ k = 21 ∧ ¬ k = 22 → J2 (M + k) j = J (M + k) j := fun k j h1 h2 h3 => yR_k y2 h1 h2 (by unfold puY; rw [if_neg (by omega), if_neg (by omega), if_neg (by omega)]; rfl)
        have k48 : J2 (M + 48) i.toNatClampNeg = g i.toNatClampNeg := (keep 48 _ (by omega) (by unfold mk0; omega) (by omega)).trans e48
        have hl := xt_swap_146 (d := d + 12) (n := n) (t := t) (K := K) (L := L) (R := R) (P := P) (c := c + 20 + 4 * i.toNatClampNeg + 4) (j := j) hS g30 i6 k48 (fun J3 hF3 h3 => by
          have hx3 : ∀ k q, ¬ k = 47 → J3 (M + k) q = J2 (M + k) q := fun k q hk => by rw [h3, if_neg (by omega)]
          have hg3 : gs M I0 J3 (clW (puY (swS g m Y i.toNatClampNeg) (g i.toNatClampNeg) (Y 20 (g (nxN m i.toNatClampNeg)).toNatClampNeg) (Y 21 (g (nxN m i.toNatClampNeg)).toNatClampNeg)) (g i.toNatClampNeg)) := by
            refine ⟨hF3.1.1, fun x q hx => by rw [h3, if_neg (by omega)]; exact hg2.2.1 x q hx, ?_⟩
            have e : yv M J3 = clW (yv M J2) (g i.toNatClampNeg) := by
              funext k q
              show J3 (M + k) q = _
              rw [h3]
              unfold clW
              by_cases e : k = 47 ∧ 30 * (g i.toNatClampNeg).toNatClampNeg ≤ q ∧ q < 30 * (g i.toNatClampNeg).toNatClampNeg + 30
              · rw [if_pos e, if_pos ⟨by omega, e.2⟩]
              · rw [if_neg e, if_neg (by omega)]
                rfl
            rw [e]
            exact cl_p hg2.2.2
          have hp := ih hi5 J3 (some (.int j)) (some (.int 30)) t2 t3 (mF_le hF3 (by rw [t4]; omega)) (by rw [t4]; exact hg3) (fun k hk => (hx3 48 k (by omega)).trans ((keep 48 k (by omega) (by unfold mk0; omega) (by omega)).trans (ra k hk))) ((hx3 0 74 (by omega)).trans ((keep 0 74 (by omega) (by unfold mk0; omega) (by omega)).trans st)) (fun k hk => ⟨(hx3 49 k (by omega)).trans ((keep 49 k (by omega) (by unfold mk0; omega) (by omega)).trans (ob k hk).1), (hx3 50 k (by omega)).trans ((keep 50 k (by omega) (by unfold mk0; omega) (by omega)).trans (ob k hk).2)⟩)
          clear ih hP hF hg ra ob g1 y2 hg2 keep h3 hg3 hx3 ty hb5 hm mW
          simp only [q255_175, q255_178, as_nil, as_i, as_r, Nat.reduceAdd, Nat.reduceLeDiff, z_eq0, z_eq1, z_or, z_em, Classical.not_not, not_false_eq_true, not_true_eq_false, true_and, and_true, false_and, and_false, and_self, true_implies, false_implies, implies_true, Option.toList_some, Option.toList_none, List.cons_append, List.nil_append, Nat.add_eq_zero_iff, a_nl_i, a_nl_r, a_nl_n, true_or, or_true, eq_self, ok_4, ok_5, ok_6, ok_7, ok_9, ok_10, ok_20, ok_21, ok_24, ok_30, ok_48, ok_50, ok_60, ok_80, ok_120, ok_180, ok_192, ok_200, ok_900, ok_1000, ok_84000]
          exact hp) 0 (by decide) J2 (by decide) g1 (fun x q => by rw [show (0 : Int32).toNatClampNeg = 0 from rfl, if_neg (by omega)])
        clear ih hP hF hg ra ob g1 y2 hg2 keep ty hb5 hm mW
        simp only [q255_144, q255_145, as_nil, as_i, as_r, Nat.reduceAdd, Nat.reduceLeDiff, z_eq0, z_eq1, z_or, z_em, Classical.not_not, not_false_eq_true, not_true_eq_false, true_and, and_true, false_and, and_false, and_self, true_implies, false_implies, implies_true, Option.toList_some, Option.toList_none, List.cons_append, List.nil_append, Nat.add_eq_zero_iff, a_nl_i, a_nl_r, a_nl_n, true_or, or_true, eq_self, ok_4, ok_5, ok_6, ok_7, ok_9, ok_10, ok_20, ok_21, ok_24, ok_30, ok_48, ok_50, ok_60, ok_80, ok_120, ok_180, ok_192, ok_200, ok_900, ok_1000, ok_84000]
        exact hl)
      clear ih hP hF hg ra ob ty hb5 hm mW
      simp only [q255_122, q255_123, q255_124, q255_127, q255_128, q255_129, q255_130, q255_133, q255_134, q255_135, q255_136, q255_139, q255_140, q255_141, m_0 hS, m_K hS, mR_ringAsk hS, mK_ringAsk hS, mL_ringAsk hS, mR_oldBench hS, mK_oldBench hS, mL_oldBench hS, mR_oldShift hS, mK_oldShift hS, mL_oldShift hS, as_nil, as_i, as_r, Nat.reduceAdd, Nat.reduceLeDiff, z_eq0, z_eq1, z_or, z_em, Classical.not_not, not_false_eq_true, not_true_eq_false, true_and, and_true, false_and, and_false, and_self, true_implies, false_implies, implies_true, Option.toList_some, Option.toList_none, List.cons_append, List.nil_append, Nat.add_eq_zero_iff, a_nl_i, a_nl_r, a_nl_n, true_or, or_true, eq_self, ok_4, ok_5, ok_6, ok_7, ok_9, ok_10, ok_20, ok_21, ok_24, ok_30, ok_48, ok_50, ok_60, ok_80, ok_120, ok_180, ok_192, ok_200, ok_900, ok_1000, ok_84000, e48, x49, x50, i6, hj]
      try simp only [true_and, and_true, true_implies, false_implies, implies_true, not_true_eq_false, not_false_eq_true]
      first
        | exact hcall
        | (repeat refine And.intro (by grind) ?_
           exact hcall)
        | grind
    by_cases c2 : i + 1 < z
    · have hp := h121 (i + 1) ⟨t2, Int32.lt_trans (Int32.lt_of_lt_of_le c2 hz.2) (by decide)⟩ (by
        rw [t4]
        unfold nxN
        rw [if_pos]
        rw [← ez, ← t4]
        exact cl_lt t2 c2)
      clear ih hP hF hg ra ob ty hb5 hm mW h121
      simp only [q255_97, q255_98, q255_101, q255_104, q255_105, q255_106, q255_107, q255_108, q255_111, q255_114, q255_115, q255_116, q255_117, q255_120, q255_121, m_0 hS, m_K hS, as_nil, as_i, as_r, Nat.reduceAdd, Nat.reduceLeDiff, z_eq0, z_eq1, z_or, z_em, Classical.not_not, not_false_eq_true, not_true_eq_false, true_and, and_true, false_and, and_false, and_self, true_implies, false_implies, implies_true, Option.toList_some, Option.toList_none, List.cons_append, List.nil_append, Nat.add_eq_zero_iff, a_nl_i, a_nl_r, a_nl_n, true_or, or_true, eq_self, ok_4, ok_5, ok_6, ok_7, ok_9, ok_10, ok_20, ok_21, ok_24, ok_30, ok_48, ok_50, ok_60, ok_80, ok_120, ok_180, ok_192, ok_200, ok_900, ok_1000, ok_84000, st, c', c2]
      try simp only [true_and, and_true, true_implies, false_implies, implies_true, not_true_eq_false, not_false_eq_true]
      first
        | exact hp _
        | grind
    · have hp := h121 0 (by decide) (by
        rw [show (0 : Int32).toNatClampNeg = 0 from rfl]
        unfold nxN
        rw [if_neg]
        have e : i + 1 = z := by clear ih hP hF hg ra ob ty hb5 hm mW h121; grind
        rw [← ez, ← t4, e]
        omega)
      clear ih hP hF hg ra ob ty hb5 hm mW h121
      simp only [q255_97, q255_98, q255_101, q255_104, q255_105, q255_106, q255_107, q255_108, q255_111, q255_114, q255_115, q255_116, q255_117, q255_120, q255_121, m_0 hS, m_K hS, as_nil, as_i, as_r, Nat.reduceAdd, Nat.reduceLeDiff, z_eq0, z_eq1, z_or, z_em, Classical.not_not, not_false_eq_true, not_true_eq_false, true_and, and_true, false_and, and_false, and_self, true_implies, false_implies, implies_true, Option.toList_some, Option.toList_none, List.cons_append, List.nil_append, Nat.add_eq_zero_iff, a_nl_i, a_nl_r, a_nl_n, true_or, or_true, eq_self, ok_4, ok_5, ok_6, ok_7, ok_9, ok_10, ok_20, ok_21, ok_24, ok_30, ok_48, ok_50, ok_60, ok_80, ok_120, ok_180, ok_192, ok_200, ok_900, ok_1000, ok_84000, st, c', c2]
      try simp only [true_and, and_true, true_implies, false_implies, implies_true, not_true_eq_false, not_false_eq_true]
      first
        | exact hp _
        | grind
  · have e := (lp_end q1 ci).2
    have hp := hP J (mF_le hF (by omega)) (by rw [e, ez] at hg; exact hg)
    have c' : z ≤ i := Int32.not_lt.mp ci
    clear ih hP hF hg ra ob ty hb5 hm
    simp only [q255_97, q255_98, q255_101, q255_181, q255_182, q255_185, m_0 hS, m_K hS, as_nil, as_i, as_r, Nat.reduceAdd, Nat.reduceLeDiff, z_eq0, z_eq1, z_or, z_em, Classical.not_not, not_false_eq_true, not_true_eq_false, true_and, and_true, false_and, and_false, and_self, true_implies, false_implies, implies_true, Option.toList_some, Option.toList_none, List.cons_append, List.nil_append, Nat.add_eq_zero_iff, a_nl_i, a_nl_r, a_nl_n, true_or, or_true, eq_self, ok_4, ok_5, ok_6, ok_7, ok_9, ok_10, ok_20, ok_21, ok_24, ok_30, ok_48, ok_50, ok_60, ok_80, ok_120, ok_180, ok_192, ok_200, ok_900, ok_1000, ok_84000, st, c']
    try simp only [true_and, and_true, true_implies, false_implies, implies_true, not_true_eq_false, not_false_eq_true]
    first
      | exact hp
      | grind
theorem xp_swap (hS : m_S M K L R) {I1 : Nat → Nat → Int32} (hm : okY Y) {c : Nat} (hc : c + 130 ≤ 84000) (hF : mF M c I1 I) (hg : gs M I0 I Y) {v : Int32} {Z : Nat → Nat → Int32} (ho : swO Y v Z) (hP : ∀ J, mF M (c + 120) I1 J → gs M I0 J Z → P (some (.int v)) (n, t, K, L, J, R)) : a_does (d + 16) 255 [a_rf M] (n, t, K, L, I, R) P := by
  have h17 := hm.1.2.2.2.2.1
  have hl := xt_findRing (d := d + 3) (n := n) (t := t) (c := c) (K := K) (L := L) (R := R) hS hm hF hg (P := fun r' h' => a_at (d + 15) (a_xm a_m255) 4 [some (a_rf M), none, none, none] (r'.toList ++ []) h' P) (fun J hF2 hg2 hv hr => by
    by_cases c1 : J M 74 = 0
    · have hso : swO Y (-3) Y := ⟨_, _, hr, Or.inl ⟨by rw [c1]; rfl, rfl, rfl⟩⟩
      obtain ⟨e1, e2⟩ := swO_u hso ho
      rw [e1, e2] at hP
      have hp := fun k : Nat => hP (a_ui J (M + 23) k (J (M + 23) k + 1)) (mF_le (sF_refused hF2) (by omega)) (gs_ui hg2 (sR_refused hg2.1) (by omega) ⟨by unfold ps1; omega, by omega⟩)
      clear hP ho hm hF hg hF2 hg2 hr hso
      simp only [q255_4, q255_5, q255_8, q255_11, q255_12, q255_14, q255_17, m_0 hS, m_K hS, sp_refuse_1 hS, sp_refuse_2 hS, sp_refuse_3 hS, sp_refuse_4 hS, sp_refuse_5 hS, sp_refuse_6 hS, as_nil, as_i, as_r, Nat.reduceAdd, Nat.reduceLeDiff, z_eq0, z_eq1, z_or, z_em, Classical.not_not, not_false_eq_true, not_true_eq_false, true_and, and_true, false_and, and_false, and_self, true_implies, false_implies, implies_true, Option.toList_some, Option.toList_none, List.cons_append, List.nil_append, Nat.add_eq_zero_iff, a_nl_i, a_nl_r, a_nl_n, true_or, or_true, eq_self, ok_4, ok_5, ok_6, ok_7, ok_9, ok_10, ok_20, ok_21, ok_24, ok_30, ok_48, ok_50, ok_60, ok_80, ok_120, ok_180, ok_192, ok_200, ok_900, ok_1000, ok_84000, c1]
      try simp only [true_and, and_true, true_implies, false_implies, implies_true, not_true_eq_false, not_false_eq_true]
      first
        | exact hp _
        | grind
    · have v25 := hv.resolve_left c1
      have v0 : 0 ≤ J M 74 := Int32.le_trans (by decide) v25.1
      have vn : 1 < (J M 74).toNatClampNeg := cl_lt (i := 1) (by decide) (Int32.lt_of_lt_of_le (by decide) v25.1)
      have hso : swO Y (J M 74) (swS (J (M + 48)) (J M 74).toNatClampNeg Y (J M 74).toNatClampNeg) := ⟨_, _, hr, Or.inr ⟨by omega, on_cl v0, rfl⟩⟩
      obtain ⟨e1, e2⟩ := swO_u hso ho
      rw [e1, e2] at hP
      rcases hr with ⟨e, -⟩ | hr2
      · omega
      · have ty := rg_ty hr2.2.1
        have hb5 := ok_b5 hm ty
        have hy : ∀ k, k < (J M 74).toNatClampNeg → (0 ≤ J (M + 48) k ∧ J (M + 48) k < 30) := fun k hk => ⟨(ty.1 k hk).1.1, Int32.lt_of_lt_of_le (ty.1 k hk).1.2 h17.2⟩
        have hl := xt_swap_20 (d := d + 15) (n := n) (t := t) (K := K) (L := L) (R := R) (P := P) (c := c) hS rfl v25 (fun k hk => ⟨hy k hk, (hb5 k hk).1, (hb5 k hk).2.1⟩) (fun J2 i2 hF3 hg3 ra3 st3 ob3 => by
          have hl := xt_swap_70 (d := d + 3) (n := n) (t := t) (K := K) (L := L) (R := R) (P := P) (c := c) (Y := Y) hS rfl v25 (by omega) hy (fun J4 i4 hF4 hg4 ra4 st4 ob4 => by
            have hl := xt_swap_96 (d := d + 3) (n := n) (t := t) (K := K) (L := L) (R := R) (P := P) (c := c) hS hm rfl v25 (by omega) ty hb5 (fun J5 hF5 hg5 => hP J5 (mF_le hF5 (by omega)) hg5) 0 (by decide) J4 none none (by decide) v0 hF4 hg4 ra4 st4 ob4
            clear hP ho hm hF hg hF2 hg2 hr2 hso ty hb5 hy hF3 hg3 ra3 ob3 hF4 hg4 ra4 ob4
            simp only [q255_94, q255_95, as_nil, as_i, as_r, Nat.reduceAdd, Nat.reduceLeDiff, z_eq0, z_eq1, z_or, z_em, Classical.not_not, not_false_eq_true, not_true_eq_false, true_and, and_true, false_and, and_false, and_self, true_implies, false_implies, implies_true, Option.toList_some, Option.toList_none, List.cons_append, List.nil_append, Nat.add_eq_zero_iff, a_nl_i, a_nl_r, a_nl_n, true_or, or_true, eq_self, ok_4, ok_5, ok_6, ok_7, ok_9, ok_10, ok_20, ok_21, ok_24, ok_30, ok_48, ok_50, ok_60, ok_80, ok_120, ok_180, ok_192, ok_200, ok_900, ok_1000, ok_84000]
            exact hl) 0 (by decide) J2 (by decide) v0 hF3 hg3 ra3 st3 ob3
          clear hP ho hm hF hg hF2 hg2 hr2 hso ty hb5 hy hF3 hg3 ra3 ob3
          simp only [q255_68, q255_69, as_nil, as_i, as_r, Nat.reduceAdd, Nat.reduceLeDiff, z_eq0, z_eq1, z_or, z_em, Classical.not_not, not_false_eq_true, not_true_eq_false, true_and, and_true, false_and, and_false, and_self, true_implies, false_implies, implies_true, Option.toList_some, Option.toList_none, List.cons_append, List.nil_append, Nat.add_eq_zero_iff, a_nl_i, a_nl_r, a_nl_n, true_or, or_true, eq_self, ok_4, ok_5, ok_6, ok_7, ok_9, ok_10, ok_20, ok_21, ok_24, ok_30, ok_48, ok_50, ok_60, ok_80, ok_120, ok_180, ok_192, ok_200, ok_900, ok_1000, ok_84000]
          exact hl) 0 (by decide) J (by decide) v0 hF2 hg2 (fun _ _ => rfl) rfl (fun k hk => absurd hk (Nat.not_lt_zero k))
        clear hP ho hm hF hg hF2 hg2 hr2 hso ty hb5 hy
        simp only [q255_4, q255_5, q255_8, q255_18, q255_19, m_0 hS, m_K hS, as_nil, as_i, as_r, Nat.reduceAdd, Nat.reduceLeDiff, z_eq0, z_eq1, z_or, z_em, Classical.not_not, not_false_eq_true, not_true_eq_false, true_and, and_true, false_and, and_false, and_self, true_implies, false_implies, implies_true, Option.toList_some, Option.toList_none, List.cons_append, List.nil_append, Nat.add_eq_zero_iff, a_nl_i, a_nl_r, a_nl_n, true_or, or_true, eq_self, ok_4, ok_5, ok_6, ok_7, ok_9, ok_10, ok_20, ok_21, ok_24, ok_30, ok_48, ok_50, ok_60, ok_80, ok_120, ok_180, ok_192, ok_200, ok_900, ok_1000, ok_84000, c1]
        try simp only [true_and, and_true, true_implies, false_implies, implies_true, not_true_eq_false, not_false_eq_true]
        first
          | exact hl
          | grind)
  clear hP ho hm hF hg
  rw [a_enter1 (M := a_m255) rfl (a_cat_rf a_cat_nil) (show 1 ≤ 4 by decide)]
  show a_at _ (a_xm a_m255) 0 [some (a_rf M), none, none, none] [] _ _
  simp only [q255_0, q255_1, m_0 hS, m_K hS, as_nil, as_i, as_r, Nat.reduceAdd, Nat.reduceLeDiff, z_eq0, z_eq1, z_or, z_em, Classical.not_not, not_false_eq_true, not_true_eq_false, true_and, and_true, false_and, and_false, and_self, true_implies, false_implies, implies_true, Option.toList_some, Option.toList_none, List.cons_append, List.nil_append, Nat.add_eq_zero_iff, a_nl_i, a_nl_r, a_nl_n, true_or, or_true, eq_self, ok_4, ok_5, ok_6, ok_7, ok_9, ok_10, ok_20, ok_21, ok_24, ok_30, ok_48, ok_50, ok_60, ok_80, ok_120, ok_180, ok_192, ok_200, ok_900, ok_1000, ok_84000]
  try simp only [true_and, and_true, true_implies, false_implies, implies_true, not_true_eq_false, not_false_eq_true]
  first
    | exact hl
    | grind
end ZII
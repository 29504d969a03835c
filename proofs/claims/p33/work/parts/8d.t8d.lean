/-! the reference: whether a ring FITS -/
section ZDD
variable {d n t M : Nat} {K L : Nat → Nat} {I I0 J J0 J1 J2 : Nat → Nat → Int32} {R : Nat → Nat → Nat} {P : Option Value → AH → Prop} {f : Nat → Int32} {e : Int32}
variable {Y Z W : Nat → Nat → Int32} {m : Nat} {g : Nat → Int32}
/-- while saving: only the first i are taken out -/
def svF (M : Nat) (g : Nat → Int32) (p : Nat) (I J : Nat → Nat → Int32) : Prop := (∀ x j, ¬ x = M + 49 → ¬ x = M + 50 → ¬ x = M + 51 → (∀ k, k < p → ¬ ((x = M + 20 ∨ x = M + 21) ∧ j = (g k).toNatClampNeg)) → J x j = I x j) ∧ ∀ k, k < p → J (M + 20) (g k).toNatClampNeg = -9 ∧ J (M + 21) (g k).toNatClampNeg = -9
/-- the cells of members p .. m may differ -/
def rfF (M : Nat) (g : Nat → Int32) (p m : Nat) (I J : Nat → Nat → Int32) : Prop := ∀ x j, ¬ sC M x j → ¬ x = M + 49 → ¬ x = M + 50 → ¬ x = M + 51 → (∀ k, p ≤ k → k < m → ¬ ((x = M + 20 ∨ x = M + 21) ∧ j = (g k).toNatClampNeg) ∧ ¬ (x = M + 22 ∧ 4 * (g k).toNatClampNeg ≤ j ∧ j < 4 * (g k).toNatClampNeg + 4)) → J x j = I x j
theorem sv_rf (h : svF M g m I J) : rfF M g 0 m I J := fun x j _ a1 a2 a3 hk => h.1 x j a1 a2 a3 (fun k k1 => (hk k (by omega) k1).1)
theorem sv_ps (h : svF M g m I J) : psE (rgU g (yv M I) m) (yv M J) := by
  refine ⟨fun k j p => ?_, fun o _ _ _ i _ _ => ?_⟩
  · have hk : k ≤ 47 ∨ k = 52 := by unfold ps1 at p; omega
    by_cases c : (k = 20 ∨ k = 21) ∧ ∃ q, q < m ∧ j = (g q).toNatClampNeg
    · obtain ⟨c1, q, q1, q2⟩ := c
      rw [q2, rgU_at c1 m q q1]
      have := h.2 q q1
      rcases c1 with e | e <;> subst e
      · exact this.1
      · exact this.2
    · have e : rgU g (yv M I) m k j = yv M I k j := by
        by_cases c1 : k = 20 ∨ k = 21
        · exact rgU_o m (fun q q1 q2 => c ⟨c1, q, q1, q2⟩)
        · have : ∀ p, rgU g (yv M I) p k j = yv M I k j := by
            intro p
            induction p with
            | zero => rfl
            | succ p ih =>
              unfold rgU
              rw [un_o (Or.inl (by omega))]
              exact ih
          exact this m
      rw [e]
      exact h.1 _ _ (by omega) (by omega) (by omega) (fun q q1 q2 => c ⟨by omega, q, q1, q2.2⟩)
  · have e : ∀ p j, rgU g (yv M I) p 22 j = yv M I 22 j := by
      intro p j
      induction p with
      | zero => rfl
      | succ p ih =>
        unfold rgU
        rw [un_o (Or.inl (by omega))]
        exact ih
    rw [e]
    exact h.1 _ _ (by omega) (by omega) (by omega) (fun q q1 q2 => by omega)
theorem xt_ringFits_41 (hS : m_S M K L R) {i z : Int32} (ha : 0 ≤ g i.toNatClampNeg ∧ g i.toNatClampNeg < 30) (hi : 0 ≤ i ∧ i < 5) (hP : ∀ J, mR M J → svF M g i.toNatClampNeg I J → (∀ k, k < i.toNatClampNeg → (J (M + 49) k = I (M + 20) (g k).toNatClampNeg ∧ J (M + 50) k = I (M + 21) (g k).toNatClampNeg) ∧ ∀ y, y < 4 → J (M + 51) (4 * k + y) = I (M + 22) (4 * (g k).toNatClampNeg + y)) → (J (M + 49) i.toNatClampNeg = I (M + 20) (g i.toNatClampNeg).toNatClampNeg ∧ J (M + 50) i.toNatClampNeg = I (M + 21) (g i.toNatClampNeg).toNatClampNeg) → (∀ y, y < 4 → J (M + 51) (4 * i.toNatClampNeg + y) = I (M + 22) (4 * (g i.toNatClampNeg).toNatClampNeg + y)) → a_at d (a_xm a_m254) 75 [some (a_rf M), some (.int z), some (.int i), some (.int (g i.toNatClampNeg)), some (.int 4), none] [] (n, t, K, L, J, R) P) : ∀ o : Int32, o ≤ 4 → ∀ J, 0 ≤ o → mR M J → svF M g i.toNatClampNeg I J → (∀ k, k < i.toNatClampNeg → (J (M + 49) k = I (M + 20) (g k).toNatClampNeg ∧ J (M + 50) k = I (M + 21) (g k).toNatClampNeg) ∧ ∀ y, y < 4 → J (M + 51) (4 * k + y) = I (M + 22) (4 * (g k).toNatClampNeg + y)) → (J (M + 49) i.toNatClampNeg = I (M + 20) (g i.toNatClampNeg).toNatClampNeg ∧ J (M + 50) i.toNatClampNeg = I (M + 21) (g i.toNatClampNeg).toNatClampNeg) → (∀ y, y < o.toNatClampNeg → J (M + 51) (4 * i.toNatClampNeg + y) = I (M + 22) (4 * (g i.toNatClampNeg).toNatClampNeg + y)) → a_at d (a_xm a_m254) 41 [some (a_rf M), some (.int z), some (.int i), some (.int (g i.toNatClampNeg)), some (.int o), none] [] (n, t, K, L, J, R) P := by
  refine up_ind 4 (fun o ho ih => ?_)
  intro J h0 hR sv old v1 v2
  rw [q254_41]
  by_cases c : o < 4
  · obtain ⟨t1, t2, t3, t4⟩ := lp_st h0 c
    have n1 := n4 (o := i) (i := o) ⟨hi.1, Int32.lt_trans hi.2 (by decide)⟩ ⟨h0, c⟩
    have n2 := n4 (o := g i.toNatClampNeg) (i := o) ha ⟨h0, c⟩
    have on : o.toNatClampNeg < 4 := cl_lt h0 c
    have in5 : i.toNatClampNeg < 5 := cl_lt hi.1 hi.2
    have e22 : J (M + 22) (4 * g i.toNatClampNeg + o).toNatClampNeg = I (M + 22) (4 * (g i.toNatClampNeg).toNatClampNeg + o.toNatClampNeg) := by
      rw [sv.1 _ _ (by omega) (by omega) (by omega) (fun k k1 k2 => by omega), n2.1]
    have hg := ih c (a_ui J (M + 51) (4 * i + o).toNatClampNeg (J (M + 22) (4 * g i.toNatClampNeg + o).toNatClampNeg)) t2 (sR_oldStanding hR) ⟨fun x j a1 a2 a3 a4 => by rw [ui_ap, if_neg (fun e => a3 e.1)]; exact sv.1 x j a1 a2 a3 a4, fun k hk => by rw [ui_ap, if_neg (by omega), ui_ap, if_neg (by omega)]; exact sv.2 k hk⟩ (fun k hk => ⟨by rw [ui_ap, if_neg (by omega), ui_ap, if_neg (by omega)]; exact (old k hk).1, fun y hy => by rw [ui_ap, n1.1, if_neg (by omega)]; exact (old k hk).2 y hy⟩) (by rw [ui_ap, if_neg (by omega), ui_ap, if_neg (by omega)]; exact v1) (fun y hy => by
      rw [t4] at hy
      rw [ui_ap, n1.1]
      by_cases e : y = o.toNatClampNeg
      · rw [if_pos ⟨rfl, by rw [e]⟩, e22, e]
      · rw [if_neg (by omega)]
        exact v2 y (by omega))
    have c' : ¬ 4 ≤ o := Int32.not_le.mpr c
    have b1 : 0 ≤ 4 * i + o ∧ 4 * i + o < 24 := by clear ih hP sv old v1 v2 hg e22 n1 n2; grind
    have b2 := n2.2
    clear ih hP sv old v1 v2 e22 n1 n2
    simp only [q254_43, q254_44, q254_47, q254_48, q254_51, q254_52, q254_53, q254_54, q254_56, q254_57, q254_58, q254_61, q254_62, q254_63, q254_64, q254_66, q254_67, q254_68, q254_69, q254_72, m_0 hS, m_K hS, mR_oldStanding hS, mK_oldStanding hS, mL_oldStanding hS, mR_standing hS, mK_standing hS, mL_standing hS, as_nil, as_i, as_r, Nat.reduceAdd, Nat.reduceLeDiff, z_eq0, z_eq1, z_or, z_em, Classical.not_not, not_false_eq_true, not_true_eq_false, true_and, and_true, false_and, and_false, and_self, true_implies, false_implies, implies_true, Option.toList_some, Option.toList_none, List.cons_append, List.nil_append, Nat.add_eq_zero_iff, a_nl_i, a_nl_r, a_nl_n, true_or, or_true, eq_self, ok_4, ok_5, ok_6, ok_7, ok_9, ok_10, ok_20, ok_21, ok_24, ok_30, ok_48, ok_50, ok_60, ok_80, ok_120, ok_180, ok_192, ok_200, ok_900, ok_1000, ok_84000, c']
    try simp only [true_and, and_true, true_implies, false_implies, implies_true, not_true_eq_false, not_false_eq_true]
    first
      | exact hg
      | (repeat refine And.intro (by first | exact b1.1 | exact b1.2 | exact b2.1 | exact b2.2 | grind) ?_
         exact hg)
      | grind
  · have e : o = 4 := by clear ih hP sv old v1 v2; grind
    subst e
    have hp := hP J hR sv old v1 v2
    clear ih hP sv old v1 v2
    simp only [q254_43, q254_44, as_nil, as_i, as_r, Nat.reduceAdd, Nat.reduceLeDiff, z_eq0, z_eq1, z_or, z_em, Classical.not_not, not_false_eq_true, not_true_eq_false, true_and, and_true, false_and, and_false, and_self, true_implies, false_implies, implies_true, Option.toList_some, Option.toList_none, List.cons_append, List.nil_append, Nat.add_eq_zero_iff, a_nl_i, a_nl_r, a_nl_n, true_or, or_true, eq_self, ok_4, ok_5, ok_6, ok_7, ok_9, ok_10, ok_20, ok_21, ok_24, ok_30, ok_48, ok_50, ok_60, ok_80, ok_120, ok_180, ok_192, ok_200, ok_900, ok_1000, ok_84000]
    try simp only [true_and, and_true, true_implies, false_implies, implies_true, not_true_eq_false, not_false_eq_true]
    first
      | exact hp
      | exact ⟨fun _ => hp, fun h => absurd (by decide) h⟩
      | grind
theorem xt_ringFits_2 (hS : m_S M K L R) {z : Int32} (ez : z.toNatClampNeg = m) (hz : 2 ≤ z ∧ z ≤ 5) (ty : tyP Y m g) (h17 : Y 0 17 ≤ 30) (hgr : ∀ k, k < m → I (M + 48) k = g k) (hP : ∀ J a o, mR M J → svF M g m I J → (∀ k, k < m → (J (M + 49) k = I (M + 20) (g k).toNatClampNeg ∧ J (M + 50) k = I (M + 21) (g k).toNatClampNeg) ∧ ∀ y, y < 4 → J (M + 51) (4 * k + y) = I (M + 22) (4 * (g k).toNatClampNeg + y)) → a_at d (a_xm a_m254) 97 [some (a_rf M), some (.int z), some (.int z), a, o, none] [] (n, t, K, L, J, R) P) : ∀ i : Int32, i ≤ 5 → ∀ J a o, 0 ≤ i → i ≤ z → mR M J → svF M g i.toNatClampNeg I J → (∀ k, k < i.toNatClampNeg → (J (M + 49) k = I (M + 20) (g k).toNatClampNeg ∧ J (M + 50) k = I (M + 21) (g k).toNatClampNeg) ∧ ∀ y, y < 4 → J (M + 51) (4 * k + y) = I (M + 22) (4 * (g k).toNatClampNeg + y)) → a_at d (a_xm a_m254) 2 [some (a_rf M), some (.int z), some (.int i), a, o, none] [] (n, t, K, L, J, R) P := by
  refine up_ind 5 (fun i hk ih => ?_)
  intro J a o q0 q1 hR sv old
  rw [q254_2]
  by_cases c : i < z
  · obtain ⟨t1, t2, t3, t4⟩ := lp_st q0 c
    have hi : 0 ≤ i ∧ i < 5 := ⟨q0, Int32.lt_of_lt_of_le c hz.2⟩
    have him : i.toNatClampNeg < m := by rw [← ez]; exact cl_lt q0 c
    obtain ⟨⟨a0, a1⟩, -⟩ := ty.1 _ him
    have ha : 0 ≤ g i.toNatClampNeg ∧ g i.toNatClampNeg < 30 := ⟨a0, Int32.lt_of_lt_of_le a1 h17⟩
    have hne : ∀ k, k < i.toNatClampNeg → ¬ (g i.toNatClampNeg).toNatClampNeg = (g k).toNatClampNeg := fun k hk e => by have := ty.2.1 _ _ him (by omega) e; omega
    have e48 : J (M + 48) i.toNatClampNeg = g i.toNatClampNeg := by rw [sv.1 _ _ (by omega) (by omega) (by omega) (fun k k1 k2 => by omega)]; exact hgr _ him
    have f20 : J (M + 20) (g i.toNatClampNeg).toNatClampNeg = I (M + 20) (g i.toNatClampNeg).toNatClampNeg := sv.1 _ _ (by omega) (by omega) (by omega) (fun k k1 k2 => hne k k1 k2.2)
    have f21 : J (M + 21) (g i.toNatClampNeg).toNatClampNeg = I (M + 21) (g i.toNatClampNeg).toNatClampNeg := sv.1 _ _ (by omega) (by omega) (by omega) (fun k k1 k2 => hne k k1 k2.2)
    have r1 := rg_atBench hR (g i.toNatClampNeg).toNatClampNeg
    have r2 := rg_atShift hR (g i.toNatClampNeg).toNatClampNeg
    have c' : ¬ z ≤ i := Int32.not_le.mpr c
    have hg := xt_ringFits_41 (d := d) (n := n) (t := t) (K := K) (L := L) (R := R) (P := P) (z := z) hS ha hi (I := I) (fun J2 hR2 sv2 old2 v1 v2 => by
      have hg := ih hi.2 (a_ui (a_ui J2 (M + 20) (g i.toNatClampNeg).toNatClampNeg (-9)) (M + 21) (g i.toNatClampNeg).toNatClampNeg (-9)) (some (.int (g i.toNatClampNeg))) (some (.int 4)) t2 t3 (sR_atShift (sR_atBench hR2 (by decide)) (by decide)) (by
        rw [t4]
        refine ⟨fun x j a1 a2 a3 a4 => ?_, fun k hk => ?_⟩
        · have := a4 i.toNatClampNeg (by omega)
          rw [ui_ap, if_neg (by omega), ui_ap, if_neg (by omega)]
          exact sv2.1 x j a1 a2 a3 (fun k k1 => a4 k (by omega))
        · by_cases e : (g k).toNatClampNeg = (g i.toNatClampNeg).toNatClampNeg
          · rw [e, ui_ap, if_neg (by omega), ui_ap, if_pos ⟨rfl, rfl⟩, ui_ap, if_pos ⟨rfl, rfl⟩]
            exact ⟨rfl, rfl⟩
          · rw [ui_ap, if_neg (by omega), ui_ap, if_neg (by omega), ui_ap, if_neg (by omega), ui_ap, if_neg (by omega)]
            refine sv2.2 k ?_
            by_cases e2 : k = i.toNatClampNeg
            · exact absurd (by rw [e2]) e
            · omega) (by
        rw [t4]
        intro k hk
        rw [ui_ap, if_neg (by omega), ui_ap, if_neg (by omega), ui_ap, if_neg (by omega), ui_ap, if_neg (by omega)]
        by_cases e2 : k = i.toNatClampNeg
        · rw [e2]
          exact ⟨v1, fun y hy => by rw [ui_ap, if_neg (by omega), ui_ap, if_neg (by omega)]; exact v2 y hy⟩
        · exact ⟨(old2 k (by omega)).1, fun y hy => by rw [ui_ap, if_neg (by omega), ui_ap, if_neg (by omega)]; exact (old2 k (by omega)).2 y hy⟩)
      clear ih hP sv old sv2 old2 v1 v2
      simp only [q254_75, q254_76, q254_79, q254_80, q254_82, q254_83, q254_84, q254_87, q254_88, q254_90, q254_91, q254_94, m_0 hS, m_K hS, mR_atBench hS, mK_atBench hS, mL_atBench hS, mR_atShift hS, mK_atShift hS, mL_atShift hS, as_nil, as_i, as_r, Nat.reduceAdd, Nat.reduceLeDiff, z_eq0, z_eq1, z_or, z_em, Classical.not_not, not_false_eq_true, not_true_eq_false, true_and, and_true, false_and, and_false, and_self, true_implies, false_implies, implies_true, Option.toList_some, Option.toList_none, List.cons_append, List.nil_append, Nat.add_eq_zero_iff, a_nl_i, a_nl_r, a_nl_n, true_or, or_true, eq_self, ok_4, ok_5, ok_6, ok_7, ok_9, ok_10, ok_20, ok_21, ok_24, ok_30, ok_48, ok_50, ok_60, ok_80, ok_120, ok_180, ok_192, ok_200, ok_900, ok_1000, ok_84000, ui_ap, ne_MM, ne_M0, ne_0M, Nat.reduceEqDiff, reduceIte, if_true, if_false]
      try simp only [true_and, and_true, true_implies, false_implies, implies_true, not_true_eq_false, not_false_eq_true]
      first
        | exact hg
        | (repeat refine And.intro (by grind) ?_
           exact hg)) 0 (by decide) (a_ui (a_ui J (M + 49) i.toNatClampNeg (I (M + 20) (g i.toNatClampNeg).toNatClampNeg)) (M + 50) i.toNatClampNeg (I (M + 21) (g i.toNatClampNeg).toNatClampNeg)) (by decide) (sR_oldShift (sR_oldBench hR (by rw [← f20]; exact r1)) (by rw [← f21]; exact r2)) ⟨fun x j a1 a2 a3 a4 => by rw [ui_ap, if_neg (fun e => a2 e.1), ui_ap, if_neg (fun e => a1 e.1)]; exact sv.1 x j a1 a2 a3 a4, fun k hk => by rw [ui_ap, if_neg (by omega), ui_ap, if_neg (by omega), ui_ap, if_neg (by omega), ui_ap, if_neg (by omega)]; exact sv.2 k hk⟩ (fun k hk => ⟨by rw [ui_ap, if_neg (by omega), ui_ap, if_neg (by omega), ui_ap, if_neg (by omega), ui_ap, if_neg (by omega)]; exact (old k hk).1, fun y hy => by rw [ui_ap, if_neg (by omega), ui_ap, if_neg (by omega)]; exact (old k hk).2 y hy⟩) (by rw [ui_ap, if_neg (by omega), ui_ap, if_pos ⟨rfl, rfl⟩, ui_ap, if_pos ⟨rfl, rfl⟩]; exact ⟨rfl, rfl⟩) (fun y hy => absurd hy (Nat.not_lt_zero y))
    clear ih hP sv old hne
    simp only [q254_3, q254_4, q254_7, q254_8, q254_11, q254_12, q254_13, q254_14, q254_15, q254_18, q254_19, q254_20, q254_23, q254_24, q254_25, q254_26, q254_27, q254_30, q254_31, q254_32, q254_35, q254_36, q254_37, q254_38, q254_39, m_0 hS, m_K hS, mR_ringAsk hS, mK_ringAsk hS, mL_ringAsk hS, mR_oldBench hS, mK_oldBench hS, mL_oldBench hS, mR_atBench hS, mK_atBench hS, mL_atBench hS, mR_oldShift hS, mK_oldShift hS, mL_oldShift hS, mR_atShift hS, mK_atShift hS, mL_atShift hS, as_nil, as_i, as_r, Nat.reduceAdd, Nat.reduceLeDiff, z_eq0, z_eq1, z_or, z_em, Classical.not_not, not_false_eq_true, not_true_eq_false, true_and, and_true, false_and, and_false, and_self, true_implies, false_implies, implies_true, Option.toList_some, Option.toList_none, List.cons_append, List.nil_append, Nat.add_eq_zero_iff, a_nl_i, a_nl_r, a_nl_n, true_or, or_true, eq_self, ok_4, ok_5, ok_6, ok_7, ok_9, ok_10, ok_20, ok_21, ok_24, ok_30, ok_48, ok_50, ok_60, ok_80, ok_120, ok_180, ok_192, ok_200, ok_900, ok_1000, ok_84000, ui_ap, ne_MM, ne_M0, ne_0M, Nat.reduceEqDiff, reduceIte, if_true, if_false, e48, f20, f21, c']
    try simp only [true_and, and_true, true_implies, false_implies, implies_true, not_true_eq_false, not_false_eq_true]
    first
      | exact hg
      | (repeat refine And.intro (by grind) ?_
         exact hg)
      | grind
  · have e := (lp_end q1 c).2
    have hp := hP J a o hR (by rw [e, ez] at sv; exact sv) (by rw [e, ez] at old; exact old)
    have c' : z ≤ i := Int32.not_lt.mp c
    subst e
    clear ih hP sv old
    simp only [q254_3, q254_4, as_nil, as_i, as_r, Nat.reduceAdd, Nat.reduceLeDiff, z_eq0, z_eq1, z_or, z_em, Classical.not_not, not_false_eq_true, not_true_eq_false, true_and, and_true, false_and, and_false, and_self, true_implies, false_implies, implies_true, Option.toList_some, Option.toList_none, List.cons_append, List.nil_append, Nat.add_eq_zero_iff, a_nl_i, a_nl_r, a_nl_n, true_or, or_true, eq_self, ok_4, ok_5, ok_6, ok_7, ok_9, ok_10, ok_20, ok_21, ok_24, ok_30, ok_48, ok_50, ok_60, ok_80, ok_120, ok_180, ok_192, ok_200, ok_900, ok_1000, ok_84000, c']
    try simp only [true_and, and_true, true_implies, false_implies, implies_true, not_true_eq_false, not_false_eq_true]
    first
      | exact hp
      | grind
end ZDD
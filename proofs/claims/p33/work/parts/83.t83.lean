/-! the class: a ring is tried just so, whole -/
section ZT0
variable {d n t C c : Nat} {K L : Nat → Nat} {I I0 J J0 J1 J2 : Nat → Nat → Int32} {R : Nat → Nat → Nat} {P : Option Value → AH → Prop}
variable {Y Z W : Nat → Nat → Int32} {m : Nat} {g : Nat → Int32}
theorem qF_C {p : Nat} (h : qF C R Y g p m I J) (h2 : dC C K L R J J2) : qF C R Y g p m I J2 := fun x j n1 n2 n3 => (h2.2 x j n1 n2).trans (h x j n1 n2 n3)
theorem le_turn_lift_6 (hT0 : cT C K L I R) (hc : cpP C K L I R Y) (hse : seP C R Y) (tp : tuP C R Y m g) {z : Int32} (ez : z.toNatClampNeg = m) (hz : 1 ≤ z ∧ z ≤ 5) (es : I (C + 35) 7 = z) (hP : ∀ J, cT C K L J R → cpP C K L J R (rgU g Y m) → qF C R Y g 0 m I J → ∀ u v w q r, a_at (d + 5) (a_xm a_m153) 33 [some (a_rf (C + 35)), u, v, w, q, r] [] (n, t, K, L, J, R) P) : ∀ i : Int32, i ≤ 5 → ∀ J v w q r, 0 ≤ i → i ≤ z → cT C K L J R → cpP C K L J R (rgU g Y i.toNatClampNeg) → qF C R Y g 0 m I J → a_at (d + 5) (a_xm a_m153) 6 [some (a_rf (C + 35)), some (.int i), v, w, q, r] [] (n, t, K, L, J, R) P := by
  refine up_ind 5 (fun i hk ih => ?_)
  intro J v w q r q0 q1 hT hcJ hq
  have hS := hT.s
  have e7 : J (C + 35) 7 = z := (qF_c hT0 hc hse tp hq (k := 35) (by omega) 7).trans es
  rw [q153_6]
  by_cases c : z ≤ i
  · have e : i = z := by clear hP ih; grind
    have hp := hP J hT (by rw [e, ez] at hcJ; exact hcJ) hq
    clear hP ih hc hcJ
    simp only [q153_7, q153_8, q153_11, k_35 hS, z_35, as_nil, as_i, as_r, Nat.reduceAdd, Nat.reduceLeDiff, z_eq0, z_eq1, z_or, z_em, Classical.not_not, not_false_eq_true, not_true_eq_false, true_and, and_true, false_and, and_false, and_self, true_implies, false_implies, implies_true, Option.toList_some, Option.toList_none, List.cons_append, List.nil_append, Nat.add_eq_zero_iff, a_nl_i, a_nl_r, a_nl_n, true_or, or_true, eq_self, a_isRA_22, a_isRA_24, a_isRA_32, a_isA_20, ok_4, ok_5, ok_6, ok_7, ok_9, ok_20, ok_21, ok_30, ok_50, ok_180, ok_192, ok_200, e7]
    exact ⟨fun _ => hp _ _ _ _ _, fun h => absurd c h⟩
  · have h1 := Int32.not_le.mp c
    have hi : 0 ≤ i ∧ i < 5 := ⟨q0, Int32.lt_of_lt_of_le h1 hz.2⟩
    have him : i.toNatClampNeg < m := by rw [← ez]; exact cl_lt q0 h1
    obtain ⟨t1, t2, t3, t4⟩ := lp_st q0 h1
    obtain ⟨⟨pa, p6⟩, -, -, -, e10⟩ := tp_pl hc tp him
    obtain ⟨⟨a0, a1⟩, -, er⟩ := tp.1 _ him
    have ha := tp_a hT0 hc tp him
    have an0 : ¬ (R (C + 15) (g i.toNatClampNeg).toNatClampNeg) = 0 := by omega
    have o20 := rgU_o (g := g) (Y := Y) (q := 20) (j := (g i.toNatClampNeg).toNatClampNeg) i.toNatClampNeg (fun k hk e => by have := tp.2.1 _ _ him (by omega) e; omega)
    have o21 := rgU_o (g := g) (Y := Y) (q := 21) (j := (g i.toNatClampNeg).toNatClampNeg) i.toNatClampNeg (fun k hk e => by have := tp.2.1 _ _ him (by omega) e; omega)
    have o10 : rgU g Y i.toNatClampNeg 10 = Y 10 := sbE_r (rgU_b _) (by omega)
    have e17 : rgU g Y i.toNatClampNeg 0 17 = Y 0 17 := rgU_s i.toNatClampNeg 0 17 (by unfold ss ps1; omega)
    have ap := aa_of hcJ (i := g i.toNatClampNeg) a0 (by rw [e17]; exact a1)
    have hcall := cx_lift (d := d + 1) (n := n) (t := t) hT hcJ (se_b hse (rgU_b _)) ap rfl (by rw [o20]; exact pa) (P := fun r' h' => a_at (d + 5) (a_xm a_m153) 27 [some (a_rf (C + 35)), some (.int i), v, w, q, r] (r'.toList ++ []) h' P) (fun J2 j2 c2 f2 => by
      have hS2 := j2.1.s
      have hg := ih hi.2 J2 v w q r t2 t3 j2.1 (by rw [t4]; exact c2) (fun x j n1 n2 n3 => by
        rw [f2 x j (fun e => ?_) (fun e => n3 i.toNatClampNeg (by omega) him (Or.inr e))]
        · exact hq x j n1 n2 n3
        · rw [o20, o21, o10] at e
          exact n3 i.toNatClampNeg (by omega) him (Or.inl (by rw [← e10]; exact e)))
      clear ih hP hc hcJ c2 f2
      simp only [q153_27, q153_30, as_nil, as_i, as_r, Nat.reduceAdd, Nat.reduceLeDiff, z_eq0, z_eq1, z_or, z_em, Classical.not_not, not_false_eq_true, not_true_eq_false, true_and, and_true, false_and, and_false, and_self, true_implies, false_implies, implies_true, Option.toList_some, Option.toList_none, List.cons_append, List.nil_append, Nat.add_eq_zero_iff, a_nl_i, a_nl_r, a_nl_n, true_or, or_true, eq_self, a_isRA_22, a_isRA_24, a_isRA_32, a_isA_20, ok_4, ok_5, ok_6, ok_7, ok_9, ok_20, ok_21, ok_30, ok_50, ok_180, ok_192, ok_200]
      exact hg)
    clear hP ih hc hcJ
    simp only [q153_7, q153_8, q153_11, q153_14, q153_15, q153_18, q153_19, q153_22, q153_23, q153_24, k_35 hS, z_35, r_35_0 hS, k_14 hS, z_14, r_35_3 hS, k_38 hS, l_38 hS, z_38, as_nil, as_i, as_r, Nat.reduceAdd, Nat.reduceLeDiff, z_eq0, z_eq1, z_or, z_em, Classical.not_not, not_false_eq_true, not_true_eq_false, true_and, and_true, false_and, and_false, and_self, true_implies, false_implies, implies_true, Option.toList_some, Option.toList_none, List.cons_append, List.nil_append, Nat.add_eq_zero_iff, a_nl_i, a_nl_r, a_nl_n, true_or, or_true, eq_self, a_isRA_22, a_isRA_24, a_isRA_32, a_isA_20, ok_4, ok_5, ok_6, ok_7, ok_9, ok_20, ok_21, ok_30, ok_50, ok_180, ok_192, ok_200, e7, hi, er, an0, ha]
    refine ⟨fun h => absurd h c, fun _ => ?_⟩
    try simp only [true_and, and_true, true_implies, false_implies, implies_true, not_true_eq_false, not_false_eq_true]
    first
      | exact hcall
      | exact ⟨hi, hcall⟩
end ZT0
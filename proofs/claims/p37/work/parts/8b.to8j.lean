section
/-! the class: swap, whole -/
section ZBB
variable {d n t C c : Nat} {K L : Nat → Nat} {I I0 J J0 J1 J2 : Nat → Nat → Int32} {R : Nat → Nat → Nat} {P : Option Value → AH → Prop}
variable {Y Z W : Nat → Nat → Int32} {R' R1 R2 : Nat → Nat → Nat} {K' L' : Nat → Nat} {m : Nat} {g : Nat → Int32}
theorem dQ_l {m : Nat} (h : dL C K L R I J) : dQ C m K L I R m K L J R := ⟨Nat.le_refl _, fun _ _ => rfl, fun _ _ => rfl, fun _ _ _ _ => rfl, fun x j _ n1 n2 n3 => h.2 x j n1 n2 (fun q => n3 ⟨q.1, q.2.imp id Or.inl⟩)⟩
/-- tuples by the words alone -/
def tyP (Y : Nat → Nat → Int32) (m : Nat) (g : Nat → Int32) : Prop := (∀ k, k < m → (0 ≤ g k ∧ g k < Y 0 17) ∧ 0 ≤ Y 20 (g k).toNatClampNeg) ∧ (∀ k j, k < m → j < m → (g k).toNatClampNeg = (g j).toNatClampNeg → k = j) ∧ ∀ k, k < m → Y 10 (g k).toNatClampNeg = (Y 10 (g 0).toNatClampNeg)
theorem rg_ty (r : rgA Y m g) : tyP Y m g := by
  refine ⟨fun k hk => ⟨(r.1.1 k hk).1, (r.1.1 k hk).2.1⟩, fun k j hk hj e => ?_, fun k hk => ?_⟩
  · rcases Nat.lt_trichotomy k j with w | w | w
    · exact absurd (by rw [e]) (r.1.2.2.1 k j w hj)
    · exact w
    · exact absurd (by rw [e]) (r.1.2.2.1 j k w hk)
  · by_cases c : k = 0
    · rw [c]
    · have := (r.1.2.1 (k - 1) (by omega)).2.2
      rw [show k - 1 + 1 = k by omega] at this
      exact this
theorem le_swap_35 {z : Int32} (ez : z.toNatClampNeg = m) (hz : 1 ≤ z ∧ z ≤ 5) (tp : tyP Y m g) (hr : ∀ k, k < m → rgF Y m g k) (yl : ∀ k, k < m → (0 ≤ Y 20 (g k).toNatClampNeg ∧ Y 20 (g k).toNatClampNeg < Y 0 6) ∧ (0 ≤ (Y 21 (g k).toNatClampNeg) ∧ (Y 21 (g k).toNatClampNeg) ≤ 199) ∧ (Y 21 (g k).toNatClampNeg) + (Y 10 (g 0).toNatClampNeg) ≤ 200) (hno : noP Y) (hP : ∀ J, cH C c (n + 1) t K L J R1 → cuP C K L J R1 (swS g m Y m) → P (some (.int z)) (n + 1, t, K, L, J, R1)) : ∀ i : Int32, i ≤ 5 → ∀ J w, 0 ≤ i → i ≤ z → cH C c (n + 1) t K L J R1 → cuP C K L J R1 (swS g m Y i.toNatClampNeg) → (∀ k, k < m → (J (C + 39) k = Y 20 (g k).toNatClampNeg ∧ J (C + 40) k = (Y 21 (g k).toNatClampNeg)) ∧ R1 (C + 38) k = R1 (C + 15) (g k).toNatClampNeg) → J (C + 35) 7 = z → a_at (d + 7) (a_xm a_m159) 35 [some (a_rf (C + 35)), some (.int i), w] [] (n + 1, t, K, L, J, R1) P := by
  refine up_ind 5 (fun i hk ih => ?_)
  intro J w q0 q1 hH hu kv e7
  have hT := hH.1
  have hS := hT.s
  have hz0 : ¬ z = 0 := by clear hP ih; grind
  rw [q159_35]
  by_cases c : z ≤ i
  · have e : i = z := by clear hP ih; grind
    have hp := hP J hH (by rw [e, ez] at hu; exact hu)
    clear hP ih hu
    simp only [q159_36, q159_37, q159_40, q159_98, q159_99, q159_102, k_35 hS, z_35, as_nil, as_i, as_r, Nat.reduceAdd, Nat.reduceLeDiff, z_eq0, z_eq1, z_or, z_em, Classical.not_not, not_false_eq_true, not_true_eq_false, true_and, and_true, false_and, and_false, and_self, true_implies, false_implies, implies_true, Option.toList_some, Option.toList_none, List.cons_append, List.nil_append, Nat.add_eq_zero_iff, a_nl_i, a_nl_r, a_nl_n, true_or, or_true, eq_self, a_isRA_22, a_isRA_24, a_isRA_32, a_isA_20, ok_4, ok_5, ok_6, ok_7, ok_9, ok_20, ok_21, ok_30, ok_50, ok_180, ok_192, ok_200, e7]
    try simp only [true_and, and_true, true_implies, false_implies, implies_true, not_true_eq_false, not_false_eq_true]
    first
      | exact ⟨fun _ => hp, fun h => absurd c h⟩
      | exact hp
      | grind
  · have h1 := Int32.not_le.mp c
    have hi : 0 ≤ i ∧ i < 5 := ⟨q0, Int32.lt_of_lt_of_le h1 hz.2⟩
    have him : i.toNatClampNeg < m := by rw [← ez]; exact cl_lt q0 h1
    have hnm := nxN_lt (m := m) him
    have hx := nxt_lt hz.2 q0 h1
    have hx5 : 0 ≤ nxt z i ∧ nxt z i < 5 := ⟨hx.1, Int32.lt_of_lt_of_le hx.2 hz.2⟩
    have exn : (nxt z i).toNatClampNeg = (nxN m i.toNatClampNeg) := by rw [nxt_nx hz.2 q0 h1, ez]
    obtain ⟨t1, t2, t3, t4⟩ := lp_st q0 h1
    obtain ⟨⟨pb, pb6⟩, ps, psl⟩ := yl _ hnm
    obtain ⟨⟨a0, a1⟩, -⟩ := tp.1 _ him
    obtain ⟨⟨v39, v40⟩, -⟩ := kv _ hnm
    have er := (kv _ him).2
    have e10 := tp.2.2 _ him
    have r20 : (swS g m Y i.toNatClampNeg) 20 = (rgP g m Y (rgU g Y m) i.toNatClampNeg) 20 := sw_row (by decide) _
    have r21 : (swS g m Y i.toNatClampNeg) 21 = (rgP g m Y (rgU g Y m) i.toNatClampNeg) 21 := sw_row (by decide) _
    have r10 : (swS g m Y i.toNatClampNeg) 10 = (rgP g m Y (rgU g Y m) i.toNatClampNeg) 10 := sw_row (by decide) _
    have r14 : (swS g m Y i.toNatClampNeg) 14 = (rgP g m Y (rgU g Y m) i.toNatClampNeg) 14 := sw_row (by decide) _
    have r0 : (swS g m Y i.toNatClampNeg) 0 = (rgP g m Y (rgU g Y m) i.toNatClampNeg) 0 := sw_row (by decide) _
    have sW : ssE Y (rgP g m Y (rgU g Y m) i.toNatClampNeg) := ss_tr (rgU_s m) (rgP_s _)
    have e17 : (swS g m Y i.toNatClampNeg) 0 17 = Y 0 17 := by rw [r0]; exact sW 0 17 (by unfold ss ps1; omega)
    have e06 : (swS g m Y i.toNatClampNeg) 0 6 = Y 0 6 := by rw [r0]; exact sW 0 6 (by unfold ss ps1; omega)
    have o10 : (swS g m Y i.toNatClampNeg) 10 = Y 10 := by rw [r10]; exact rg_10 _
    have un : ¬ 0 ≤ (swS g m Y i.toNatClampNeg) 20 (g i.toNatClampNeg).toNatClampNeg := by
      rw [r20, rgP_o (g := g) (by decide) i.toNatClampNeg (fun k hk e => by have := tp.2.1 _ _ him (by omega) e; omega), rgU_at (g := g) (Or.inl rfl) m i.toNatClampNeg him]
      decide
    have hc := hu.1
    have ag : 0 ≤ g i.toNatClampNeg ∧ g i.toNatClampNeg < (swS g m Y i.toNatClampNeg) 0 17 := ⟨a0, by rw [e17]; exact a1⟩
    have ap := aa_of hc (i := g i.toNatClampNeg) ag.1 ag.2
    have hb : 0 ≤ (Y 20 (g (nxN m i.toNatClampNeg)).toNatClampNeg) ∧ (Y 20 (g (nxN m i.toNatClampNeg)).toNatClampNeg) < (swS g m Y i.toNatClampNeg) 0 6 := by rw [e06]; exact ⟨pb, pb6⟩
    have hsl : (Y 21 (g (nxN m i.toNatClampNeg)).toNatClampNeg) + (swS g m Y i.toNatClampNeg) 10 (g i.toNatClampNeg).toNatClampNeg ≤ 200 := by rw [o10, e10]; exact psl
    have l4 := hc.2.2.2.2.2.1 (g i.toNatClampNeg).toNatClampNeg
    obtain ⟨-, ⟨ha, an0, -⟩, -⟩ := id ap
    have hx96 := (hT.g_ask _ ha).1
    have x39 : J (C + 39) (nxt z i).toNatClampNeg = (Y 20 (g (nxN m i.toNatClampNeg)).toNatClampNeg) := by rw [exn]; exact v39
    have x40 : J (C + 40) (nxt z i).toNatClampNeg = (Y 21 (g (nxN m i.toNatClampNeg)).toNatClampNeg) := by rw [exn]; exact v40
    have fr : ∀ y : Int32, 0 ≤ y → y < (swS g m Y i.toNatClampNeg) 10 (g i.toNatClampNeg).toNatClampNeg → whC C J R1 (Y 20 (g (nxN m i.toNatClampNeg)).toNatClampNeg) ((Y 21 (g (nxN m i.toNatClampNeg)).toNatClampNeg) + y).toNatClampNeg = -9 := fun y y0 y1 => by
      have hsz := (sh_lt (i := y) ⟨ps.1, Int32.le_trans ps.2 (by decide)⟩ l4 hsl ⟨y0, Int32.le_of_lt y1⟩).1 y1
      refine hg_free hc ag hb hsz.1 un ?_
      have hf := (br_fx (ft_br (hr _ him) y0 (by rw [← r10]; exact y1))).2
      rw [hgI_r (Y := (rgP g m Y (rgU g Y m) i.toNatClampNeg)) (fun q hq => by rcases hq with h | h | h | h <;> subst h <;> assumption), r0]
      exact hf
    have hcall := ce_place (d := d + 1) (n := n + 1) (t := t) hT hc hu.2.1 ap rfl hb ps hsl un fr (P := fun r' h' => a_at (d + 7) (a_xm a_m159) 77 [some (a_rf (C + 35)), some (.int i), some (.int (nxt z i))] (r'.toList ++ []) h' P) (fun J2 j2 c2 z2 => by
      have hH2 := cH_J hH j2.1
      have hS2 := j2.1.s
      have hu2 := cu_Q hH hu (dQ_l j2) c2 hu.2.1 ss_pu ag z2 (no_pu hb.1 hu.2.2.2.1)
      have hu3 := cu_clW hH2 hu2 (a := g i.toNatClampNeg) ag
      have hH3 := cH_J hH2 (sT_Circle_wishes (k := (g i.toNatClampNeg).toNatClampNeg) (v := 0) j2.1)
      have f4 : J2 (R1 (C + 15) (g i.toNatClampNeg).toNatClampNeg) 4 = g i.toNatClampNeg := (aa_of c2 (i := g i.toNatClampNeg) ag.1 ag.2).2.1.2.2
      have fC : ∀ k, k ≤ 43 → ¬ k = 9 ∧ ¬ k = 10 ∧ ¬ k = 36 → ∀ j, a_ui J2 (C + 36) (g i.toNatClampNeg).toNatClampNeg 0 (C + k) j = J (C + k) j := fun k hk hn j => by
        rw [ui_ap, if_neg (by omega)]
        exact j2.2 _ _ (by omega) (by omega) (by omega)
      have g30 : 0 ≤ g i.toNatClampNeg ∧ g i.toNatClampNeg < 30 := ⟨a0, Int32.lt_of_lt_of_le ag.2 hc.2.2.2.2.2.2.2.2.1.2⟩
      have hg := ih hi.2 _ (some (.int (nxt z i))) t2 t3 hH3 (by rw [t4]; exact hu3) (fun k hk => by
        rw [fC 39 (by omega) (by omega), fC 40 (by omega) (by omega)]
        exact kv k hk) ((fC 35 (by omega) (by omega) 7).trans e7)
      clear ih hP hu hc c2 hu2 hu3 kv yl tp hr
      simp only [q159_77, q159_78, q159_81, q159_82, q159_85, q159_86, q159_87, q159_90, q159_91, q159_92, q159_95, k_35 hS, z_35, r_35_1 hS, k_36 hS, l_36 hS, z_36, r_35_3 hS, k_38 hS, l_38 hS, z_38, as_nil, as_i, as_r, Nat.reduceAdd, Nat.reduceLeDiff, z_eq0, z_eq1, z_or, z_em, Classical.not_not, not_false_eq_true, not_true_eq_false, true_and, and_true, false_and, and_false, and_self, true_implies, false_implies, implies_true, Option.toList_some, Option.toList_none, List.cons_append, List.nil_append, Nat.add_eq_zero_iff, a_nl_i, a_nl_r, a_nl_n, true_or, or_true, eq_self, a_isRA_22, a_isRA_24, a_isRA_32, a_isA_20, ok_4, ok_5, ok_6, ok_7, ok_9, ok_20, ok_21, ok_30, ok_50, ok_180, ok_192, ok_200, ui_ap, cc_ne, cc_n0, cc_0n, Nat.reduceEqDiff, reduceIte, if_true, if_false, er, ha, an0, f4]
      try simp only [true_and, and_true, true_implies, false_implies, implies_true, not_true_eq_false, not_false_eq_true]
      first
        | exact ⟨hi, g30, hg⟩
        | exact hg
        | grind)
    clear ih hP hu hc kv yl tp hr fr
    simp only [q159_36, q159_37, q159_40, q159_43, q159_44, q159_45, q159_46, q159_47, q159_50, q159_51, q159_52, q159_53, q159_56, q159_57, q159_60, q159_61, q159_62, q159_63, q159_66, q159_67, q159_68, q159_69, q159_72, q159_73, q159_74, k_35 hS, z_35, r_35_0 hS, k_14 hS, z_14, r_35_3 hS, k_38 hS, l_38 hS, z_38, r_35_4 hS, k_39 hS, l_39 hS, z_39, r_35_5 hS, k_40 hS, l_40 hS, z_40, as_nil, as_i, as_r, Nat.reduceAdd, Nat.reduceLeDiff, z_eq0, z_eq1, z_or, z_em, Classical.not_not, not_false_eq_true, not_true_eq_false, true_and, and_true, false_and, and_false, and_self, true_implies, false_implies, implies_true, Option.toList_some, Option.toList_none, List.cons_append, List.nil_append, Nat.add_eq_zero_iff, a_nl_i, a_nl_r, a_nl_n, true_or, or_true, eq_self, a_isRA_22, a_isRA_24, a_isRA_32, a_isA_20, ok_4, ok_5, ok_6, ok_7, ok_9, ok_20, ok_21, ok_30, ok_50, ok_180, ok_192, ok_200, e7, hz0]
    refine ⟨fun h => absurd h c, fun _ => ?_⟩
    show (0 ≤ i ∧ i < 5) ∧ (0 ≤ nxt z i ∧ nxt z i < 5) ∧ (0 ≤ nxt z i ∧ nxt z i < 5) ∧ _
    refine ⟨hi, hx5, hx5, ?_⟩
    rw [er]
    have hcall2 := hcall
    rw [← x39, ← x40] at hcall2
    exact hcall2
theorem le_swap_6 {z : Int32} (ez : z.toNatClampNeg = m) (hz : 1 ≤ z ∧ z ≤ 5) (tp : tyP Y m g) (hP : ∀ n t K L J R1 w, cH C c (n + 1) t K L J R1 → cuP C K L J R1 (rgU g Y m) → (∀ k, k < m → (J (C + 39) k = Y 20 (g k).toNatClampNeg ∧ J (C + 40) k = (Y 21 (g k).toNatClampNeg)) ∧ R1 (C + 38) k = R1 (C + 15) (g k).toNatClampNeg) → J (C + 35) 7 = z → a_at (d + 7) (a_xm a_m159) 33 [some (a_rf (C + 35)), w, none] [] (n + 1, t, K, L, J, R1) P) : ∀ i : Int32, i ≤ 5 → ∀ n t K L J R1, 0 ≤ i → i ≤ z → cH C c (n + 1) t K L J R1 → cuP C K L J R1 (rgU g Y i.toNatClampNeg) → (∀ k, k < m → (J (C + 39) k = Y 20 (g k).toNatClampNeg ∧ J (C + 40) k = (Y 21 (g k).toNatClampNeg)) ∧ R1 (C + 38) k = R1 (C + 15) (g k).toNatClampNeg) → J (C + 35) 7 = z → a_at (d + 7) (a_xm a_m159) 6 [some (a_rf (C + 35)), some (.int i), none] [] (n + 1, t, K, L, J, R1) P := by
  refine up_ind 5 (fun i hk ih => ?_)
  intro n t K L J R1 q0 q1 hH hu kv e7
  have hT := hH.1
  have hS := hT.s
  rw [q159_6]
  by_cases c : z ≤ i
  · have e : i = z := by clear hP ih; grind
    have hp := hP n t K L J R1 (some (.int i)) hH (by rw [e, ez] at hu; exact hu) kv e7
    clear hP ih hu
    simp only [q159_7, q159_8, q159_11, k_35 hS, z_35, as_nil, as_i, as_r, Nat.reduceAdd, Nat.reduceLeDiff, z_eq0, z_eq1, z_or, z_em, Classical.not_not, not_false_eq_true, not_true_eq_false, true_and, and_true, false_and, and_false, and_self, true_implies, false_implies, implies_true, Option.toList_some, Option.toList_none, List.cons_append, List.nil_append, Nat.add_eq_zero_iff, a_nl_i, a_nl_r, a_nl_n, true_or, or_true, eq_self, a_isRA_22, a_isRA_24, a_isRA_32, a_isA_20, ok_4, ok_5, ok_6, ok_7, ok_9, ok_20, ok_21, ok_30, ok_50, ok_180, ok_192, ok_200, e7]
    try simp only [true_and, and_true, true_implies, false_implies, implies_true, not_true_eq_false, not_false_eq_true]
    first
      | exact ⟨fun _ => hp, fun h => absurd c h⟩
      | exact hp
      | grind
  · have h1 := Int32.not_le.mp c
    have hi : 0 ≤ i ∧ i < 5 := ⟨q0, Int32.lt_of_lt_of_le h1 hz.2⟩
    have him : i.toNatClampNeg < m := by rw [← ez]; exact cl_lt q0 h1
    obtain ⟨t1, t2, t3, t4⟩ := lp_st q0 h1
    obtain ⟨⟨a0, a1⟩, pa⟩ := tp.1 _ him
    have er := (kv _ him).2
    have o20 := rgU_o (g := g) (Y := Y) (q := 20) (j := (g i.toNatClampNeg).toNatClampNeg) i.toNatClampNeg (fun k hk e => by have := tp.2.1 _ _ him (by omega) e; omega)
    have e17 : rgU g Y i.toNatClampNeg 0 17 = Y 0 17 := rgU_s i.toNatClampNeg 0 17 (by unfold ss ps1; omega)
    have hc := hu.1
    have ag : 0 ≤ g i.toNatClampNeg ∧ g i.toNatClampNeg < rgU g Y i.toNatClampNeg 0 17 := ⟨a0, by rw [e17]; exact a1⟩
    have ap := aa_of hc (i := g i.toNatClampNeg) ag.1 ag.2
    obtain ⟨-, ⟨ha, an0, -⟩, -⟩ := id ap
    have c96 : C + 96 < n + 1 := hH.2.2.1
    have hcall := ce_clear (d := d + 2) hH hc hu.2.1 ap rfl (P := fun r' h' => a_at (d + 7) (a_xm a_m159) 27 [some (a_rf (C + 35)), some (.int i), none] (r'.toList ++ []) h' P) (fun n2 t2' K2 L2 J2 R2 h2 hQ c2 s2 r15 z2 => by
      have hS2 := h2.1.s
      have hu2 := cu_Q hH hu hQ c2 s2 ss_un ag z2 (no_un hu.2.2.2.1)
      have hg := ih hi.2 n2 t2' K2 L2 J2 R2 t2 t3 h2 (by rw [t4]; exact hu2) (fun k hk => by
        rw [hQ.2.2.2.2 _ _ (by omega) (by omega) (by omega) (by omega), hQ.2.2.2.2 _ _ (by omega) (by omega) (by omega) (by omega), hQ.2.2.2.1 (C + 38) _ (by omega) (by rw [k_38 hS]; decide), r15]
        exact kv k hk) (by rw [hQ.2.2.2.2 _ _ (by omega) (by omega) (by omega) (by omega)]; exact e7)
      clear ih hP hu hc c2 hu2 kv tp
      simp only [q159_27, q159_30, as_nil, as_i, as_r, Nat.reduceAdd, Nat.reduceLeDiff, z_eq0, z_eq1, z_or, z_em, Classical.not_not, not_false_eq_true, not_true_eq_false, true_and, and_true, false_and, and_false, and_self, true_implies, false_implies, implies_true, Option.toList_some, Option.toList_none, List.cons_append, List.nil_append, Nat.add_eq_zero_iff, a_nl_i, a_nl_r, a_nl_n, true_or, or_true, eq_self, a_isRA_22, a_isRA_24, a_isRA_32, a_isA_20, ok_4, ok_5, ok_6, ok_7, ok_9, ok_20, ok_21, ok_30, ok_50, ok_180, ok_192, ok_200]
      exact hg) (by rw [o20]; exact pa)
    clear ih hP hu hc kv tp
    simp only [q159_7, q159_8, q159_11, q159_14, q159_15, q159_18, q159_19, q159_22, q159_23, q159_24, k_35 hS, z_35, r_35_0 hS, k_14 hS, z_14, r_35_3 hS, k_38 hS, l_38 hS, z_38, as_nil, as_i, as_r, Nat.reduceAdd, Nat.reduceLeDiff, z_eq0, z_eq1, z_or, z_em, Classical.not_not, not_false_eq_true, not_true_eq_false, true_and, and_true, false_and, and_false, and_self, true_implies, false_implies, implies_true, Option.toList_some, Option.toList_none, List.cons_append, List.nil_append, Nat.add_eq_zero_iff, a_nl_i, a_nl_r, a_nl_n, true_or, or_true, eq_self, a_isRA_22, a_isRA_24, a_isRA_32, a_isA_20, ok_4, ok_5, ok_6, ok_7, ok_9, ok_20, ok_21, ok_30, ok_50, ok_180, ok_192, ok_200, e7, hi, er, an0, ha]
    refine ⟨fun h => absurd h c, fun _ => ?_⟩
    try simp only [true_and, and_true, true_implies, false_implies, implies_true, not_true_eq_false, not_false_eq_true]
    first
      | exact hcall
      | exact ⟨hi, hcall⟩
end ZBB
end
section
/-! the class: swap, the public call -/
section ZCC
variable {d n t C c : Nat} {K L : Nat → Nat} {I I0 J J0 J1 J2 : Nat → Nat → Int32} {R : Nat → Nat → Nat} {P : Option Value → AH → Prop}
variable {Y Z W : Nat → Nat → Int32} {R' R1 R2 : Nat → Nat → Nat} {K' L' : Nat → Nat} {m : Nat} {g : Nat → Int32}
theorem kp_fq (hH : cH C c n t K L I R) (hT : cT C K L J R) {g : Nat → Int32} {p q : Nat} (k : kpP C R Y g I p q J) : fqP C c n t K L I R J R := ⟨cH_J hH hT, fun _ _ _ _ _ => rfl, fun x j _ _ _ _ a5 a6 a7 => k.1 x j a5 a6 a7⟩
theorem ce_turn {z : Int32} (ez : z.toNatClampNeg = m) (hz : 1 ≤ z ∧ z ≤ 5) (hH : cH C c (n + 1) t K L I R) (hu : cuP C K L I R Y) (r : rgA Y m g) (hb : mbP C R Y m g) (es : I (C + 35) 7 = z) (hP : ∀ n' t' K' L' J R', cH C c (n' + 1) t' K' L' J R' → cuP C K' L' J R' (swS g m Y m) → P (some (.int z)) (n' + 1, t', K', L', J, R')) : a_does (d + 8) 159 [a_rf (C + 35)] (n + 1, t, K, L, I, R) P := by
  have hT := hH.1
  have hS := hT.s
  have ty := rg_ty r
  have tp : tuP C R Y m g := ⟨fun k hk => ⟨(ty.1 k hk).1, (ty.1 k hk).2, (hb k hk).2⟩, ty.2.1, ty.2.2⟩
  have hz0 : 0 ≤ z ∧ z ≤ 5 := ⟨Int32.le_trans (by decide) hz.1, hz.2⟩
  have hno0 : noP Y := hu.2.2.2.1
  have yl : ∀ k, k < m → (0 ≤ Y 20 (g k).toNatClampNeg ∧ Y 20 (g k).toNatClampNeg < Y 0 6) ∧ (0 ≤ (Y 21 (g k).toNatClampNeg) ∧ (Y 21 (g k).toNatClampNeg) ≤ 199) ∧ (Y 21 (g k).toNatClampNeg) + (Y 10 (g 0).toNatClampNeg) ≤ 200 := fun k hk => by
    obtain ⟨a1, a2, a3, -⟩ := tp_pl hu.1 tp hk
    exact ⟨a1, a2, a3⟩
  have hmain := ce_keep (d := d + 5) (n := n + 1) (t := t) hT hu.1 hu.2.1 tp ez hz0 es (P := fun r' h' => a_at (d + 7) (a_xm a_m159) 4 [some (a_rf (C + 35)), none, none] (r'.toList ++ []) h' P) (fun J1 T1 k1 => by
    have hS1 := T1.s
    have q1 := kp_fq hH T1 k1
    have hu1 := fq_cu hH hu q1
    have e7 : J1 (C + 35) 7 = z := (k1.1 _ _ (by omega) (by omega) (by omega)).trans es
    have hl := le_swap_6 (d := d) (c := c) (C := C) (P := P) ez hz ty (fun n t K L J R1 w hH hu kv e7 => by
      have hS := hH.1.s
      have hg := le_swap_35 (d := d) (n := n) (t := t) (P := P) (R1 := R1) ez hz ty r.2 yl hno0 (fun J2 h2 u2 => hP n t K L J2 R1 h2 u2) 0 (by decide) J none (by decide) hz0.1 hH hu kv e7
      clear hP hu kv
      simp only [q159_33, q159_34, as_nil, as_i, as_r, Nat.reduceAdd, Nat.reduceLeDiff, z_eq0, z_eq1, z_or, z_em, Classical.not_not, not_false_eq_true, not_true_eq_false, true_and, and_true, false_and, and_false, and_self, true_implies, false_implies, implies_true, Option.toList_some, Option.toList_none, List.cons_append, List.nil_append, Nat.add_eq_zero_iff, a_nl_i, a_nl_r, a_nl_n, true_or, or_true, eq_self, a_isRA_22, a_isRA_24, a_isRA_32, a_isA_20, ok_4, ok_5, ok_6, ok_7, ok_9, ok_20, ok_21, ok_30, ok_50, ok_180, ok_192, ok_200]
      exact hg) 0 (by decide) n t K L J1 R (by decide) hz0.1 q1.1 hu1 (fun k hk => ⟨k1.2.1 k hk, (hb k hk).2⟩) e7
    clear hP hu hu1 k1 yl tp hb r
    simp only [q159_4, q159_5, as_nil, as_i, as_r, Nat.reduceAdd, Nat.reduceLeDiff, z_eq0, z_eq1, z_or, z_em, Classical.not_not, not_false_eq_true, not_true_eq_false, true_and, and_true, false_and, and_false, and_self, true_implies, false_implies, implies_true, Option.toList_some, Option.toList_none, List.cons_append, List.nil_append, Nat.add_eq_zero_iff, a_nl_i, a_nl_r, a_nl_n, true_or, or_true, eq_self, a_isRA_22, a_isRA_24, a_isRA_32, a_isA_20, ok_4, ok_5, ok_6, ok_7, ok_9, ok_20, ok_21, ok_30, ok_50, ok_180, ok_192, ok_200]
    exact hl)
  clear hP hu yl tp hb r
  rw [a_enter1 (M := a_m159) rfl (a_cat_rf a_cat_nil) (show 1 ≤ 3 by decide)]
  show a_at _ (a_xm a_m159) 0 [some (a_rf (C + 35)), none, none] [] _ _
  simp only [q159_0, q159_1, k_35 hS, z_35, as_nil, as_i, as_r, Nat.reduceAdd, Nat.reduceLeDiff, z_eq0, z_eq1, z_or, z_em, Classical.not_not, not_false_eq_true, not_true_eq_false, true_and, and_true, false_and, and_false, and_self, true_implies, false_implies, implies_true, Option.toList_some, Option.toList_none, List.cons_append, List.nil_append, Nat.add_eq_zero_iff, a_nl_i, a_nl_r, a_nl_n, true_or, or_true, eq_self, a_isRA_22, a_isRA_24, a_isRA_32, a_isA_20, ok_4, ok_5, ok_6, ok_7, ok_9, ok_20, ok_21, ok_30, ok_50, ok_180, ok_192, ok_200]
  exact hmain
theorem ge_swap (hH : cH C c (n + 1) t K L I R) (hu : cuP C K L I R Y) (hP : ∀ v Z n' t' K' L' J R', swO Y v Z → cH C c (n' + 1) t' K' L' J R' → cuP C K' L' J R' Z → P (some (.int v)) (n' + 1, t', K', L', J, R')) : a_does (d + 70) 158 [a_rf C] (n + 1, t, K, L, I, R) P := by
  have hS := hH.1.s
  have hl := ce_find (d := d + 28) (n := n + 1) hH hu (P := fun r' h' => a_at (d + 69) (a_xm a_m158) 7 [some (a_rf C)] (r'.toList ++ []) h' P) (fun v J R1 g q es hv hr hb => by
    have hT2 := q.1.1
    have hS := hT2.s
    have hu2 := fq_cu hH hu q
    by_cases c1 : v = 0
    · have hf := ge_refuse (d := d + 68) (v := -3) q.1 hu2 (P := fun r' h' => a_at (d + 69) (a_xm a_m158) 16 [some (a_rf C)] (r'.toList ++ []) h' P) (fun J2 z2 u2 => by
        have hS := z2.1.s
        have hp := hP (-3) Y n t K L J2 R1 ⟨_, g, hr, Or.inl ⟨by rw [c1]; rfl, rfl, rfl⟩⟩ z2 u2
        clear hP hu hu2 hr hb q
        simp only [q158_16, as_nil, as_i, as_r, Nat.reduceAdd, Nat.reduceLeDiff, z_eq0, z_eq1, z_or, z_em, Classical.not_not, not_false_eq_true, not_true_eq_false, true_and, and_true, false_and, and_false, and_self, true_implies, false_implies, implies_true, Option.toList_some, Option.toList_none, List.cons_append, List.nil_append, Nat.add_eq_zero_iff, a_nl_i, a_nl_r, a_nl_n, true_or, or_true, eq_self, a_isRA_22, a_isRA_24, a_isRA_32, a_isA_20, ok_4, ok_5, ok_6, ok_7, ok_9, ok_20, ok_21, ok_30, ok_50, ok_180, ok_192, ok_200]
        exact hp)
      clear hP hu hu2 hr hb q
      simp only [q158_7, q158_10, q158_11, q158_13, k_0 hS, z_C hS, as_nil, as_i, as_r, Nat.reduceAdd, Nat.reduceLeDiff, z_eq0, z_eq1, z_or, z_em, Classical.not_not, not_false_eq_true, not_true_eq_false, true_and, and_true, false_and, and_false, and_self, true_implies, false_implies, implies_true, Option.toList_some, Option.toList_none, List.cons_append, List.nil_append, Nat.add_eq_zero_iff, a_nl_i, a_nl_r, a_nl_n, true_or, or_true, eq_self, a_isRA_22, a_isRA_24, a_isRA_32, a_isA_20, ok_4, ok_5, ok_6, ok_7, ok_9, ok_20, ok_21, ok_30, ok_50, ok_180, ok_192, ok_200, c1]
      try simp only [true_and, and_true, true_implies, false_implies, implies_true, not_true_eq_false, not_false_eq_true]
      first
        | exact hf
        | exact ⟨fun h => absurd rfl h, fun _ => hf⟩
        | grind
    · have v25 := hv.resolve_left c1
      have v1 : 1 ≤ v ∧ v ≤ 5 := ⟨Int32.le_trans (by decide) v25.1, v25.2⟩
      have v0 : 0 ≤ v := Int32.le_trans (by decide) v25.1
      have vn : 1 < v.toNatClampNeg := cl_lt (i := 1) (by decide) (Int32.lt_of_lt_of_le (by decide) v25.1)
      rcases hr with ⟨e, -⟩ | hr2
      · omega
      · have ht := ce_turn (d := d + 61) (m := v.toNatClampNeg) rfl v1 q.1 hu2 hr2.2.1 hb es (P := fun r' h' => a_at (d + 69) (a_xm a_m158) 24 [some (a_rf C)] (r'.toList ++ []) h' P) (fun n' t' K' L' J2 R2 z2 u2 => by
          have hS := z2.1.s
          have hp := hP v _ n' t' K' L' J2 R2 ⟨_, g, Or.inr hr2, Or.inr ⟨by omega, on_cl v0, rfl⟩⟩ z2 u2
          clear hP hu hu2 hr2 hb q
          simp only [q158_24, as_nil, as_i, as_r, Nat.reduceAdd, Nat.reduceLeDiff, z_eq0, z_eq1, z_or, z_em, Classical.not_not, not_false_eq_true, not_true_eq_false, true_and, and_true, false_and, and_false, and_self, true_implies, false_implies, implies_true, Option.toList_some, Option.toList_none, List.cons_append, List.nil_append, Nat.add_eq_zero_iff, a_nl_i, a_nl_r, a_nl_n, true_or, or_true, eq_self, a_isRA_22, a_isRA_24, a_isRA_32, a_isA_20, ok_4, ok_5, ok_6, ok_7, ok_9, ok_20, ok_21, ok_30, ok_50, ok_180, ok_192, ok_200]
          exact hp)
        clear hP hu hu2 hr2 hb q
        simp only [q158_7, q158_17, q158_18, q158_21, k_0 hS, z_C hS, r_0_7 hS, k_35 hS, z_35, as_nil, as_i, as_r, Nat.reduceAdd, Nat.reduceLeDiff, z_eq0, z_eq1, z_or, z_em, Classical.not_not, not_false_eq_true, not_true_eq_false, true_and, and_true, false_and, and_false, and_self, true_implies, false_implies, implies_true, Option.toList_some, Option.toList_none, List.cons_append, List.nil_append, Nat.add_eq_zero_iff, a_nl_i, a_nl_r, a_nl_n, true_or, or_true, eq_self, a_isRA_22, a_isRA_24, a_isRA_32, a_isA_20, ok_4, ok_5, ok_6, ok_7, ok_9, ok_20, ok_21, ok_30, ok_50, ok_180, ok_192, ok_200, c1]
        try simp only [true_and, and_true, true_implies, false_implies, implies_true, not_true_eq_false, not_false_eq_true]
        first
          | exact ht
          | grind)
  clear hP hu
  rw [a_enter1 (M := a_m158) rfl (a_cat_rf a_cat_nil) (show 1 ≤ 1 by decide)]
  show a_at _ (a_xm a_m158) 0 [some (a_rf C)] [] _ _
  simp only [q158_0, q158_1, q158_4, k_0 hS, z_C hS, r_0_7 hS, k_35 hS, z_35, as_nil, as_i, as_r, Nat.reduceAdd, Nat.reduceLeDiff, z_eq0, z_eq1, z_or, z_em, Classical.not_not, not_false_eq_true, not_true_eq_false, true_and, and_true, false_and, and_false, and_self, true_implies, false_implies, implies_true, Option.toList_some, Option.toList_none, List.cons_append, List.nil_append, Nat.add_eq_zero_iff, a_nl_i, a_nl_r, a_nl_n, true_or, or_true, eq_self, a_isRA_22, a_isRA_24, a_isRA_32, a_isA_20, ok_4, ok_5, ok_6, ok_7, ok_9, ok_20, ok_21, ok_30, ok_50, ok_180, ok_192, ok_200]
  try simp only [true_and, and_true, true_implies, false_implies, implies_true, not_true_eq_false, not_false_eq_true]
  first
    | exact hl
    | grind
end ZCC
end
section
/-! the reference: whether a ring FITS -/
section ZDD
variable {d n t M : Nat} {K L : Nat → Nat} {I I0 J J0 J1 J2 : Nat → Nat → Int32} {R : Nat → Nat → Nat} {P : Option Value → AH → Prop} {f : Nat → Int32} {e : Int32}
variable {Y Z W : Nat → Nat → Int32} {m : Nat} {g : Nat → Int32}
/-- while saving: only the first i are taken out -/
def svF (M : Nat) (g : Nat → Int32) (p : Nat) (I J : Nat → Nat → Int32) : Prop := (∀ x j, ¬ x = M + 49 → ¬ x = M + 50 → ¬ x = M + 51 → (∀ k, k < p → ¬ ((x = M + 20 ∨ x = M + 21) ∧ j = (g k).toNatClampNeg)) → J x j = I x j) ∧ ∀ k, k < p → J (M + 20) (g k).toNatClampNeg = -9 ∧ J (M + 21) (g k).toNatClampNeg = -9
/-- the cells of members p .. m may differ -/
def rfF (M : Nat) (g : Nat → Int32) (p m : Nat) (I J : Nat → Nat → Int32) : Prop := ∀ x j, ¬ sC M x j → ¬ x = M + 49 → ¬ x = M + 50 → ¬ x = M + 51 → (∀ k, p ≤ k → k < m → ¬ ((x = M + 20 ∨ x = M + 21) ∧ j = (g k).toNatClampNeg) ∧ ¬ (x = M + 22 ∧ 4 * (g k).toNatClampNeg ≤ j ∧ j < 4 * (g k).toNatClampNeg + 4)) → J x j = I x j
theorem sv_rf (h : svF M g m I J) : rfF M g 0 m I J := fun x j _ a1 a2 a3 hk => h.1 x j a1 a2 a3 (fun k k1 => (hk k (by omega) k1).1)
theorem sv_ps (h : svF M g m I J) : psE (rgU g (yv M I) m) (yv M J) := by
  refine ⟨fun k j p => ?_, fun o _ _ _ i _ _ => ?_⟩
  · have hk : k ≤ 47 ∨ k = 52 := by unfold ps1 at p; omega
    by_cases c : (k = 20 ∨ k = 21) ∧ ∃ q, q < m ∧ j = (g q).toNatClampNeg
    · obtain ⟨c1, q, q1, q2⟩ := c
      rw [q2, rgU_at c1 m q q1]
      have := h.2 q q1
      rcases c1 with e | e <;> subst e
      · exact this.1
      · exact this.2
    · have e : rgU g (yv M I) m k j = yv M I k j := by
        by_cases c1 : k = 20 ∨ k = 21
        · exact rgU_o m (fun q q1 q2 => c ⟨c1, q, q1, q2⟩)
        · have : ∀ p, rgU g (yv M I) p k j = yv M I k j := by
            intro p
            induction p with
            | zero => rfl
            | succ p ih =>
              unfold rgU
              rw [un_o (Or.inl (by omega))]
              exact ih
          exact this m
      rw [e]
      exact h.1 _ _ (by omega) (by omega) (by omega) (fun q q1 q2 => c ⟨by omega, q, q1, q2.2⟩)
  · have e : ∀ p j, rgU g (yv M I) p 22 j = yv M I 22 j := by
      intro p j
      induction p with
      | zero => rfl
      | succ p ih =>
        unfold rgU
        rw [un_o (Or.inl (by omega))]
        exact ih
    rw [e]
    exact h.1 _ _ (by omega) (by omega) (by omega) (fun q q1 q2 => by omega)
theorem xt_ringFits_41 (hS : m_S M K L R) {i z : Int32} (ha : 0 ≤ g i.toNatClampNeg ∧ g i.toNatClampNeg < 30) (hi : 0 ≤ i ∧ i < 5) (hP : ∀ J, mR M J → svF M g i.toNatClampNeg I J → (∀ k, k < i.toNatClampNeg → (J (M + 49) k = I (M + 20) (g k).toNatClampNeg ∧ J (M + 50) k = I (M + 21) (g k).toNatClampNeg) ∧ ∀ y, y < 4 → J (M + 51) (4 * k + y) = I (M + 22) (4 * (g k).toNatClampNeg + y)) → (J (M + 49) i.toNatClampNeg = I (M + 20) (g i.toNatClampNeg).toNatClampNeg ∧ J (M + 50) i.toNatClampNeg = I (M + 21) (g i.toNatClampNeg).toNatClampNeg) → (∀ y, y < 4 → J (M + 51) (4 * i.toNatClampNeg + y) = I (M + 22) (4 * (g i.toNatClampNeg).toNatClampNeg + y)) → a_at d (a_xm a_m254) 75 [some (a_rf M), some (.int z), some (.int i), some (.int (g i.toNatClampNeg)), some (.int 4), none] [] (n, t, K, L, J, R) P) : ∀ o : Int32, o ≤ 4 → ∀ J, 0 ≤ o → mR M J → svF M g i.toNatClampNeg I J → (∀ k, k < i.toNatClampNeg → (J (M + 49) k = I (M + 20) (g k).toNatClampNeg ∧ J (M + 50) k = I (M + 21) (g k).toNatClampNeg) ∧ ∀ y, y < 4 → J (M + 51) (4 * k + y) = I (M + 22) (4 * (g k).toNatClampNeg + y)) → (J (M + 49) i.toNatClampNeg = I (M + 20) (g i.toNatClampNeg).toNatClampNeg ∧ J (M + 50) i.toNatClampNeg = I (M + 21) (g i.toNatClampNeg).toNatClampNeg) → (∀ y, y < o.toNatClampNeg → J (M + 51) (4 * i.toNatClampNeg + y) = I (M + 22) (4 * (g i.toNatClampNeg).toNatClampNeg + y)) → a_at d (a_xm a_m254) 41 [some (a_rf M), some (.int z), some (.int i), some (.int (g i.toNatClampNeg)), some (.int o), none] [] (n, t, K, L, J, R) P := by
  refine up_ind 4 (fun o ho ih => ?_)
  intro J h0 hR sv old v1 v2
  rw [q254_41]
  by_cases c : o < 4
  · obtain ⟨t1, t2, t3, t4⟩ := lp_st h0 c
    have n1 := n4 (o := i) (i := o) ⟨hi.1, Int32.lt_trans hi.2 (by decide)⟩ ⟨h0, c⟩
    have n2 := n4 (o := g i.toNatClampNeg) (i := o) ha ⟨h0, c⟩
    have on : o.toNatClampNeg < 4 := cl_lt h0 c
    have in5 : i.toNatClampNeg < 5 := cl_lt hi.1 hi.2
    have e22 : J (M + 22) (4 * g i.toNatClampNeg + o).toNatClampNeg = I (M + 22) (4 * (g i.toNatClampNeg).toNatClampNeg + o.toNatClampNeg) := by
      rw [sv.1 _ _ (by omega) (by omega) (by omega) (fun k k1 k2 => by omega), n2.1]
    have hg := ih c (a_ui J (M + 51) (4 * i + o).toNatClampNeg (J (M + 22) (4 * g i.toNatClampNeg + o).toNatClampNeg)) t2 (sR_oldStanding hR) ⟨fun x j a1 a2 a3 a4 => by rw [ui_ap, if_neg (fun e => a3 e.1)]; exact sv.1 x j a1 a2 a3 a4, fun k hk => by rw [ui_ap, if_neg (by omega), ui_ap, if_neg (by omega)]; exact sv.2 k hk⟩ (fun k hk => ⟨by rw [ui_ap, if_neg (by omega), ui_ap, if_neg (by omega)]; exact (old k hk).1, fun y hy => by rw [ui_ap, n1.1, if_neg (by omega)]; exact (old k hk).2 y hy⟩) (by rw [ui_ap, if_neg (by omega), ui_ap, if_neg (by omega)]; exact v1) (fun y hy => by
      rw [t4] at hy
      rw [ui_ap, n1.1]
      by_cases e : y = o.toNatClampNeg
      · rw [if_pos ⟨rfl, by rw [e]⟩, e22, e]
      · rw [if_neg (by omega)]
        exact v2 y (by omega))
    have c' : ¬ 4 ≤ o := Int32.not_le.mpr c
    have b1 : 0 ≤ 4 * i + o ∧ 4 * i + o < 24 := by clear ih hP sv old v1 v2 hg e22 n1 n2; grind
    have b2 := n2.2
    clear ih hP sv old v1 v2 e22 n1 n2
    simp only [q254_43, q254_44, q254_47, q254_48, q254_51, q254_52, q254_53, q254_54, q254_56, q254_57, q254_58, q254_61, q254_62, q254_63, q254_64, q254_66, q254_67, q254_68, q254_69, q254_72, m_0 hS, m_K hS, mR_oldStanding hS, mK_oldStanding hS, mL_oldStanding hS, mR_standing hS, mK_standing hS, mL_standing hS, as_nil, as_i, as_r, Nat.reduceAdd, Nat.reduceLeDiff, z_eq0, z_eq1, z_or, z_em, Classical.not_not, not_false_eq_true, not_true_eq_false, true_and, and_true, false_and, and_false, and_self, true_implies, false_implies, implies_true, Option.toList_some, Option.toList_none, List.cons_append, List.nil_append, Nat.add_eq_zero_iff, a_nl_i, a_nl_r, a_nl_n, true_or, or_true, eq_self, ok_4, ok_5, ok_6, ok_7, ok_9, ok_10, ok_20, ok_21, ok_24, ok_30, ok_48, ok_50, ok_60, ok_80, ok_120, ok_180, ok_192, ok_200, ok_900, ok_1000, ok_84000, c']
    try simp only [true_and, and_true, true_implies, false_implies, implies_true, not_true_eq_false, not_false_eq_true]
    first
      | exact hg
      | (repeat refine And.intro (by first | exact b1.1 | exact b1.2 | exact b2.1 | exact b2.2 | grind) ?_
         exact hg)
      | grind
  · have e : o = 4 := by clear ih hP sv old v1 v2; grind
    subst e
    have hp := hP J hR sv old v1 v2
    clear ih hP sv old v1 v2
    simp only [q254_43, q254_44, as_nil, as_i, as_r, Nat.reduceAdd, Nat.reduceLeDiff, z_eq0, z_eq1, z_or, z_em, Classical.not_not, not_false_eq_true, not_true_eq_false, true_and, and_true, false_and, and_false, and_self, true_implies, false_implies, implies_true, Option.toList_some, Option.toList_none, List.cons_append, List.nil_append, Nat.add_eq_zero_iff, a_nl_i, a_nl_r, a_nl_n, true_or, or_true, eq_self, ok_4, ok_5, ok_6, ok_7, ok_9, ok_10, ok_20, ok_21, ok_24, ok_30, ok_48, ok_50, ok_60, ok_80, ok_120, ok_180, ok_192, ok_200, ok_900, ok_1000, ok_84000]
    try simp only [true_and, and_true, true_implies, false_implies, implies_true, not_true_eq_false, not_false_eq_true]
    first
      | exact hp
      | exact ⟨fun _ => hp, fun h => absurd (by decide) h⟩
      | grind
theorem xt_ringFits_2 (hS : m_S M K L R) {z : Int32} (ez : z.toNatClampNeg = m) (hz : 2 ≤ z ∧ z ≤ 5) (ty : tyP Y m g) (h17 : Y 0 17 ≤ 30) (hgr : ∀ k, k < m → I (M + 48) k = g k) (hP : ∀ J a o, mR M J → svF M g m I J → (∀ k, k < m → (J (M + 49) k = I (M + 20) (g k).toNatClampNeg ∧ J (M + 50) k = I (M + 21) (g k).toNatClampNeg) ∧ ∀ y, y < 4 → J (M + 51) (4 * k + y) = I (M + 22) (4 * (g k).toNatClampNeg + y)) → a_at d (a_xm a_m254) 97 [some (a_rf M), some (.int z), some (.int z), a, o, none] [] (n, t, K, L, J, R) P) : ∀ i : Int32, i ≤ 5 → ∀ J a o, 0 ≤ i → i ≤ z → mR M J → svF M g i.toNatClampNeg I J → (∀ k, k < i.toNatClampNeg → (J (M + 49) k = I (M + 20) (g k).toNatClampNeg ∧ J (M + 50) k = I (M + 21) (g k).toNatClampNeg) ∧ ∀ y, y < 4 → J (M + 51) (4 * k + y) = I (M + 22) (4 * (g k).toNatClampNeg + y)) → a_at d (a_xm a_m254) 2 [some (a_rf M), some (.int z), some (.int i), a, o, none] [] (n, t, K, L, J, R) P := by
  refine up_ind 5 (fun i hk ih => ?_)
  intro J a o q0 q1 hR sv old
  rw [q254_2]
  by_cases c : i < z
  · obtain ⟨t1, t2, t3, t4⟩ := lp_st q0 c
    have hi : 0 ≤ i ∧ i < 5 := ⟨q0, Int32.lt_of_lt_of_le c hz.2⟩
    have him : i.toNatClampNeg < m := by rw [← ez]; exact cl_lt q0 c
    obtain ⟨⟨a0, a1⟩, -⟩ := ty.1 _ him
    have ha : 0 ≤ g i.toNatClampNeg ∧ g i.toNatClampNeg < 30 := ⟨a0, Int32.lt_of_lt_of_le a1 h17⟩
    have hne : ∀ k, k < i.toNatClampNeg → ¬ (g i.toNatClampNeg).toNatClampNeg = (g k).toNatClampNeg := fun k hk e => by have := ty.2.1 _ _ him (by omega) e; omega
    have e48 : J (M + 48) i.toNatClampNeg = g i.toNatClampNeg := by rw [sv.1 _ _ (by omega) (by omega) (by omega) (fun k k1 k2 => by omega)]; exact hgr _ him
    have f20 : J (M + 20) (g i.toNatClampNeg).toNatClampNeg = I (M + 20) (g i.toNatClampNeg).toNatClampNeg := sv.1 _ _ (by omega) (by omega) (by omega) (fun k k1 k2 => hne k k1 k2.2)
    have f21 : J (M + 21) (g i.toNatClampNeg).toNatClampNeg = I (M + 21) (g i.toNatClampNeg).toNatClampNeg := sv.1 _ _ (by omega) (by omega) (by omega) (fun k k1 k2 => hne k k1 k2.2)
    have r1 := rg_atBench hR (g i.toNatClampNeg).toNatClampNeg
    have r2 := rg_atShift hR (g i.toNatClampNeg).toNatClampNeg
    have c' : ¬ z ≤ i := Int32.not_le.mpr c
    have hg := xt_ringFits_41 (d := d) (n := n) (t := t) (K := K) (L := L) (R := R) (P := P) (z := z) hS ha hi (I := I) (fun J2 hR2 sv2 old2 v1 v2 => by
      have hg := ih hi.2 (a_ui (a_ui J2 (M + 20) (g i.toNatClampNeg).toNatClampNeg (-9)) (M + 21) (g i.toNatClampNeg).toNatClampNeg (-9)) (some (.int (g i.toNatClampNeg))) (some (.int 4)) t2 t3 (sR_atShift (sR_atBench hR2 (by decide)) (by decide)) (by
        rw [t4]
        refine ⟨fun x j a1 a2 a3 a4 => ?_, fun k hk => ?_⟩
        · have := a4 i.toNatClampNeg (by omega)
          rw [ui_ap, if_neg (by omega), ui_ap, if_neg (by omega)]
          exact sv2.1 x j a1 a2 a3 (fun k k1 => a4 k (by omega))
        · by_cases e : (g k).toNatClampNeg = (g i.toNatClampNeg).toNatClampNeg
          · rw [e, ui_ap, if_neg (by omega), ui_ap, if_pos ⟨rfl, rfl⟩, ui_ap, if_pos ⟨rfl, rfl⟩]
            exact ⟨rfl, rfl⟩
          · rw [ui_ap, if_neg (by omega), ui_ap, if_neg (by omega), ui_ap, if_neg (by omega), ui_ap, if_neg (by omega)]
            refine sv2.2 k ?_
            by_cases e2 : k = i.toNatClampNeg
            · exact absurd (by rw [e2]) e
            · omega) (by
        rw [t4]
        intro k hk
        rw [ui_ap, if_neg (by omega), ui_ap, if_neg (by omega), ui_ap, if_neg (by omega), ui_ap, if_neg (by omega)]
        by_cases e2 : k = i.toNatClampNeg
        · rw [e2]
          exact ⟨v1, fun y hy => by rw [ui_ap, if_neg (by omega), ui_ap, if_neg (by omega)]; exact v2 y hy⟩
        · exact ⟨(old2 k (by omega)).1, fun y hy => by rw [ui_ap, if_neg (by omega), ui_ap, if_neg (by omega)]; exact (old2 k (by omega)).2 y hy⟩)
      clear ih hP sv old sv2 old2 v1 v2
      simp only [q254_75, q254_76, q254_79, q254_80, q254_82, q254_83, q254_84, q254_87, q254_88, q254_90, q254_91, q254_94, m_0 hS, m_K hS, mR_atBench hS, mK_atBench hS, mL_atBench hS, mR_atShift hS, mK_atShift hS, mL_atShift hS, as_nil, as_i, as_r, Nat.reduceAdd, Nat.reduceLeDiff, z_eq0, z_eq1, z_or, z_em, Classical.not_not, not_false_eq_true, not_true_eq_false, true_and, and_true, false_and, and_false, and_self, true_implies, false_implies, implies_true, Option.toList_some, Option.toList_none, List.cons_append, List.nil_append, Nat.add_eq_zero_iff, a_nl_i, a_nl_r, a_nl_n, true_or, or_true, eq_self, ok_4, ok_5, ok_6, ok_7, ok_9, ok_10, ok_20, ok_21, ok_24, ok_30, ok_48, ok_50, ok_60, ok_80, ok_120, ok_180, ok_192, ok_200, ok_900, ok_1000, ok_84000, ui_ap, ne_MM, ne_M0, ne_0M, Nat.reduceEqDiff, reduceIte, if_true, if_false]
      try simp only [true_and, and_true, true_implies, false_implies, implies_true, not_true_eq_false, not_false_eq_true]
      first
        | exact hg
        | (repeat refine And.intro (by grind) ?_
           exact hg)) 0 (by decide) (a_ui (a_ui J (M + 49) i.toNatClampNeg (I (M + 20) (g i.toNatClampNeg).toNatClampNeg)) (M + 50) i.toNatClampNeg (I (M + 21) (g i.toNatClampNeg).toNatClampNeg)) (by decide) (sR_oldShift (sR_oldBench hR (by rw [← f20]; exact r1)) (by rw [← f21]; exact r2)) ⟨fun x j a1 a2 a3 a4 => by rw [ui_ap, if_neg (fun e => a2 e.1), ui_ap, if_neg (fun e => a1 e.1)]; exact sv.1 x j a1 a2 a3 a4, fun k hk => by rw [ui_ap, if_neg (by omega), ui_ap, if_neg (by omega), ui_ap, if_neg (by omega), ui_ap, if_neg (by omega)]; exact sv.2 k hk⟩ (fun k hk => ⟨by rw [ui_ap, if_neg (by omega), ui_ap, if_neg (by omega), ui_ap, if_neg (by omega), ui_ap, if_neg (by omega)]; exact (old k hk).1, fun y hy => by rw [ui_ap, if_neg (by omega), ui_ap, if_neg (by omega)]; exact (old k hk).2 y hy⟩) (by rw [ui_ap, if_neg (by omega), ui_ap, if_pos ⟨rfl, rfl⟩, ui_ap, if_pos ⟨rfl, rfl⟩]; exact ⟨rfl, rfl⟩) (fun y hy => absurd hy (Nat.not_lt_zero y))
    clear ih hP sv old hne
    simp only [q254_3, q254_4, q254_7, q254_8, q254_11, q254_12, q254_13, q254_14, q254_15, q254_18, q254_19, q254_20, q254_23, q254_24, q254_25, q254_26, q254_27, q254_30, q254_31, q254_32, q254_35, q254_36, q254_37, q254_38, q254_39, m_0 hS, m_K hS, mR_ringAsk hS, mK_ringAsk hS, mL_ringAsk hS, mR_oldBench hS, mK_oldBench hS, mL_oldBench hS, mR_atBench hS, mK_atBench hS, mL_atBench hS, mR_oldShift hS, mK_oldShift hS, mL_oldShift hS, mR_atShift hS, mK_atShift hS, mL_atShift hS, as_nil, as_i, as_r, Nat.reduceAdd, Nat.reduceLeDiff, z_eq0, z_eq1, z_or, z_em, Classical.not_not, not_false_eq_true, not_true_eq_false, true_and, and_true, false_and, and_false, and_self, true_implies, false_implies, implies_true, Option.toList_some, Option.toList_none, List.cons_append, List.nil_append, Nat.add_eq_zero_iff, a_nl_i, a_nl_r, a_nl_n, true_or, or_true, eq_self, ok_4, ok_5, ok_6, ok_7, ok_9, ok_10, ok_20, ok_21, ok_24, ok_30, ok_48, ok_50, ok_60, ok_80, ok_120, ok_180, ok_192, ok_200, ok_900, ok_1000, ok_84000, ui_ap, ne_MM, ne_M0, ne_0M, Nat.reduceEqDiff, reduceIte, if_true, if_false, e48, f20, f21, c']
    try simp only [true_and, and_true, true_implies, false_implies, implies_true, not_true_eq_false, not_false_eq_true]
    first
      | exact hg
      | (repeat refine And.intro (by grind) ?_
         exact hg)
      | grind
  · have e := (lp_end q1 c).2
    have hp := hP J a o hR (by rw [e, ez] at sv; exact sv) (by rw [e, ez] at old; exact old)
    have c' : z ≤ i := Int32.not_lt.mp c
    subst e
    clear ih hP sv old
    simp only [q254_3, q254_4, as_nil, as_i, as_r, Nat.reduceAdd, Nat.reduceLeDiff, z_eq0, z_eq1, z_or, z_em, Classical.not_not, not_false_eq_true, not_true_eq_false, true_and, and_true, false_and, and_false, and_self, true_implies, false_implies, implies_true, Option.toList_some, Option.toList_none, List.cons_append, List.nil_append, Nat.add_eq_zero_iff, a_nl_i, a_nl_r, a_nl_n, true_or, or_true, eq_self, ok_4, ok_5, ok_6, ok_7, ok_9, ok_10, ok_20, ok_21, ok_24, ok_30, ok_48, ok_50, ok_60, ok_80, ok_120, ok_180, ok_192, ok_200, ok_900, ok_1000, ok_84000, c']
    try simp only [true_and, and_true, true_implies, false_implies, implies_true, not_true_eq_false, not_false_eq_true]
    first
      | exact hp
      | grind
end ZDD
end
section
/-! the reference: ringFits, whole -/
section ZEE
variable {d n t M : Nat} {K L : Nat → Nat} {I I0 J J0 J1 J2 : Nat → Nat → Int32} {R : Nat → Nat → Nat} {P : Option Value → AH → Prop} {f : Nat → Int32} {e : Int32}
variable {Y Z W : Nat → Nat → Int32} {m : Nat} {g : Nat → Int32}
theorem rf_old {p : Nat} (h : rfF M g p m I J) (h2 : (∀ k, k < m → (J (M + 49) k = I (M + 20) (g k).toNatClampNeg ∧ J (M + 50) k = I (M + 21) (g k).toNatClampNeg) ∧ ∀ y, y < 4 → J (M + 51) (4 * k + y) = I (M + 22) (4 * (g k).toNatClampNeg + y))) (hm : ∀ x j, ¬ sC M x j → (M + 48 ≤ x ∧ x ≤ M + 51) → J2 x j = J x j) : (∀ k, k < m → (J2 (M + 49) k = I (M + 20) (g k).toNatClampNeg ∧ J2 (M + 50) k = I (M + 21) (g k).toNatClampNeg) ∧ ∀ y, y < 4 → J2 (M + 51) (4 * k + y) = I (M + 22) (4 * (g k).toNatClampNeg + y)) := fun k hk => ⟨by
  rw [hm _ _ (by unfold sC; omega) (by omega), hm _ _ (by unfold sC; omega) (by omega)]
  exact (h2 k hk).1, fun y hy => by
  rw [hm _ _ (by unfold sC; omega) (by omega)]
  exact (h2 k hk).2 y hy⟩
theorem xt_ringFits_101 (hS : m_S M K L R) (hm : okY Y) (hg0 : gs M I0 I Y) {z : Int32} (ez : z.toNatClampNeg = m) (hz : 2 ≤ z ∧ z ≤ 5) (ty : tyP Y m g) (hgr : ∀ k, k < m → I (M + 48) k = g k) (hb5 : ∀ k, k < m → (0 ≤ Y 20 (g k).toNatClampNeg ∧ Y 20 (g k).toNatClampNeg ≤ 5) ∧ (0 ≤ Y 21 (g k).toNatClampNeg ∧ Y 21 (g k).toNatClampNeg ≤ 199) ∧ Y 21 (g k).toNatClampNeg + Y 10 (g 0).toNatClampNeg ≤ 200) (hP : ∀ J u i o, (u = 0 ∨ u = 1) → (u = 1 ↔ ∀ k, k < m → rgF Y m g k) → mR M J → rfF M g 0 m I J → (∀ k, k < m → (J (M + 49) k = I (M + 20) (g k).toNatClampNeg ∧ J (M + 50) k = I (M + 21) (g k).toNatClampNeg) ∧ ∀ y, y < 4 → J (M + 51) (4 * k + y) = I (M + 22) (4 * (g k).toNatClampNeg + y)) → a_at (d + 10) (a_xm a_m254) 193 [some (a_rf M), some (.int z), some (.int u), some (.int i), o, none] [] (n, t, K, L, J, R) P) : ∀ i : Int32, i ≤ 5 → ∀ J u o, 0 ≤ i → i ≤ z → (u = 0 ∨ u = 1) → (u = 0 → ¬ ∀ k, k < m → rgF Y m g k) → (u = 1 → gs M I0 J (rgP g m Y (rgU g Y m) i.toNatClampNeg) ∧ inP (rgP g m Y (rgU g Y m) i.toNatClampNeg) ∧ ∀ k, k < i.toNatClampNeg → rgF Y m g k) → mR M J → rfF M g 0 m I J → (∀ k, k < m → (J (M + 49) k = I (M + 20) (g k).toNatClampNeg ∧ J (M + 50) k = I (M + 21) (g k).toNatClampNeg) ∧ ∀ y, y < 4 → J (M + 51) (4 * k + y) = I (M + 22) (4 * (g k).toNatClampNeg + y)) → a_at (d + 10) (a_xm a_m254) 101 [some (a_rf M), some (.int z), some (.int u), some (.int i), o, none] [] (n, t, K, L, J, R) P := by
  have hy := hm.1
  have h17 := hy.2.2.2.2.1
  have h10 := hy.2.1
  refine up_ind 5 (fun i hk ih => ?_)
  intro J u o q0 q1 hu hu0 hu1 hR rf old
  rw [q254_101]
  by_cases c : i < z
  · have c' : ¬ z ≤ i := Int32.not_le.mpr c
    by_cases cu : u = 0
    · have hp := hP J u i o hu ⟨fun e => absurd (cu.symm.trans e) (by decide), fun h => absurd h (hu0 cu)⟩ hR rf old
      clear ih hP hu0 hu1 rf old
      simp only [q254_102, q254_103, q254_106, q254_107, as_nil, as_i, as_r, Nat.reduceAdd, Nat.reduceLeDiff, z_eq0, z_eq1, z_or, z_em, Classical.not_not, not_false_eq_true, not_true_eq_false, true_and, and_true, false_and, and_false, and_self, true_implies, false_implies, implies_true, Option.toList_some, Option.toList_none, List.cons_append, List.nil_append, Nat.add_eq_zero_iff, a_nl_i, a_nl_r, a_nl_n, true_or, or_true, eq_self, ok_4, ok_5, ok_6, ok_7, ok_9, ok_10, ok_20, ok_21, ok_24, ok_30, ok_48, ok_50, ok_60, ok_80, ok_120, ok_180, ok_192, ok_200, ok_900, ok_1000, ok_84000, c', cu]
      try simp only [true_and, and_true, true_implies, false_implies, implies_true, not_true_eq_false, not_false_eq_true]
      rw [cu] at hp
      first
        | exact hp
        | grind
    · have cu1 := hu.resolve_left cu
      obtain ⟨hg, hin, hF⟩ := hu1 cu1
      obtain ⟨t1, t2, t3, t4⟩ := lp_st q0 c
      have hi : 0 ≤ i ∧ i < 5 := ⟨q0, Int32.lt_of_lt_of_le c hz.2⟩
      have him : i.toNatClampNeg < m := by rw [← ez]; exact cl_lt q0 c
      have hnm := nxN_lt (m := m) him
      obtain ⟨⟨a0, a1⟩, -⟩ := ty.1 _ him
      have ha : 0 ≤ g i.toNatClampNeg ∧ g i.toNatClampNeg < 30 := ⟨a0, Int32.lt_of_lt_of_le a1 h17.2⟩
      obtain ⟨bb, bs, bl⟩ := hb5 _ hnm
      have sW : ssE Y (rgP g m Y (rgU g Y m) i.toNatClampNeg) := ss_tr (rgU_s m) (rgP_s _)
      have o10 : (rgP g m Y (rgU g Y m) i.toNatClampNeg) 10 = Y 10 := rg_10 _
      have e17 : (rgP g m Y (rgU g Y m) i.toNatClampNeg) 0 17 = Y 0 17 := sW 0 17 (by unfold ss ps1; omega)
      have mW : moY (rgP g m Y (rgU g Y m) i.toNatClampNeg) := moY_b hm.2.1 (ss_b sW) hin
      have eY20 : ∀ k, k < m → I (M + 20) (g k).toNatClampNeg = Y 20 (g k).toNatClampNeg ∧ I (M + 21) (g k).toNatClampNeg = Y 21 (g k).toNatClampNeg := fun k hk => ⟨hg0.2.2.1 20 _ (by unfold ps1; omega), hg0.2.2.1 21 _ (by unfold ps1; omega)⟩
      have e48 : J (M + 48) i.toNatClampNeg = g i.toNatClampNeg := by rw [rf _ _ (by unfold sC; omega) (by omega) (by omega) (by omega) (fun k k1 k2 => by omega)]; exact hgr _ him
      -- the next one
      have hnx : ∀ j : Int32, j.toNatClampNeg = (nxN m i.toNatClampNeg) → J (M + 49) j.toNatClampNeg = (Y 20 (g (nxN m i.toNatClampNeg)).toNatClampNeg) ∧ J (M + 50) j.toNatClampNeg = (Y 21 (g (nxN m i.toNatClampNeg)).toNatClampNeg) := fun j hj => by
        rw [hj, (old _ hnm).1.1, (old _ hnm).1.2]
        exact eY20 _ hnm
      have hln : 0 ≤ (Y 21 (g (nxN m i.toNatClampNeg)).toNatClampNeg) ∧ (Y 21 (g (nxN m i.toNatClampNeg)).toNatClampNeg) ≤ 200 ∧ (Y 21 (g (nxN m i.toNatClampNeg)).toNatClampNeg) + (rgP g m Y (rgU g Y m) i.toNatClampNeg) 10 (g i.toNatClampNeg).toNatClampNeg ≤ 200 := ⟨bs.1, Int32.le_trans bs.2 (by decide), by rw [o10, ty.2.2 _ him]; exact bl⟩
      have hput : rgF Y m g i.toNatClampNeg → ∀ J2, mC M J J2 → ∀ o, a_does (d + 10) 231 [a_rf M, .int (g i.toNatClampNeg), .int (Y 20 (g (nxN m i.toNatClampNeg)).toNatClampNeg), .int (Y 21 (g (nxN m i.toNatClampNeg)).toNatClampNeg)] (n, t, K, L, J2, R) (fun r h' => a_at (d + 10) (a_xm a_m254) 187 [some (a_rf M), some (.int z), some (.int 1), some (.int i), o, none] (r.toList ++ []) h' P) := fun hFi J2 hC o => by
        have g2 := gs_C hg hC
        refine xt_putAt hS (moP_of g2.1 mW g2.2.2) ha bb ⟨Int32.le_trans (by decide) bs.1, Int32.le_trans bs.2 (by decide)⟩ (fun J3 f3 y3 => ?_)
        have hgW := yR_gs g2 y3 (puY_p (by rw [e17]; exact h17) (by rw [o10]; exact h10) g2.2.2 ha)
        have cl0 := (h10 (g i.toNatClampNeg).toNatClampNeg)
        have l4 : (yv M J2 10 (g i.toNatClampNeg).toNatClampNeg).toNatClampNeg ≤ 4 := by
          have e : yv M J2 10 (g i.toNatClampNeg).toNatClampNeg = Y 10 (g i.toNatClampNeg).toNatClampNeg := by
            have := g2.2.2.1 10 (g i.toNatClampNeg).toNatClampNeg (by unfold ps1; omega)
            rw [this, o10]
          rw [e]
          have w : (Y 10 (g i.toNatClampNeg).toNatClampNeg).toNatClampNeg < 5 := cl_lt (j := 5) cl0.1 (Int32.lt_of_le_of_lt cl0.2 (by decide))
          omega
        have hg2 := ih hi.2 J3 1 o t2 t3 (Or.inr rfl) (fun e => absurd e (by decide)) (fun _ => by
          rw [t4]
          refine ⟨hgW, inP_pu hin hln bb.2, fun k hk => ?_⟩
          by_cases e : k = i.toNatClampNeg
          · rw [e]; exact hFi
          · exact hF k (by omega)) y3.1 (fun x j n1 n2 n3 n4 hk => by
          have hi0 := hk i.toNatClampNeg (by omega) him
          by_cases c20 : x = M + 20 ∨ x = M + 21 ∨ x = M + 22
          · have e : J3 x j = J2 x j := by
              rcases c20 with e | e | e <;> subst e
              · rw [y3.2.2 20 j (by omega) (by unfold mk0; omega)]
                unfold puY
                rw [if_neg (by omega), if_neg (by omega), if_neg (by omega)]
                rfl
              · rw [y3.2.2 21 j (by omega) (by unfold mk0; omega)]
                unfold puY
                rw [if_neg (by omega), if_neg (by omega), if_neg (by omega)]
                rfl
              · rw [y3.2.2 22 j (by omega) (by unfold mk0; omega)]
                unfold puY
                rw [if_neg (by omega), if_neg (by omega), if_neg (by omega)]
                rfl
            rw [e, hC.2 x j n1]
            exact rf x j n1 n2 n3 n4 hk
          · rw [f3 x j n1 (by omega) (by omega) (by omega), hC.2 x j n1]
            exact rf x j n1 n2 n3 n4 hk) (rf_old (J := J) rf old (fun x j n1 n2 => (f3 x j n1 (by omega) (by omega) (by omega)).trans (hC.2 x j n1)))
        clear ih hP hu0 hu1 rf old hg hF hm ty mW g2 hgW hnx eY20 hb5
        simp only [q254_187, q254_190, as_nil, as_i, as_r, Nat.reduceAdd, Nat.reduceLeDiff, z_eq0, z_eq1, z_or, z_em, Classical.not_not, not_false_eq_true, not_true_eq_false, true_and, and_true, false_and, and_false, and_self, true_implies, false_implies, implies_true, Option.toList_some, Option.toList_none, List.cons_append, List.nil_append, Nat.add_eq_zero_iff, a_nl_i, a_nl_r, a_nl_n, true_or, or_true, eq_self, ok_4, ok_5, ok_6, ok_7, ok_9, ok_10, ok_20, ok_21, ok_24, ok_30, ok_48, ok_50, ok_60, ok_80, ok_120, ok_180, ok_192, ok_200, ok_900, ok_1000, ok_84000]
        exact hg2
      have h126 : ∀ j : Int32, 0 ≤ j ∧ j < 6 → j.toNatClampNeg = (nxN m i.toNatClampNeg) → a_at (d + 10) (a_xm a_m254) 126 [some (a_rf M), some (.int z), some (.int 1), some (.int i), some (.int j), none] [] (n, t, K, L, J, R) P := fun j hj ej => by
        obtain ⟨x49, x50⟩ := hnx j ej
        have hcall : a_does (d + 10) 221 [a_rf M, .int (g i.toNatClampNeg), .int (Y 20 (g (nxN m i.toNatClampNeg)).toNatClampNeg), .int (Y 21 (g (nxN m i.toNatClampNeg)).toNatClampNeg)] (n, t, K, L, J, R) (fun r h' => a_at (d + 10) (a_xm a_m254) 150 [some (a_rf M), some (.int z), some (.int 1), some (.int i), some (.int j), none] (r.toList ++ []) h' P) := by
          refine xt_fitOf hS (moP_of hR mW hg.2.2) (mC_refl hR) ha bb bs (fun J2 hC => ?_)
          rw [ftY_p (by rw [e17]; exact h17) (by rw [o10]; exact h10) hg.2.2]
          by_cases cf : ftY (rgP g m Y (rgU g Y m) i.toNatClampNeg) (g i.toNatClampNeg) (Y 20 (g (nxN m i.toNatClampNeg)).toNatClampNeg) (Y 21 (g (nxN m i.toNatClampNeg)).toNatClampNeg) = 0
          · have hp := hput cf J2 hC (some (.int j))
            have k48 : J2 (M + 48) i.toNatClampNeg = g i.toNatClampNeg := (hC.2 _ _ (by unfold sC; omega)).trans e48
            have k49 : J2 (M + 49) j.toNatClampNeg = (Y 20 (g (nxN m i.toNatClampNeg)).toNatClampNeg) := (hC.2 _ _ (by unfold sC; omega)).trans x49
            have k50 : J2 (M + 50) j.toNatClampNeg = (Y 21 (g (nxN m i.toNatClampNeg)).toNatClampNeg) := (hC.2 _ _ (by unfold sC; omega)).trans x50
            rw [cf]
            have n10 : ¬ (1 : Int32) = 0 := by decide
            have i6 : 0 ≤ i ∧ i < 6 := ⟨q0, Int32.lt_trans hi.2 (by decide)⟩
            clear ih hP hu0 hu1 rf old hg hF hm ty mW hnx eY20 hb5 hput
            simp only [q254_150, q254_153, q254_154, q254_157, q254_158, q254_159, q254_160, q254_163, q254_164, q254_165, q254_168, q254_169, q254_170, q254_171, q254_174, q254_176, q254_177, q254_178, q254_181, q254_183, q254_184, m_0 hS, m_K hS, mR_ringAsk hS, mK_ringAsk hS, mL_ringAsk hS, mR_oldBench hS, mK_oldBench hS, mL_oldBench hS, mR_oldShift hS, mK_oldShift hS, mL_oldShift hS, as_nil, as_i, as_r, Nat.reduceAdd, Nat.reduceLeDiff, z_eq0, z_eq1, z_or, z_em, Classical.not_not, not_false_eq_true, not_true_eq_false, true_and, and_true, false_and, and_false, and_self, true_implies, false_implies, implies_true, Option.toList_some, Option.toList_none, List.cons_append, List.nil_append, Nat.add_eq_zero_iff, a_nl_i, a_nl_r, a_nl_n, true_or, or_true, eq_self, ok_4, ok_5, ok_6, ok_7, ok_9, ok_10, ok_20, ok_21, ok_24, ok_30, ok_48, ok_50, ok_60, ok_80, ok_120, ok_180, ok_192, ok_200, ok_900, ok_1000, ok_84000, k48, k49, k50, n10, i6, hj]
            try simp only [true_and, and_true, true_implies, false_implies, implies_true, not_true_eq_false, not_false_eq_true]
            first
              | exact hp
              | (repeat refine And.intro (by grind) ?_
                 exact hp)
              | grind
          · have hp := ih hi.2 J2 0 (some (.int j)) t2 t3 (Or.inl rfl) (fun _ h => cf (h _ him)) (fun e => absurd e (by decide)) hC.1 (fun x y n1 n2 n3 n4 hk => (hC.2 x y n1).trans (rf x y n1 n2 n3 n4 hk)) (rf_old (J := J) rf old (fun x y n1 n2 => hC.2 x y n1))
            clear ih hP hu0 hu1 rf old hg hF hm ty mW hnx eY20 hb5 hput
            simp only [q254_150, q254_153, q254_154, q254_157, q254_158, q254_159, q254_160, q254_187, q254_190, as_nil, as_i, as_r, Nat.reduceAdd, Nat.reduceLeDiff, z_eq0, z_eq1, z_or, z_em, Classical.not_not, not_false_eq_true, not_true_eq_false, true_and, and_true, false_and, and_false, and_self, true_implies, false_implies, implies_true, Option.toList_some, Option.toList_none, List.cons_append, List.nil_append, Nat.add_eq_zero_iff, a_nl_i, a_nl_r, a_nl_n, true_or, or_true, eq_self, ok_4, ok_5, ok_6, ok_7, ok_9, ok_10, ok_20, ok_21, ok_24, ok_30, ok_48, ok_50, ok_60, ok_80, ok_120, ok_180, ok_192, ok_200, ok_900, ok_1000, ok_84000, cf]
            try simp only [true_and, and_true, true_implies, false_implies, implies_true, not_true_eq_false, not_false_eq_true]
            first
              | exact hp
              | (repeat refine And.intro (by grind) ?_
                 exact hp)
              | grind
        have i6 : 0 ≤ i ∧ i < 6 := ⟨q0, Int32.lt_trans hi.2 (by decide)⟩
        clear ih hP hu0 hu1 rf old hg hF hm ty mW hnx eY20 hb5 hput
        simp only [q254_126, q254_127, q254_128, q254_131, q254_132, q254_133, q254_134, q254_137, q254_139, q254_140, q254_141, q254_144, q254_146, q254_147, m_0 hS, m_K hS, mR_ringAsk hS, mK_ringAsk hS, mL_ringAsk hS, mR_oldBench hS, mK_oldBench hS, mL_oldBench hS, mR_oldShift hS, mK_oldShift hS, mL_oldShift hS, as_nil, as_i, as_r, Nat.reduceAdd, Nat.reduceLeDiff, z_eq0, z_eq1, z_or, z_em, Classical.not_not, not_false_eq_true, not_true_eq_false, true_and, and_true, false_and, and_false, and_self, true_implies, false_implies, implies_true, Option.toList_some, Option.toList_none, List.cons_append, List.nil_append, Nat.add_eq_zero_iff, a_nl_i, a_nl_r, a_nl_n, true_or, or_true, eq_self, ok_4, ok_5, ok_6, ok_7, ok_9, ok_10, ok_20, ok_21, ok_24, ok_30, ok_48, ok_50, ok_60, ok_80, ok_120, ok_180, ok_192, ok_200, ok_900, ok_1000, ok_84000, e48, x49, x50, i6, hj]
        try simp only [true_and, and_true, true_implies, false_implies, implies_true, not_true_eq_false, not_false_eq_true]
        first
          | exact hcall
          | (repeat refine And.intro (by grind) ?_
             exact hcall)
          | grind
      have n10 : ¬ (1 : Int32) = 0 := by decide
      by_cases c2 : i + 1 < z
      · have hp := h126 (i + 1) ⟨t2, Int32.lt_trans (Int32.lt_of_lt_of_le c2 hz.2) (by decide)⟩ (by
          rw [t4]
          unfold nxN
          rw [if_pos]
          rw [← ez, ← t4]
          exact cl_lt t2 c2)
        rw [cu1]
        clear ih hP hu0 hu1 rf old hg hF hm ty mW hnx eY20 hb5 hput h126
        simp only [q254_102, q254_103, q254_106, q254_107, q254_110, q254_111, q254_112, q254_113, q254_114, q254_117, q254_118, q254_119, q254_120, q254_123, q254_124, as_nil, as_i, as_r, Nat.reduceAdd, Nat.reduceLeDiff, z_eq0, z_eq1, z_or, z_em, Classical.not_not, not_false_eq_true, not_true_eq_false, true_and, and_true, false_and, and_false, and_self, true_implies, false_implies, implies_true, Option.toList_some, Option.toList_none, List.cons_append, List.nil_append, Nat.add_eq_zero_iff, a_nl_i, a_nl_r, a_nl_n, true_or, or_true, eq_self, ok_4, ok_5, ok_6, ok_7, ok_9, ok_10, ok_20, ok_21, ok_24, ok_30, ok_48, ok_50, ok_60, ok_80, ok_120, ok_180, ok_192, ok_200, ok_900, ok_1000, ok_84000, c', c2, n10]
        try simp only [true_and, and_true, true_implies, false_implies, implies_true, not_true_eq_false, not_false_eq_true]
        first
          | exact hp
          | (repeat refine And.intro (by grind) ?_
             exact hp)
          | grind
      · have hp := h126 0 (by decide) (by
          rw [show (0 : Int32).toNatClampNeg = 0 from rfl]
          unfold nxN
          rw [if_neg]
          have e : i + 1 = z := by clear ih hP hu0 hu1 rf old hg hF hm ty mW hnx eY20 hb5 hput h126; grind
          rw [← ez, ← t4, e]
          omega)
        rw [cu1]
        clear ih hP hu0 hu1 rf old hg hF hm ty mW hnx eY20 hb5 hput h126
        simp only [q254_102, q254_103, q254_106, q254_107, q254_110, q254_111, q254_112, q254_113, q254_114, q254_117, q254_118, q254_119, q254_120, q254_123, q254_124, as_nil, as_i, as_r, Nat.reduceAdd, Nat.reduceLeDiff, z_eq0, z_eq1, z_or, z_em, Classical.not_not, not_false_eq_true, not_true_eq_false, true_and, and_true, false_and, and_false, and_self, true_implies, false_implies, implies_true, Option.toList_some, Option.toList_none, List.cons_append, List.nil_append, Nat.add_eq_zero_iff, a_nl_i, a_nl_r, a_nl_n, true_or, or_true, eq_self, ok_4, ok_5, ok_6, ok_7, ok_9, ok_10, ok_20, ok_21, ok_24, ok_30, ok_48, ok_50, ok_60, ok_80, ok_120, ok_180, ok_192, ok_200, ok_900, ok_1000, ok_84000, c', c2, n10]
        try simp only [true_and, and_true, true_implies, false_implies, implies_true, not_true_eq_false, not_false_eq_true]
        first
          | exact hp
          | (repeat refine And.intro (by grind) ?_
             exact hp)
          | grind
  · have e := (lp_end q1 c).2
    have hp := hP J u i o hu (by
      rcases hu with h | h
      · exact ⟨fun q => absurd (h.symm.trans q) (by decide), fun q => absurd q (hu0 h)⟩
      · exact ⟨fun _ k hk => (hu1 h).2.2 k (by rw [e, ez]; exact hk), fun _ => h⟩) hR rf old
    have c' : z ≤ i := Int32.not_lt.mp c
    clear ih hP hu0 hu1 rf old
    simp only [q254_102, q254_103, as_nil, as_i, as_r, Nat.reduceAdd, Nat.reduceLeDiff, z_eq0, z_eq1, z_or, z_em, Classical.not_not, not_false_eq_true, not_true_eq_false, true_and, and_true, false_and, and_false, and_self, true_implies, false_implies, implies_true, Option.toList_some, Option.toList_none, List.cons_append, List.nil_append, Nat.add_eq_zero_iff, a_nl_i, a_nl_r, a_nl_n, true_or, or_true, eq_self, ok_4, ok_5, ok_6, ok_7, ok_9, ok_10, ok_20, ok_21, ok_24, ok_30, ok_48, ok_50, ok_60, ok_80, ok_120, ok_180, ok_192, ok_200, ok_900, ok_1000, ok_84000, c']
    try simp only [true_and, and_true, true_implies, false_implies, implies_true, not_true_eq_false, not_false_eq_true]
    first
      | exact hp
      | grind
/-- while putting back -/
def rfH (M : Nat) (g : Nat → Int32) (p m q : Nat) (I J : Nat → Nat → Int32) : Prop := ∀ x j, ¬ sC M x j → ¬ x = M + 49 → ¬ x = M + 50 → ¬ x = M + 51 → (∀ k, p + 1 ≤ k → k < m → ¬ ((x = M + 20 ∨ x = M + 21) ∧ j = (g k).toNatClampNeg) ∧ ¬ (x = M + 22 ∧ 4 * (g k).toNatClampNeg ≤ j ∧ j < 4 * (g k).toNatClampNeg + 4)) → ¬ (x = M + 22 ∧ 4 * (g p).toNatClampNeg + q ≤ j ∧ j < 4 * (g p).toNatClampNeg + 4) → J x j = I x j
theorem xt_ringFits_237 (hS : m_S M K L R) {i z u : Int32} (ha : 0 ≤ g i.toNatClampNeg ∧ g i.toNatClampNeg < 30) (hi : 0 ≤ i ∧ i < 5) (him : i.toNatClampNeg < m) (hP : ∀ J, mR M J → rfF M g (i.toNatClampNeg + 1) m I J → (∀ k, k < m → (J (M + 49) k = I (M + 20) (g k).toNatClampNeg ∧ J (M + 50) k = I (M + 21) (g k).toNatClampNeg) ∧ ∀ y, y < 4 → J (M + 51) (4 * k + y) = I (M + 22) (4 * (g k).toNatClampNeg + y)) → a_at d (a_xm a_m254) 272 [some (a_rf M), some (.int z), some (.int u), some (.int i), some (.int (g i.toNatClampNeg)), some (.int 4)] [] (n, t, K, L, J, R) P) : ∀ o : Int32, o ≤ 4 → ∀ J, 0 ≤ o → mR M J → rfH M g i.toNatClampNeg m o.toNatClampNeg I J → (∀ k, k < m → (J (M + 49) k = I (M + 20) (g k).toNatClampNeg ∧ J (M + 50) k = I (M + 21) (g k).toNatClampNeg) ∧ ∀ y, y < 4 → J (M + 51) (4 * k + y) = I (M + 22) (4 * (g k).toNatClampNeg + y)) → a_at d (a_xm a_m254) 237 [some (a_rf M), some (.int z), some (.int u), some (.int i), some (.int (g i.toNatClampNeg)), some (.int o)] [] (n, t, K, L, J, R) P := by
  refine up_ind 4 (fun o ho ih => ?_)
  intro J h0 hR rf old
  rw [q254_237]
  by_cases c : o < 4
  · obtain ⟨t1, t2, t3, t4⟩ := lp_st h0 c
    have n1 := n4 (o := i) (i := o) ⟨hi.1, Int32.lt_trans hi.2 (by decide)⟩ ⟨h0, c⟩
    have n2 := n4 (o := g i.toNatClampNeg) (i := o) ha ⟨h0, c⟩
    have on : o.toNatClampNeg < 4 := cl_lt h0 c
    have e51 : J (M + 51) (4 * i + o).toNatClampNeg = I (M + 22) (4 * (g i.toNatClampNeg).toNatClampNeg + o.toNatClampNeg) := by rw [n1.1]; exact (old _ him).2 _ on
    have hg := ih c (a_ui J (M + 22) (4 * g i.toNatClampNeg + o).toNatClampNeg (J (M + 51) (4 * i + o).toNatClampNeg)) t2 (sR_standing hR) (fun x j a1 a2 a3 a4 a5 a6 => by
      rw [t4] at a6
      rw [ui_ap, n2.1]
      by_cases e : x = M + 22 ∧ j = 4 * (g i.toNatClampNeg).toNatClampNeg + o.toNatClampNeg
      · rw [if_pos e, e51, e.1, e.2]
      · rw [if_neg e]
        exact rf x j a1 a2 a3 a4 a5 (by omega)) (fun k hk => ⟨by rw [ui_ap, if_neg (by omega), ui_ap, if_neg (by omega)]; exact (old k hk).1, fun y hy => by rw [ui_ap, if_neg (by omega)]; exact (old k hk).2 y hy⟩)
    have c' : ¬ 4 ≤ o := Int32.not_le.mpr c
    have b1 : 0 ≤ 4 * i + o ∧ 4 * i + o < 24 := by clear ih hP rf old hg e51 n1 n2; grind
    have b2 := n2.2
    clear ih hP rf old e51 n1 n2
    simp only [q254_239, q254_240, q254_243, q254_244, q254_247, q254_248, q254_250, q254_251, q254_253, q254_254, q254_255, q254_258, q254_259, q254_260, q254_261, q254_263, q254_264, q254_265, q254_266, q254_269, m_0 hS, m_K hS, mR_standing hS, mK_standing hS, mL_standing hS, mR_oldStanding hS, mK_oldStanding hS, mL_oldStanding hS, as_nil, as_i, as_r, Nat.reduceAdd, Nat.reduceLeDiff, z_eq0, z_eq1, z_or, z_em, Classical.not_not, not_false_eq_true, not_true_eq_false, true_and, and_true, false_and, and_false, and_self, true_implies, false_implies, implies_true, Option.toList_some, Option.toList_none, List.cons_append, List.nil_append, Nat.add_eq_zero_iff, a_nl_i, a_nl_r, a_nl_n, true_or, or_true, eq_self, ok_4, ok_5, ok_6, ok_7, ok_9, ok_10, ok_20, ok_21, ok_24, ok_30, ok_48, ok_50, ok_60, ok_80, ok_120, ok_180, ok_192, ok_200, ok_900, ok_1000, ok_84000, c']
    try simp only [true_and, and_true, true_implies, false_implies, implies_true, not_true_eq_false, not_false_eq_true]
    first
      | exact hg
      | (repeat refine And.intro (by first | exact b1.1 | exact b1.2 | exact b2.1 | exact b2.2 | grind) ?_
         exact hg)
      | grind
  · have e : o = 4 := by clear ih hP rf old; grind
    subst e
    have hp := hP J hR (fun x j a1 a2 a3 a4 a5 => rf x j a1 a2 a3 a4 a5 (by rw [show (4 : Int32).toNatClampNeg = 4 from rfl]; omega)) old
    clear ih hP rf old
    simp only [q254_239, q254_240, as_nil, as_i, as_r, Nat.reduceAdd, Nat.reduceLeDiff, z_eq0, z_eq1, z_or, z_em, Classical.not_not, not_false_eq_true, not_true_eq_false, true_and, and_true, false_and, and_false, and_self, true_implies, false_implies, implies_true, Option.toList_some, Option.toList_none, List.cons_append, List.nil_append, Nat.add_eq_zero_iff, a_nl_i, a_nl_r, a_nl_n, true_or, or_true, eq_self, ok_4, ok_5, ok_6, ok_7, ok_9, ok_10, ok_20, ok_21, ok_24, ok_30, ok_48, ok_50, ok_60, ok_80, ok_120, ok_180, ok_192, ok_200, ok_900, ok_1000, ok_84000]
    try simp only [true_and, and_true, true_implies, false_implies, implies_true, not_true_eq_false, not_false_eq_true]
    first
      | exact hp
      | exact ⟨fun _ => hp, fun h => absurd (by decide) h⟩
      | grind
theorem xt_ringFits_195 (hS : m_S M K L R) {z : Int32} (ez : z.toNatClampNeg = m) (hz : 2 ≤ z ∧ z ≤ 5) (ty : tyP Y m g) (h17 : Y 0 17 ≤ 30) (hgr : ∀ k, k < m → I (M + 48) k = g k) {u : Int32} (hu : u = 0 ∨ u = 1) (hP : ∀ J, mR M J → rfF M g m m I J → P (some (.int u)) (n, t, K, L, J, R)) : ∀ i : Int32, i ≤ 5 → ∀ J a o, 0 ≤ i → i ≤ z → mR M J → rfF M g i.toNatClampNeg m I J → (∀ k, k < m → (J (M + 49) k = I (M + 20) (g k).toNatClampNeg ∧ J (M + 50) k = I (M + 21) (g k).toNatClampNeg) ∧ ∀ y, y < 4 → J (M + 51) (4 * k + y) = I (M + 22) (4 * (g k).toNatClampNeg + y)) → a_at d (a_xm a_m254) 195 [some (a_rf M), some (.int z), some (.int u), some (.int i), a, o] [] (n, t, K, L, J, R) P := by
  refine up_ind 5 (fun i hk ih => ?_)
  intro J a o q0 q1 hR rf old
  rw [q254_195]
  by_cases c : i < z
  · obtain ⟨t1, t2, t3, t4⟩ := lp_st q0 c
    have hi : 0 ≤ i ∧ i < 5 := ⟨q0, Int32.lt_of_lt_of_le c hz.2⟩
    have him : i.toNatClampNeg < m := by rw [← ez]; exact cl_lt q0 c
    obtain ⟨⟨a0, a1⟩, -⟩ := ty.1 _ him
    have ha : 0 ≤ g i.toNatClampNeg ∧ g i.toNatClampNeg < 30 := ⟨a0, Int32.lt_of_lt_of_le a1 h17⟩
    have e48 : J (M + 48) i.toNatClampNeg = g i.toNatClampNeg := by rw [rf _ _ (by unfold sC; omega) (by omega) (by omega) (by omega) (fun k k1 k2 => by omega)]; exact hgr _ him
    obtain ⟨⟨o49, o50⟩, -⟩ := old _ him
    have r1 := rg_oldBench hR i.toNatClampNeg
    have r2 := rg_oldShift hR i.toNatClampNeg
    have c' : ¬ z ≤ i := Int32.not_le.mpr c
    have hg := xt_ringFits_237 (d := d) (n := n) (t := t) (K := K) (L := L) (R := R) (P := P) (z := z) (u := u) hS ha hi him (I := I) (fun J2 hR2 rf2 old2 => by
      have hg := ih hi.2 J2 (some (.int (g i.toNatClampNeg))) (some (.int 4)) t2 t3 hR2 (by rw [t4]; exact rf2) old2
      clear ih hP rf old rf2 old2
      simp only [q254_272, q254_275, as_nil, as_i, as_r, Nat.reduceAdd, Nat.reduceLeDiff, z_eq0, z_eq1, z_or, z_em, Classical.not_not, not_false_eq_true, not_true_eq_false, true_and, and_true, false_and, and_false, and_self, true_implies, false_implies, implies_true, Option.toList_some, Option.toList_none, List.cons_append, List.nil_append, Nat.add_eq_zero_iff, a_nl_i, a_nl_r, a_nl_n, true_or, or_true, eq_self, ok_4, ok_5, ok_6, ok_7, ok_9, ok_10, ok_20, ok_21, ok_24, ok_30, ok_48, ok_50, ok_60, ok_80, ok_120, ok_180, ok_192, ok_200, ok_900, ok_1000, ok_84000]
      exact hg) 0 (by decide) (a_ui (a_ui J (M + 20) (g i.toNatClampNeg).toNatClampNeg (J (M + 49) i.toNatClampNeg)) (M + 21) (g i.toNatClampNeg).toNatClampNeg (J (M + 50) i.toNatClampNeg)) (by decide) (sR_atShift (sR_atBench hR r1) r2) (fun x j n1 n2 n3 n5 hk hn => by
      rw [show (0 : Int32).toNatClampNeg = 0 from rfl] at hn
      by_cases c21 : x = M + 21 ∧ j = (g i.toNatClampNeg).toNatClampNeg
      · rw [ui_ap, if_pos c21, c21.1, c21.2]
        exact o50
      · rw [ui_ap, if_neg c21]
        by_cases c20 : x = M + 20 ∧ j = (g i.toNatClampNeg).toNatClampNeg
        · rw [ui_ap, if_pos c20, c20.1, c20.2]
          exact o49
        · rw [ui_ap, if_neg c20]
          refine rf x j n1 n2 n3 n5 (fun k k1 k2 => ?_)
          by_cases e : k = i.toNatClampNeg
          · rw [e]
            omega
          · exact hk k (by omega) k2) (fun k hk => ⟨by rw [ui_ap, if_neg (by omega), ui_ap, if_neg (by omega), ui_ap, if_neg (by omega), ui_ap, if_neg (by omega)]; exact (old k hk).1, fun y hy => by rw [ui_ap, if_neg (by omega), ui_ap, if_neg (by omega)]; exact (old k hk).2 y hy⟩)
    clear ih hP rf old
    simp only [q254_196, q254_197, q254_200, q254_201, q254_204, q254_205, q254_206, q254_208, q254_209, q254_212, q254_214, q254_215, q254_218, q254_219, q254_220, q254_221, q254_222, q254_225, q254_227, q254_228, q254_231, q254_232, q254_233, q254_234, q254_235, m_0 hS, m_K hS, mR_ringAsk hS, mK_ringAsk hS, mL_ringAsk hS, mR_atBench hS, mK_atBench hS, mL_atBench hS, mR_oldBench hS, mK_oldBench hS, mL_oldBench hS, mR_atShift hS, mK_atShift hS, mL_atShift hS, mR_oldShift hS, mK_oldShift hS, mL_oldShift hS, as_nil, as_i, as_r, Nat.reduceAdd, Nat.reduceLeDiff, z_eq0, z_eq1, z_or, z_em, Classical.not_not, not_false_eq_true, not_true_eq_false, true_and, and_true, false_and, and_false, and_self, true_implies, false_implies, implies_true, Option.toList_some, Option.toList_none, List.cons_append, List.nil_append, Nat.add_eq_zero_iff, a_nl_i, a_nl_r, a_nl_n, true_or, or_true, eq_self, ok_4, ok_5, ok_6, ok_7, ok_9, ok_10, ok_20, ok_21, ok_24, ok_30, ok_48, ok_50, ok_60, ok_80, ok_120, ok_180, ok_192, ok_200, ok_900, ok_1000, ok_84000, ui_ap, ne_MM, ne_M0, ne_0M, Nat.reduceEqDiff, reduceIte, if_true, if_false, e48, c']
    try simp only [true_and, and_true, true_implies, false_implies, implies_true, not_true_eq_false, not_false_eq_true]
    first
      | exact hg
      | (repeat refine And.intro (by grind) ?_
         exact hg)
      | grind
  · have e := (lp_end q1 c).2
    have hp := hP J hR (by rw [e, ez] at rf; exact rf)
    have c' : z ≤ i := Int32.not_lt.mp c
    subst e
    clear ih hP rf old
    simp only [q254_196, q254_197, q254_278, q254_279, as_nil, as_i, as_r, Nat.reduceAdd, Nat.reduceLeDiff, z_eq0, z_eq1, z_or, z_em, Classical.not_not, not_false_eq_true, not_true_eq_false, true_and, and_true, false_and, and_false, and_self, true_implies, false_implies, implies_true, Option.toList_some, Option.toList_none, List.cons_append, List.nil_append, Nat.add_eq_zero_iff, a_nl_i, a_nl_r, a_nl_n, true_or, or_true, eq_self, ok_4, ok_5, ok_6, ok_7, ok_9, ok_10, ok_20, ok_21, ok_24, ok_30, ok_48, ok_50, ok_60, ok_80, ok_120, ok_180, ok_192, ok_200, ok_900, ok_1000, ok_84000, c']
    try simp only [true_and, and_true, true_implies, false_implies, implies_true, not_true_eq_false, not_false_eq_true]
    first
      | exact hp
      | exact ⟨hu, hp⟩
      | grind
/-- all but scratch is the same -/
def rqP (M : Nat) (I J : Nat → Nat → Int32) : Prop := mR M J ∧ ∀ x j, ¬ sC M x j → ¬ x = M + 49 → ¬ x = M + 50 → ¬ x = M + 51 → J x j = I x j
theorem xt_ringFits (hS : m_S M K L R) (hm : okY Y) (hg : gs M I0 I Y) {z : Int32} (ez : z.toNatClampNeg = m) (hz : 2 ≤ z ∧ z ≤ 5) (ty : tyP Y m g) (hgr : ∀ k, k < m → I (M + 48) k = g k) (hb5 : ∀ k, k < m → (0 ≤ Y 20 (g k).toNatClampNeg ∧ Y 20 (g k).toNatClampNeg ≤ 5) ∧ (0 ≤ Y 21 (g k).toNatClampNeg ∧ Y 21 (g k).toNatClampNeg ≤ 199) ∧ Y 21 (g k).toNatClampNeg + Y 10 (g 0).toNatClampNeg ≤ 200) (hP : ∀ v J, (v = 0 ∨ v = 1) → (v = 1 ↔ ∀ k, k < m → rgF Y m g k) → rqP M I J → P (some (.int v)) (n, t, K, L, J, R)) : a_does (d + 11) 254 [a_rf M, .int z] (n, t, K, L, I, R) P := by
  have hy := hm.1
  have h17 := hy.2.2.2.2.1
  have z0 : 0 ≤ z := Int32.le_trans (by decide) hz.1
  have hg30 : ∀ i, i < m → 0 ≤ g i ∧ g i < 30 := fun i hi => ⟨(ty.1 i hi).1.1, Int32.lt_of_lt_of_le (ty.1 i hi).1.2 h17.2⟩
  have hinU : ∀ p, inP (rgU g Y p) := by
    intro p
    induction p with
    | zero => exact hm.2.1.2.2.2.1
    | succ p ih => exact inP_un ih
  have hl := xt_ringFits_2 (d := d + 10) (n := n) (t := t) (P := P) hS ez hz ty h17.2 hgr (I := I) (fun J a o hR sv old => by
    have hg1 : gs M I0 J (rgU g Y m) := ⟨hR, fun x j hx => (sv.1 x j (by omega) (by omega) (by omega) (fun k _ => by omega)).trans (hg.2.1 x j hx), psE_tr (rgU_p hg.2.2 m hg30) (sv_ps sv)⟩
    have hf := xt_ringFits_101 (d := d) (n := n) (t := t) (P := P) hS hm hg ez hz ty hgr hb5 (fun J u i o hu hh hR rf old => by
      have hb := xt_ringFits_195 (d := d + 10) (n := n) (t := t) (P := P) hS ez hz ty h17.2 hgr hu (fun J hR rf => hP u J hu hh ⟨hR, fun x j a1 a2 a3 a4 => rf x j a1 a2 a3 a4 (fun k k1 k2 => by omega)⟩) 0 (by decide) J o none (by decide) z0 hR rf old
      clear hP
      simp only [q254_193, q254_194, as_nil, as_i, as_r, Nat.reduceAdd, Nat.reduceLeDiff, z_eq0, z_eq1, z_or, z_em, Classical.not_not, not_false_eq_true, not_true_eq_false, true_and, and_true, false_and, and_false, and_self, true_implies, false_implies, implies_true, Option.toList_some, Option.toList_none, List.cons_append, List.nil_append, Nat.add_eq_zero_iff, a_nl_i, a_nl_r, a_nl_n, true_or, or_true, eq_self, ok_4, ok_5, ok_6, ok_7, ok_9, ok_10, ok_20, ok_21, ok_24, ok_30, ok_48, ok_50, ok_60, ok_80, ok_120, ok_180, ok_192, ok_200, ok_900, ok_1000, ok_84000]
      exact hb) 0 (by decide) J 1 o (by decide) z0 (Or.inr rfl) (fun e => absurd e (by decide)) (fun _ => ⟨hg1, hinU m, fun k hk => absurd hk (Nat.not_lt_zero k)⟩) hR (sv_rf sv) old
    clear hP sv old hg1
    simp only [q254_97, q254_98, q254_99, q254_100, as_nil, as_i, as_r, Nat.reduceAdd, Nat.reduceLeDiff, z_eq0, z_eq1, z_or, z_em, Classical.not_not, not_false_eq_true, not_true_eq_false, true_and, and_true, false_and, and_false, and_self, true_implies, false_implies, implies_true, Option.toList_some, Option.toList_none, List.cons_append, List.nil_append, Nat.add_eq_zero_iff, a_nl_i, a_nl_r, a_nl_n, true_or, or_true, eq_self, ok_4, ok_5, ok_6, ok_7, ok_9, ok_10, ok_20, ok_21, ok_24, ok_30, ok_48, ok_50, ok_60, ok_80, ok_120, ok_180, ok_192, ok_200, ok_900, ok_1000, ok_84000]
    exact hf) 0 (by decide) I none none (by decide) z0 hg.1 ⟨fun _ _ _ _ _ _ => rfl, fun k hk => absurd hk (Nat.not_lt_zero k)⟩ (fun k hk => absurd hk (Nat.not_lt_zero k))
  clear hP
  rw [a_enter1 (M := a_m254) rfl (a_cat_rf (a_cat_int a_cat_nil)) (show 2 ≤ 6 by decide)]
  show a_at _ (a_xm a_m254) 0 [some (a_rf M), some (.int z), none, none, none, none] [] _ _
  simp only [q254_0, q254_1, as_nil, as_i, as_r, Nat.reduceAdd, Nat.reduceLeDiff, z_eq0, z_eq1, z_or, z_em, Classical.not_not, not_false_eq_true, not_true_eq_false, true_and, and_true, false_and, and_false, and_self, true_implies, false_implies, implies_true, Option.toList_some, Option.toList_none, List.cons_append, List.nil_append, Nat.add_eq_zero_iff, a_nl_i, a_nl_r, a_nl_n, true_or, or_true, eq_self, ok_4, ok_5, ok_6, ok_7, ok_9, ok_10, ok_20, ok_21, ok_24, ok_30, ok_48, ok_50, ok_60, ok_80, ok_120, ok_180, ok_192, ok_200, ok_900, ok_1000, ok_84000]
  exact hl
end ZEE
end
section
/-! the reference: mayBeNext -/
section ZFF
variable {d n t M : Nat} {K L : Nat → Nat} {I I0 J J0 J1 J2 : Nat → Nat → Int32} {R : Nat → Nat → Nat} {P : Option Value → AH → Prop} {f : Nat → Int32} {e : Int32}
variable {Y Z W : Nat → Nat → Int32} {m : Nat} {g : Nat → Int32}
def mnP (Y : Nat → Nat → Int32) (g : Nat → Int32) (p : Nat) (a : Int32) : Prop := mvY Y a ∧ (p = 0 ∨ (g 0 < a ∧ ¬ Y 47 (30 * g (p - 1) + a).toNatClampNeg = 0 ∧ Y 10 a.toNatClampNeg = Y 10 (g 0).toNatClampNeg)) ∧ ∀ k, k < p → ¬ g k = a ∧ ¬ Y 8 (g k).toNatClampNeg = Y 8 a.toNatClampNeg
theorem xt_mayBeNext_87 (hS : m_S M K L R) (hm : okY Y) (hg : gs M I0 I Y) {a i : Int32} (ha : 0 ≤ a ∧ a < Y 0 17) (hi : 0 ≤ i ∧ i ≤ 5) (hgr : ∀ k, k < i.toNatClampNeg → I (M + 48) k = g k ∧ (0 ≤ g k ∧ g k < Y 0 17)) {B : Prop} (hP : ∀ v : Int32, (v = 0 ∨ v = 1) → (v = 1 ↔ B ∧ ∀ k, k < i.toNatClampNeg → ¬ g k = a ∧ ¬ Y 8 (g k).toNatClampNeg = Y 8 a.toNatClampNeg) → P (some (.int v)) (n, t, K, L, I, R)) : ∀ k : Int32, k ≤ 5 → ∀ u, 0 ≤ k → k ≤ i → (u = 0 ∨ u = 1) → (u = 1 ↔ B ∧ ∀ l, l < k.toNatClampNeg → ¬ g l = a ∧ ¬ Y 8 (g l).toNatClampNeg = Y 8 a.toNatClampNeg) → a_at d (a_xm a_m253) 87 [some (a_rf M), some (.int a), some (.int i), some (.int u), some (.int k)] [] (n, t, K, L, I, R) P := by
  have h17 := hm.1.2.2.2.2.1
  refine up_ind 5 (fun k hk ih => ?_)
  intro u h0 hki hu hh
  rw [q253_87]
  by_cases c : k < i
  · obtain ⟨t1, t2, t3, t4⟩ := lp_st h0 c
    have hk5 : 0 ≤ k ∧ k < 6 := ⟨h0, Int32.lt_of_lt_of_le c (Int32.le_trans hi.2 (by decide))⟩
    have k5 : k < 5 := Int32.lt_of_lt_of_le c hi.2
    obtain ⟨e48, gk⟩ := hgr k.toNatClampNeg (cl_lt h0 c)
    have g30 : 0 ≤ g k.toNatClampNeg ∧ g k.toNatClampNeg < 30 := ⟨gk.1, Int32.lt_of_lt_of_le gk.2 h17.2⟩
    have a30 : 0 ≤ a ∧ a < 30 := ⟨ha.1, Int32.lt_of_lt_of_le ha.2 h17.2⟩
    have e8 : I (M + 8) (g k.toNatClampNeg).toNatClampNeg = Y 8 (g k.toNatClampNeg).toNatClampNeg := hg.2.2.1 8 _ (by unfold ps1; omega)
    have e8a : I (M + 8) a.toNatClampNeg = Y 8 a.toNatClampNeg := hg.2.2.1 8 _ (by unfold ps1; omega)
    have c' : ¬ i ≤ k := Int32.not_le.mpr c
    have n10 : ¬ (1 : Int32) = 0 := by decide
    have hno : ¬ (u = 1 ∧ ¬ g k.toNatClampNeg = a ∧ ¬ Y 8 (g k.toNatClampNeg).toNatClampNeg = Y 8 a.toNatClampNeg) → a_at d (a_xm a_m253) 87 [some (a_rf M), some (.int a), some (.int i), some (.int 0), some (.int (k + 1))] [] (n, t, K, L, I, R) P := fun q => ih k5 0 t2 t3 (Or.inl rfl) ⟨fun e => absurd e (by decide), fun ⟨b, f⟩ => absurd ⟨hh.mpr ⟨b, fun l hl => f l (by omega)⟩, f _ (by omega)⟩ q⟩
    have hyes : (u = 1 ∧ ¬ g k.toNatClampNeg = a ∧ ¬ Y 8 (g k.toNatClampNeg).toNatClampNeg = Y 8 a.toNatClampNeg) → a_at d (a_xm a_m253) 87 [some (a_rf M), some (.int a), some (.int i), some (.int 1), some (.int (k + 1))] [] (n, t, K, L, I, R) P := fun q => ih k5 1 t2 t3 (Or.inr rfl) ⟨fun _ => ⟨(hh.mp q.1).1, fun l hl => by
      rw [t4] at hl
      by_cases e : l = k.toNatClampNeg
      · rw [e]; exact q.2
      · exact (hh.mp q.1).2 l (by omega)⟩, fun _ => rfl⟩
    by_cases c1 : u = 0
    · have hp := hno (fun q => by rw [c1] at q; exact absurd q.1 (by decide))
      clear ih hP hgr hg hm hh hno hyes
      simp only [q253_89, q253_90, q253_93, q253_94, q253_133, q253_134, q253_135, q253_138, as_nil, as_i, as_r, Nat.reduceAdd, Nat.reduceLeDiff, z_eq0, z_eq1, z_or, z_em, Classical.not_not, not_false_eq_true, not_true_eq_false, true_and, and_true, false_and, and_false, and_self, true_implies, false_implies, implies_true, Option.toList_some, Option.toList_none, List.cons_append, List.nil_append, Nat.add_eq_zero_iff, a_nl_i, a_nl_r, a_nl_n, true_or, or_true, eq_self, ok_4, ok_5, ok_6, ok_7, ok_9, ok_10, ok_20, ok_21, ok_24, ok_30, ok_48, ok_50, ok_60, ok_80, ok_120, ok_180, ok_192, ok_200, ok_900, ok_1000, ok_84000, c', c1]
      try simp only [true_and, and_true, true_implies, false_implies, implies_true, not_true_eq_false, not_false_eq_true]
      first
        | exact hp
        | grind
    · have u1 := hu.resolve_left c1
      by_cases c2 : g k.toNatClampNeg = a
      · have hp := hno (fun q => q.2.1 c2)
        clear ih hP hgr hg hm hh hno hyes
        simp only [q253_89, q253_90, q253_93, q253_94, q253_97, q253_98, q253_101, q253_103, q253_104, q253_105, q253_133, q253_134, q253_135, q253_138, m_0 hS, m_K hS, mR_ringAsk hS, mK_ringAsk hS, mL_ringAsk hS, as_nil, as_i, as_r, Nat.reduceAdd, Nat.reduceLeDiff, z_eq0, z_eq1, z_or, z_em, Classical.not_not, not_false_eq_true, not_true_eq_false, true_and, and_true, false_and, and_false, and_self, true_implies, false_implies, implies_true, Option.toList_some, Option.toList_none, List.cons_append, List.nil_append, Nat.add_eq_zero_iff, a_nl_i, a_nl_r, a_nl_n, true_or, or_true, eq_self, ok_4, ok_5, ok_6, ok_7, ok_9, ok_10, ok_20, ok_21, ok_24, ok_30, ok_48, ok_50, ok_60, ok_80, ok_120, ok_180, ok_192, ok_200, ok_900, ok_1000, ok_84000, c', u1, n10, e48, c2, hk5]
        try simp only [true_and, and_true, true_implies, false_implies, implies_true, not_true_eq_false, not_false_eq_true]
        first
          | exact hp
          | grind
      · by_cases c3 : Y 8 (g k.toNatClampNeg).toNatClampNeg = Y 8 a.toNatClampNeg
        · have hp := hno (fun q => q.2.2 c3)
          clear ih hP hgr hg hm hh hno hyes
          simp only [q253_89, q253_90, q253_93, q253_94, q253_97, q253_98, q253_101, q253_103, q253_104, q253_105, q253_108, q253_109, q253_112, q253_113, q253_116, q253_118, q253_119, q253_120, q253_121, q253_124, q253_125, q253_126, q253_133, q253_134, q253_135, q253_138, m_0 hS, m_K hS, mR_ringAsk hS, mK_ringAsk hS, mL_ringAsk hS, mR_group hS, mK_group hS, mL_group hS, as_nil, as_i, as_r, Nat.reduceAdd, Nat.reduceLeDiff, z_eq0, z_eq1, z_or, z_em, Classical.not_not, not_false_eq_true, not_true_eq_false, true_and, and_true, false_and, and_false, and_self, true_implies, false_implies, implies_true, Option.toList_some, Option.toList_none, List.cons_append, List.nil_append, Nat.add_eq_zero_iff, a_nl_i, a_nl_r, a_nl_n, true_or, or_true, eq_self, ok_4, ok_5, ok_6, ok_7, ok_9, ok_10, ok_20, ok_21, ok_24, ok_30, ok_48, ok_50, ok_60, ok_80, ok_120, ok_180, ok_192, ok_200, ok_900, ok_1000, ok_84000, c', u1, n10, e48, c2, hk5, e8, e8a, c3, g30, a30]
          try simp only [true_and, and_true, true_implies, false_implies, implies_true, not_true_eq_false, not_false_eq_true]
          first
            | exact hp
            | grind
        · have hp := hyes ⟨u1, c2, c3⟩
          clear ih hP hgr hg hm hh hno hyes
          simp only [q253_89, q253_90, q253_93, q253_94, q253_97, q253_98, q253_101, q253_103, q253_104, q253_105, q253_108, q253_109, q253_112, q253_113, q253_116, q253_118, q253_119, q253_120, q253_121, q253_124, q253_125, q253_126, q253_129, q253_130, q253_133, q253_134, q253_135, q253_138, m_0 hS, m_K hS, mR_ringAsk hS, mK_ringAsk hS, mL_ringAsk hS, mR_group hS, mK_group hS, mL_group hS, as_nil, as_i, as_r, Nat.reduceAdd, Nat.reduceLeDiff, z_eq0, z_eq1, z_or, z_em, Classical.not_not, not_false_eq_true, not_true_eq_false, true_and, and_true, false_and, and_false, and_self, true_implies, false_implies, implies_true, Option.toList_some, Option.toList_none, List.cons_append, List.nil_append, Nat.add_eq_zero_iff, a_nl_i, a_nl_r, a_nl_n, true_or, or_true, eq_self, ok_4, ok_5, ok_6, ok_7, ok_9, ok_10, ok_20, ok_21, ok_24, ok_30, ok_48, ok_50, ok_60, ok_80, ok_120, ok_180, ok_192, ok_200, ok_900, ok_1000, ok_84000, c', u1, n10, e48, c2, hk5, e8, e8a, c3, g30, a30]
          try simp only [true_and, and_true, true_implies, false_implies, implies_true, not_true_eq_false, not_false_eq_true]
          first
            | exact hp
            | grind
  · have e := (lp_end hki c).2
    have hp := hP u hu (by rw [e] at hh; exact hh)
    have c' : i ≤ k := Int32.not_lt.mp c
    clear ih hP hgr hg hm hh
    simp only [q253_89, q253_90, q253_141, q253_142, as_nil, as_i, as_r, Nat.reduceAdd, Nat.reduceLeDiff, z_eq0, z_eq1, z_or, z_em, Classical.not_not, not_false_eq_true, not_true_eq_false, true_and, and_true, false_and, and_false, and_self, true_implies, false_implies, implies_true, Option.toList_some, Option.toList_none, List.cons_append, List.nil_append, Nat.add_eq_zero_iff, a_nl_i, a_nl_r, a_nl_n, true_or, or_true, eq_self, ok_4, ok_5, ok_6, ok_7, ok_9, ok_10, ok_20, ok_21, ok_24, ok_30, ok_48, ok_50, ok_60, ok_80, ok_120, ok_180, ok_192, ok_200, ok_900, ok_1000, ok_84000, c']
    try simp only [true_and, and_true, true_implies, false_implies, implies_true, not_true_eq_false, not_false_eq_true]
    first
      | exact hp
      | exact ⟨hu, hp⟩
      | grind
theorem xt_mayBeNext (hS : m_S M K L R) (hm : okY Y) (hg : gs M I0 I Y) {a i : Int32} (ha : 0 ≤ a ∧ a < Y 0 17) (hi : 0 ≤ i ∧ i ≤ 5) (hgr : ∀ k, k < i.toNatClampNeg → I (M + 48) k = g k ∧ (0 ≤ g k ∧ g k < Y 0 17)) (hP : ∀ v : Int32, (v = 0 ∨ v = 1) → (v = 1 ↔ mnP Y g i.toNatClampNeg a) → P (some (.int v)) (n, t, K, L, I, R)) : a_does (d + 2) 253 [a_rf M, .int a, .int i] (n, t, K, L, I, R) P := by
  have h17 := hm.1.2.2.2.2.1
  have a30 : 0 ≤ a ∧ a < 30 := ⟨ha.1, Int32.lt_of_lt_of_le ha.2 h17.2⟩
  have e20 : I (M + 20) a.toNatClampNeg = Y 20 a.toNatClampNeg := hg.2.2.1 20 _ (by unfold ps1; omega)
  have e21 : I (M + 21) a.toNatClampNeg = Y 21 a.toNatClampNeg := hg.2.2.1 21 _ (by unfold ps1; omega)
  have e0 : I M 0 = Y 0 0 := hg.2.2.1 0 0 (by unfold ps1; omega)
  have e17 : I M 17 = Y 0 17 := hg.2.2.1 0 17 (by unfold ps1; omega)
  have i0 : i.toNatClampNeg = 0 ↔ i = 0 := ⟨fun e => by
    by_cases q : 0 < i
    · have := cl_lt (i := 0) (by decide) q
      have : 0 < i.toNatClampNeg := this
      omega
    · clear hP hgr hg hm; grind, fun e => by rw [e]; rfl⟩
  by_cases c1 : 0 ≤ Y 20 a.toNatClampNeg ∧ ¬ Y 21 a.toNatClampNeg * 8 < Y 0 0
  · have h87 : ∀ u : Int32, (u = 0 ∨ u = 1) → (u = 1 ↔ (i = 0 ∨ (g 0 < a ∧ ¬ Y 47 (30 * g (i.toNatClampNeg - 1) + a).toNatClampNeg = 0 ∧ Y 10 a.toNatClampNeg = Y 10 (g 0).toNatClampNeg))) → a_at (d + 1) (a_xm a_m253) 83 [some (a_rf M), some (.int a), some (.int i), none, none] [.int u] (n, t, K, L, I, R) P := fun u hu hh => by
      have hl := xt_mayBeNext_87 (d := d + 1) (n := n) (t := t) (P := P) (B := (i = 0 ∨ (g 0 < a ∧ ¬ Y 47 (30 * g (i.toNatClampNeg - 1) + a).toNatClampNeg = 0 ∧ Y 10 a.toNatClampNeg = Y 10 (g 0).toNatClampNeg))) hS hm hg ha hi hgr (fun v hv hvv => hP v hv (hvv.trans ⟨fun q => ⟨c1, q.1.imp i0.mpr id, q.2⟩, fun q => ⟨q.2.1.imp i0.mp id, q.2.2⟩⟩)) 0 (by decide) u (by decide) hi.1 hu ⟨fun e => ⟨hh.mp e, fun l hl => absurd hl (Nat.not_lt_zero l)⟩, fun q => hh.mpr q.1⟩
      clear hP hgr hg hm
      simp only [q253_83, q253_84, q253_85, as_nil, as_i, as_r, Nat.reduceAdd, Nat.reduceLeDiff, z_eq0, z_eq1, z_or, z_em, Classical.not_not, not_false_eq_true, not_true_eq_false, true_and, and_true, false_and, and_false, and_self, true_implies, false_implies, implies_true, Option.toList_some, Option.toList_none, List.cons_append, List.nil_append, Nat.add_eq_zero_iff, a_nl_i, a_nl_r, a_nl_n, true_or, or_true, eq_self, ok_4, ok_5, ok_6, ok_7, ok_9, ok_10, ok_20, ok_21, ok_24, ok_30, ok_48, ok_50, ok_60, ok_80, ok_120, ok_180, ok_192, ok_200, ok_900, ok_1000, ok_84000]
      exact hl
    have h0 : ¬ (i = 0 ∨ (g 0 < a ∧ ¬ Y 47 (30 * g (i.toNatClampNeg - 1) + a).toNatClampNeg = 0 ∧ Y 10 a.toNatClampNeg = Y 10 (g 0).toNatClampNeg)) → a_at (d + 1) (a_xm a_m253) 83 [some (a_rf M), some (.int a), some (.int i), none, none] [.int 0] (n, t, K, L, I, R) P := fun q => h87 0 (Or.inl rfl) ⟨fun e => absurd e (by decide), fun r => absurd r q⟩
    have h1 : (i = 0 ∨ (g 0 < a ∧ ¬ Y 47 (30 * g (i.toNatClampNeg - 1) + a).toNatClampNeg = 0 ∧ Y 10 a.toNatClampNeg = Y 10 (g 0).toNatClampNeg)) → a_at (d + 1) (a_xm a_m253) 83 [some (a_rf M), some (.int a), some (.int i), none, none] [.int 1] (n, t, K, L, I, R) P := fun q => h87 1 (Or.inr rfl) ⟨fun _ => q, fun _ => rfl⟩
    have h23 : a_at (d + 1) (a_xm a_m253) 23 [some (a_rf M), some (.int a), some (.int i), none, none] [] (n, t, K, L, I, R) P := by
      by_cases c0 : i = 0
      · have hp := h1 (Or.inl c0)
        clear hP hgr hg hm h87 h0 h1
        simp only [q253_23, q253_24, q253_78, q253_79, as_nil, as_i, as_r, Nat.reduceAdd, Nat.reduceLeDiff, z_eq0, z_eq1, z_or, z_em, Classical.not_not, not_false_eq_true, not_true_eq_false, true_and, and_true, false_and, and_false, and_self, true_implies, false_implies, implies_true, Option.toList_some, Option.toList_none, List.cons_append, List.nil_append, Nat.add_eq_zero_iff, a_nl_i, a_nl_r, a_nl_n, true_or, or_true, eq_self, ok_4, ok_5, ok_6, ok_7, ok_9, ok_10, ok_20, ok_21, ok_24, ok_30, ok_48, ok_50, ok_60, ok_80, ok_120, ok_180, ok_192, ok_200, ok_900, ok_1000, ok_84000, c0]
        try simp only [true_and, and_true, true_implies, false_implies, implies_true, not_true_eq_false, not_false_eq_true]
        rw [c0] at hp
        first
          | exact hp
          | grind
      · have i1 : 1 ≤ i := by clear hP hgr hg hm h87 h0 h1; grind
        have hin : 0 < i.toNatClampNeg := cl_lt (i := 0) (by decide) (Int32.lt_of_lt_of_le (by decide) i1)
        obtain ⟨f48, g0⟩ := hgr 0 hin
        obtain ⟨e1, -, el, b0, b5, -⟩ := a_1 i1 hi.2
        obtain ⟨l48, gl⟩ := hgr (i - 1).toNatClampNeg (by omega)
        have g30 : 0 ≤ g 0 ∧ g 0 < 30 := ⟨g0.1, Int32.lt_of_lt_of_le g0.2 h17.2⟩
        have l30 : 0 ≤ g (i - 1).toNatClampNeg ∧ g (i - 1).toNatClampNeg < 30 := ⟨gl.1, Int32.lt_of_lt_of_le gl.2 h17.2⟩
        obtain ⟨x1, x2, -⟩ := ix_900 l30 a30
        have b6 : 0 ≤ i - 1 ∧ i - 1 < 6 := ⟨b0, Int32.lt_trans b5 (by decide)⟩
        have e47 : I (M + 47) (30 * g (i - 1).toNatClampNeg + a).toNatClampNeg = Y 47 (30 * g (i - 1).toNatClampNeg + a).toNatClampNeg := hg.2.2.1 47 _ (by unfold ps1; omega)
        have e10 : I (M + 10) a.toNatClampNeg = Y 10 a.toNatClampNeg := hg.2.2.1 10 _ (by unfold ps1; omega)
        have e10g : I (M + 10) (g 0).toNatClampNeg = Y 10 (g 0).toNatClampNeg := hg.2.2.1 10 _ (by unfold ps1; omega)
        have z0 : (0 : Int32).toNatClampNeg = 0 := rfl
        rw [← e1] at h0 h1
        by_cases c2 : g 0 < a
        · have c2' : ¬ a ≤ g 0 := Int32.not_le.mpr c2
          by_cases c3 : Y 47 (30 * g (i - 1).toNatClampNeg + a).toNatClampNeg = 0
          · have hp := h0 (fun q => (q.resolve_left c0).2.1 c3)
            clear hP hgr hg hm h87 h0 h1
            simp only [q253_23, q253_24, q253_27, q253_28, q253_29, q253_32, q253_33, q253_34, q253_37, q253_38, q253_41, q253_43, q253_44, q253_47, q253_48, q253_49, q253_50, q253_51, q253_52, q253_53, q253_54, q253_55, q253_82, m_0 hS, m_K hS, mR_ringAsk hS, mK_ringAsk hS, mL_ringAsk hS, mR_isWish hS, mK_isWish hS, mL_isWish hS, as_nil, as_i, as_r, Nat.reduceAdd, Nat.reduceLeDiff, z_eq0, z_eq1, z_or, z_em, Classical.not_not, not_false_eq_true, not_true_eq_false, true_and, and_true, false_and, and_false, and_self, true_implies, false_implies, implies_true, Option.toList_some, Option.toList_none, List.cons_append, List.nil_append, Nat.add_eq_zero_iff, a_nl_i, a_nl_r, a_nl_n, true_or, or_true, eq_self, ok_4, ok_5, ok_6, ok_7, ok_9, ok_10, ok_20, ok_21, ok_24, ok_30, ok_48, ok_50, ok_60, ok_80, ok_120, ok_180, ok_192, ok_200, ok_900, ok_1000, ok_84000, c0, f48, l48, z0, c2', c3, e47, b6, x2]
            try simp only [true_and, and_true, true_implies, false_implies, implies_true, not_true_eq_false, not_false_eq_true]
            first
              | exact hp
              | grind
          · by_cases c4 : Y 10 a.toNatClampNeg = Y 10 (g 0).toNatClampNeg
            · have hp := h1 (Or.inr ⟨c2, c3, c4⟩)
              clear hP hgr hg hm h87 h0 h1
              simp only [q253_23, q253_24, q253_27, q253_28, q253_29, q253_32, q253_33, q253_34, q253_37, q253_38, q253_41, q253_43, q253_44, q253_47, q253_48, q253_49, q253_50, q253_51, q253_52, q253_53, q253_54, q253_55, q253_58, q253_59, q253_62, q253_63, q253_64, q253_65, q253_68, q253_69, q253_72, q253_73, q253_74, q253_75, q253_78, q253_79, m_0 hS, m_K hS, mR_ringAsk hS, mK_ringAsk hS, mL_ringAsk hS, mR_isWish hS, mK_isWish hS, mL_isWish hS, mR_length hS, mK_length hS, mL_length hS, as_nil, as_i, as_r, Nat.reduceAdd, Nat.reduceLeDiff, z_eq0, z_eq1, z_or, z_em, Classical.not_not, not_false_eq_true, not_true_eq_false, true_and, and_true, false_and, and_false, and_self, true_implies, false_implies, implies_true, Option.toList_some, Option.toList_none, List.cons_append, List.nil_append, Nat.add_eq_zero_iff, a_nl_i, a_nl_r, a_nl_n, true_or, or_true, eq_self, ok_4, ok_5, ok_6, ok_7, ok_9, ok_10, ok_20, ok_21, ok_24, ok_30, ok_48, ok_50, ok_60, ok_80, ok_120, ok_180, ok_192, ok_200, ok_900, ok_1000, ok_84000, c0, f48, l48, z0, c2', c3, e47, b6, x2, e10, e10g, c4, a30, g30]
              try simp only [true_and, and_true, true_implies, false_implies, implies_true, not_true_eq_false, not_false_eq_true]
              first
                | exact hp
                | grind
            · have hp := h0 (fun q => c4 (q.resolve_left c0).2.2)
              clear hP hgr hg hm h87 h0 h1
              simp only [q253_23, q253_24, q253_27, q253_28, q253_29, q253_32, q253_33, q253_34, q253_37, q253_38, q253_41, q253_43, q253_44, q253_47, q253_48, q253_49, q253_50, q253_51, q253_52, q253_53, q253_54, q253_55, q253_58, q253_59, q253_62, q253_63, q253_64, q253_65, q253_68, q253_69, q253_72, q253_73, q253_74, q253_75, q253_82, m_0 hS, m_K hS, mR_ringAsk hS, mK_ringAsk hS, mL_ringAsk hS, mR_isWish hS, mK_isWish hS, mL_isWish hS, mR_length hS, mK_length hS, mL_length hS, as_nil, as_i, as_r, Nat.reduceAdd, Nat.reduceLeDiff, z_eq0, z_eq1, z_or, z_em, Classical.not_not, not_false_eq_true, not_true_eq_false, true_and, and_true, false_and, and_false, and_self, true_implies, false_implies, implies_true, Option.toList_some, Option.toList_none, List.cons_append, List.nil_append, Nat.add_eq_zero_iff, a_nl_i, a_nl_r, a_nl_n, true_or, or_true, eq_self, ok_4, ok_5, ok_6, ok_7, ok_9, ok_10, ok_20, ok_21, ok_24, ok_30, ok_48, ok_50, ok_60, ok_80, ok_120, ok_180, ok_192, ok_200, ok_900, ok_1000, ok_84000, c0, f48, l48, z0, c2', c3, e47, b6, x2, e10, e10g, c4, a30, g30]
              try simp only [true_and, and_true, true_implies, false_implies, implies_true, not_true_eq_false, not_false_eq_true]
              first
                | exact hp
                | grind
        · have hp := h0 (fun q => c2 (q.resolve_left c0).1)
          have c2' : a ≤ g 0 := Int32.not_lt.mp c2
          clear hP hgr hg hm h87 h0 h1
          simp only [q253_23, q253_24, q253_27, q253_28, q253_29, q253_32, q253_33, q253_34, q253_82, m_0 hS, m_K hS, mR_ringAsk hS, mK_ringAsk hS, mL_ringAsk hS, as_nil, as_i, as_r, Nat.reduceAdd, Nat.reduceLeDiff, z_eq0, z_eq1, z_or, z_em, Classical.not_not, not_false_eq_true, not_true_eq_false, true_and, and_true, false_and, and_false, and_self, true_implies, false_implies, implies_true, Option.toList_some, Option.toList_none, List.cons_append, List.nil_append, Nat.add_eq_zero_iff, a_nl_i, a_nl_r, a_nl_n, true_or, or_true, eq_self, ok_4, ok_5, ok_6, ok_7, ok_9, ok_10, ok_20, ok_21, ok_24, ok_30, ok_48, ok_50, ok_60, ok_80, ok_120, ok_180, ok_192, ok_200, ok_900, ok_1000, ok_84000, c0, f48, z0, c2']
          try simp only [true_and, and_true, true_implies, false_implies, implies_true, not_true_eq_false, not_false_eq_true]
          first
            | exact hp
            | grind
    clear hP hgr hg hm h87 h0 h1
    rw [a_enter1 (M := a_m253) rfl (a_cat_rf (a_cat_int (a_cat_int a_cat_nil))) (show 3 ≤ 5 by decide)]
    show a_at _ (a_xm a_m253) 0 [some (a_rf M), some (.int a), some (.int i), none, none] [] _ _
    simp only [q253_0, q253_1, q253_2, q253_5, q253_8, q253_9, q253_10, q253_13, q253_14, q253_15, q253_18, m_0 hS, m_K hS, mR_atShift hS, mK_atShift hS, mL_atShift hS, sp_hasPlace hS, sp_isBegun hS, as_nil, as_i, as_r, Nat.reduceAdd, Nat.reduceLeDiff, z_eq0, z_eq1, z_or, z_em, Classical.not_not, not_false_eq_true, not_true_eq_false, true_and, and_true, false_and, and_false, and_self, true_implies, false_implies, implies_true, Option.toList_some, Option.toList_none, List.cons_append, List.nil_append, Nat.add_eq_zero_iff, a_nl_i, a_nl_r, a_nl_n, true_or, or_true, eq_self, ok_4, ok_5, ok_6, ok_7, ok_9, ok_10, ok_20, ok_21, ok_24, ok_30, ok_48, ok_50, ok_60, ok_80, ok_120, ok_180, ok_192, ok_200, ok_900, ok_1000, ok_84000, e20, e21, e0, e17, a30]
    try simp only [true_and, and_true, true_implies, false_implies, implies_true, not_true_eq_false, not_false_eq_true]
    first
      | exact h23
      | grind
  · have hp := hP 0 (Or.inl rfl) ⟨fun e => absurd e (by decide), fun q => absurd q.1 c1⟩
    clear hP hgr hg hm
    rw [a_enter1 (M := a_m253) rfl (a_cat_rf (a_cat_int (a_cat_int a_cat_nil))) (show 3 ≤ 5 by decide)]
    show a_at _ (a_xm a_m253) 0 [some (a_rf M), some (.int a), some (.int i), none, none] [] _ _
    simp only [q253_0, q253_1, q253_2, q253_5, q253_8, q253_9, q253_10, q253_13, q253_14, q253_15, q253_18, q253_21, q253_22, m_0 hS, m_K hS, mR_atShift hS, mK_atShift hS, mL_atShift hS, sp_hasPlace hS, sp_isBegun hS, as_nil, as_i, as_r, Nat.reduceAdd, Nat.reduceLeDiff, z_eq0, z_eq1, z_or, z_em, Classical.not_not, not_false_eq_true, not_true_eq_false, true_and, and_true, false_and, and_false, and_self, true_implies, false_implies, implies_true, Option.toList_some, Option.toList_none, List.cons_append, List.nil_append, Nat.add_eq_zero_iff, a_nl_i, a_nl_r, a_nl_n, true_or, or_true, eq_self, ok_4, ok_5, ok_6, ok_7, ok_9, ok_10, ok_20, ok_21, ok_24, ok_30, ok_48, ok_50, ok_60, ok_80, ok_120, ok_180, ok_192, ok_200, ok_900, ok_1000, ok_84000, e20, e21, e0, e17, a30]
    try simp only [true_and, and_true, true_implies, false_implies, implies_true, not_true_eq_false, not_false_eq_true]
    grind
end ZFF
end
section
/-! the reference: the RING is found -/
section ZGG
variable {d n t M : Nat} {K L : Nat → Nat} {I I0 J J0 J1 J2 : Nat → Nat → Int32} {R : Nat → Nat → Nat} {P : Option Value → AH → Prop} {f : Nat → Int32} {e : Int32}
variable {Y Z W : Nat → Nat → Int32} {g w v : Nat → Int32}
def rpP (Y : Nat → Nat → Int32) (p : Nat) (w : Nat → Int32) : Prop := (∀ k, k < p → (0 ≤ w k ∧ w k < Y 0 17) ∧ mvY Y (w k)) ∧ (∀ k, k + 1 < p → w 0 < w (k + 1) ∧ ¬ Y 47 (30 * w k + w (k + 1)).toNatClampNeg = 0 ∧ Y 10 (w (k + 1)).toNatClampNeg = Y 10 (w 0).toNatClampNeg) ∧ ∀ i j, i < j → j < p → ¬ Y 8 (w i).toNatClampNeg = Y 8 (w j).toNatClampNeg
def bkP (Y : Nat → Nat → Int32) (m : Nat) (w : Nat → Int32) (i : Nat) : Prop := ∀ k, k < i → blR Y m k w (w k)
theorem bl_c {m a : Nat} {x : Int32} (e : ∀ j, j < a → v j = w j) (h : blR Y m a w x) : blR Y m a v x := fun t ht => h t (fun j hj => (ht j hj).trans (e j hj))
theorem bk_c {m i : Nat} (e : ∀ j, j < i → v j = w j) (h : bkP Y m w i) : bkP Y m v i := fun k hk => by
  rw [e k hk]
  exact bl_c (fun j hj => e j (by omega)) (h k hk)
theorem rp_c {p : Nat} (e : ∀ j, j < p → v j = w j) (h : rpP Y p w) : rpP Y p v := by
  refine ⟨fun k hk => by rw [e k hk]; exact h.1 k hk, fun k hk => by rw [e 0 (by omega), e k (by omega), e _ hk]; exact h.2.1 k hk, fun i j hi hj => by rw [e i (by omega), e j hj]; exact h.2.2 i j hi hj⟩
theorem rp_up {p : Nat} (h : rpP Y p w) (hr : 0 ≤ w p ∧ w p < Y 0 17) (hn : mnP Y w p (w p)) : rpP Y (p + 1) w := by
  refine ⟨fun k hk => ?_, fun k hk => ?_, fun i j hi hj => ?_⟩
  · by_cases e : k = p
    · rw [e]; exact ⟨hr, hn.1⟩
    · exact h.1 k (by omega)
  · by_cases e : k + 1 = p
    · have := hn.2.1.resolve_left (by omega)
      rw [show p - 1 = k by omega] at this
      rw [e]
      exact this
    · exact h.2.1 k (by omega)
  · by_cases e : j = p
    · rw [e]; exact (hn.2.2 i (by omega)).2
    · exact h.2.2 i j hi (by omega)
theorem mn_of {m p : Nat} {t : Nat → Int32} {a : Int32} (r : rgA Y m t) (hp : p < m) (e : ∀ j, j < p → t j = w j) (ea : t p = a) : mnP Y w p a := by
  subst ea
  refine ⟨(r.1.1 p hp).2, ?_, fun k hk => ?_⟩
  · by_cases c : p = 0
    · exact Or.inl c
    · have := r.1.2.1 (p - 1) (by omega)
      rw [show p - 1 + 1 = p by omega, e 0 (by omega), e (p - 1) (by omega)] at this
      exact Or.inr this
  · have := r.1.2.2.1 k p hk hp
    rw [e k hk] at this
    exact ⟨fun q => this (by rw [q]), this⟩
theorem rp_rg {m : Nat} (h : rpP Y m w) (cl : ¬ Y 47 (30 * w (m - 1) + w 0).toNatClampNeg = 0) : rgS Y m w := ⟨h.1, h.2.1, h.2.2, cl⟩
theorem ok_b5 (hm : okY Y) {m : Nat} (ty : tyP Y m g) : ∀ k, k < m → (0 ≤ Y 20 (g k).toNatClampNeg ∧ Y 20 (g k).toNatClampNeg ≤ 5) ∧ (0 ≤ Y 21 (g k).toNatClampNeg ∧ Y 21 (g k).toNatClampNeg ≤ 199) ∧ Y 21 (g k).toNatClampNeg + Y 10 (g 0).toNatClampNeg ≤ 200 := fun k hk => by
  obtain ⟨⟨a0, a1⟩, pa⟩ := ty.1 k hk
  have e10 := ty.2.2 k hk
  have l1 := hm.1.2.2.1 _ a0 a1
  have l4 := (hm.1.2.1 (g k).toNatClampNeg).2
  obtain ⟨⟨p1, p2, p3⟩, p4⟩ := hm.2.1.2.2.2.1 _ (a_lt30 ⟨a0, Int32.lt_of_lt_of_le a1 hm.1.2.2.2.2.1.2⟩) pa
  rw [e10] at p3 l1 l4
  exact ⟨⟨pa, p4⟩, ⟨p1, by clear hm ty; grind⟩, p3⟩
theorem gs_rq (hg : gs M I0 J1 Y) (h : rqP M J1 J) : gs M I0 J Y := ⟨h.1, fun x j hx => (h.2 x j (by unfold sC; omega) (by omega) (by omega) (by omega)).trans (hg.2.1 x j hx), psE_tr hg.2.2 (psE_of (fun k j p => h.2 _ _ (by unfold sC; unfold ps1 at p; omega) (by unfold ps1 at p; omega) (by unfold ps1 at p; omega) (by unfold ps1 at p; omega)))⟩
theorem mF_rq {c : Nat} (hF : mF M c I0 J1) (h : rqP M J1 J) : mF M c I0 J := mF_Q hF ⟨h.1, fun x j a _ b e f => h.2 x j a b e f⟩
theorem xt_findRing_29 (hS : m_S M K L R) (hm : okY Y) (hg : gs M I0 J Y) {m i : Int32} (hi : 0 ≤ i ∧ i ≤ 4) {mm : Nat} (him : i.toNatClampNeg < mm) (rp : rpP Y i.toNatClampNeg (J (M + 48))) (hN : ∀ a : Int32, 0 ≤ a → a ≤ Y 0 17 → J (M + 48) i.toNatClampNeg < a → blR Y mm i.toNatClampNeg (J (M + 48)) a → (a < Y 0 17 → mnP Y (J (M + 48)) i.toNatClampNeg a) → a_at (d + 11) (a_xm a_m252) 52 [some (a_rf M), some (.int m), some (.int i), some (.int a)] [] (n, t, K, L, J, R) P) : ∀ a : Int32, a ≤ 30 → 0 ≤ a → a ≤ Y 0 17 → J (M + 48) i.toNatClampNeg < a → blR Y mm i.toNatClampNeg (J (M + 48)) a → a_at (d + 11) (a_xm a_m252) 29 [some (a_rf M), some (.int m), some (.int i), some (.int a)] [] (n, t, K, L, J, R) P := by
  have h17 := hm.1.2.2.2.2.1
  refine up_ind 30 (fun a ha ih => ?_)
  intro h0 h1 hlt hbl
  have e17 : J M 17 = Y 0 17 := hg.2.2.1 0 17 (by unfold ps1; omega)
  rw [q252_29]
  by_cases c2 : a < Y 0 17
  · have a30 : a < 30 := Int32.lt_of_lt_of_le c2 h17.2
    have c' : ¬ Y 0 17 ≤ a := Int32.not_le.mpr c2
    obtain ⟨t1, t2, t3, t4⟩ := lp_st h0 c2
    have hcall := xt_mayBeNext (d := d + 9) (n := n) (t := t) (K := K) (L := L) (R := R) hS hm hg (a := a) ⟨h0, c2⟩ ⟨hi.1, Int32.le_trans hi.2 (by decide)⟩ (g := (J (M + 48))) (fun k hk => ⟨rfl, (rp.1 k hk).1⟩) (P := fun r' h' => a_at (d + 11) (a_xm a_m252) 43 [some (a_rf M), some (.int m), some (.int i), some (.int a)] (r'.toList ++ []) h' P) (fun v hv hvv => by
      by_cases c3 : v = 1
      · have hp := hN a h0 h1 hlt hbl (fun _ => hvv.mp c3)
        clear ih hN hbl rp hvv hm hg
        simp only [q252_43, as_nil, as_i, as_r, Nat.reduceAdd, Nat.reduceLeDiff, z_eq0, z_eq1, z_or, z_em, Classical.not_not, not_false_eq_true, not_true_eq_false, true_and, and_true, false_and, and_false, and_self, true_implies, false_implies, implies_true, Option.toList_some, Option.toList_none, List.cons_append, List.nil_append, Nat.add_eq_zero_iff, a_nl_i, a_nl_r, a_nl_n, true_or, or_true, eq_self, ok_4, ok_5, ok_6, ok_7, ok_9, ok_10, ok_20, ok_21, ok_24, ok_30, ok_48, ok_50, ok_60, ok_80, ok_120, ok_180, ok_192, ok_200, ok_900, ok_1000, ok_84000, c3]
        try simp only [true_and, and_true, true_implies, false_implies, implies_true, not_true_eq_false, not_false_eq_true]
        first
          | exact hp
          | grind
      · have v0 := hv.resolve_right c3
        have hp := ih a30 t2 t3 (by clear ih hN hbl rp hvv hm hg; grind) (bl_up a30 hbl (fun t ht et r => c3 (hvv.mpr (mn_of r him ht et))))
        clear ih hN hbl rp hvv hm hg
        simp only [q252_43, q252_46, q252_49, as_nil, as_i, as_r, Nat.reduceAdd, Nat.reduceLeDiff, z_eq0, z_eq1, z_or, z_em, Classical.not_not, not_false_eq_true, not_true_eq_false, true_and, and_true, false_and, and_false, and_self, true_implies, false_implies, implies_true, Option.toList_some, Option.toList_none, List.cons_append, List.nil_append, Nat.add_eq_zero_iff, a_nl_i, a_nl_r, a_nl_n, true_or, or_true, eq_self, ok_4, ok_5, ok_6, ok_7, ok_9, ok_10, ok_20, ok_21, ok_24, ok_30, ok_48, ok_50, ok_60, ok_80, ok_120, ok_180, ok_192, ok_200, ok_900, ok_1000, ok_84000, v0]
        try simp only [true_and, and_true, true_implies, false_implies, implies_true, not_true_eq_false, not_false_eq_true]
        first
          | exact hp
          | grind)
    clear ih hN hbl rp hm hg
    simp only [q252_30, q252_31, q252_34, q252_37, q252_38, q252_39, q252_40, m_0 hS, m_K hS, as_nil, as_i, as_r, Nat.reduceAdd, Nat.reduceLeDiff, z_eq0, z_eq1, z_or, z_em, Classical.not_not, not_false_eq_true, not_true_eq_false, true_and, and_true, false_and, and_false, and_self, true_implies, false_implies, implies_true, Option.toList_some, Option.toList_none, List.cons_append, List.nil_append, Nat.add_eq_zero_iff, a_nl_i, a_nl_r, a_nl_n, true_or, or_true, eq_self, ok_4, ok_5, ok_6, ok_7, ok_9, ok_10, ok_20, ok_21, ok_24, ok_30, ok_48, ok_50, ok_60, ok_80, ok_120, ok_180, ok_192, ok_200, ok_900, ok_1000, ok_84000, e17, c']
    try simp only [true_and, and_true, true_implies, false_implies, implies_true, not_true_eq_false, not_false_eq_true]
    first
      | exact hcall
      | grind
  · have hp := hN a h0 h1 hlt hbl (fun h => absurd h c2)
    have c' : Y 0 17 ≤ a := Int32.not_lt.mp c2
    clear ih hN hbl rp hm hg
    simp only [q252_30, q252_31, q252_34, m_0 hS, m_K hS, as_nil, as_i, as_r, Nat.reduceAdd, Nat.reduceLeDiff, z_eq0, z_eq1, z_or, z_em, Classical.not_not, not_false_eq_true, not_true_eq_false, true_and, and_true, false_and, and_false, and_self, true_implies, false_implies, implies_true, Option.toList_some, Option.toList_none, List.cons_append, List.nil_append, Nat.add_eq_zero_iff, a_nl_i, a_nl_r, a_nl_n, true_or, or_true, eq_self, ok_4, ok_5, ok_6, ok_7, ok_9, ok_10, ok_20, ok_21, ok_24, ok_30, ok_48, ok_50, ok_60, ok_80, ok_120, ok_180, ok_192, ok_200, ok_900, ok_1000, ok_84000, e17, c']
    try simp only [true_and, and_true, true_implies, false_implies, implies_true, not_true_eq_false, not_false_eq_true]
    first
      | exact hp
      | grind
theorem xt_findRing_16 {c : Nat} (hS : m_S M K L R) {I1 : Nat → Nat → Int32} (hm : okY Y) {m : Int32} (hm25 : 2 ≤ m ∧ m ≤ 5) (hno : ∀ z t, 2 ≤ z → z < m.toNatClampNeg → ¬ rgA Y z t) (hN : ∀ J i a, mF M c I1 J → gs M I0 J Y → (∀ t, ¬ rgA Y m.toNatClampNeg t) → a_at (d + 11) (a_xm a_m252) 129 [some (a_rf M), some (.int m), some (.int i), a] [] (n, t, K, L, J, R) P) (hP : ∀ J, mF M c I1 J → gs M I0 J Y → J M 74 = m → rgR Y m.toNatClampNeg (J (M + 48)) → P none (n, t, K, L, J, R)) : ∀ (z : Nat) J i a, mu (Y 0 17) (J (M + 48)) i < z → -1 ≤ i ∧ i < m → mF M c I1 J → gs M I0 J Y → (i < 0 → ∀ t, ¬ rgA Y m.toNatClampNeg t) → (0 ≤ i → (rpP Y i.toNatClampNeg (J (M + 48)) ∧ bkP Y m.toNatClampNeg (J (M + 48)) i.toNatClampNeg ∧ blR Y m.toNatClampNeg i.toNatClampNeg (J (M + 48)) (J (M + 48) i.toNatClampNeg + 1)) ∧ (-1 ≤ J (M + 48) i.toNatClampNeg ∧ J (M + 48) i.toNatClampNeg < Y 0 17)) → a_at (d + 11) (a_xm a_m252) 16 [some (a_rf M), some (.int m), some (.int i), a] [] (n, t, K, L, J, R) P := by
  have h17 := hm.1.2.2.2.2.1
  have mn1 : 1 < m.toNatClampNeg := cl_lt (i := 1) (by decide) (Int32.lt_of_lt_of_le (by decide) hm25.1)
  have mn6 : m.toNatClampNeg < 6 := cl_lt (j := 6) (Int32.le_trans (by decide) hm25.1) (Int32.lt_of_le_of_lt hm25.2 (by decide))
  intro z
  induction z with
  | zero => intro J i a hz; omega
  | succ z ih =>
  intro J i a hz hi hF hg hneg hpos
  rw [q252_16]
  by_cases ci : i < 0
  · have hp := hN J i a hF hg (hneg ci)
    clear ih hN hP hneg hpos hno hm hg hF
    simp only [q252_17, as_nil, as_i, as_r, Nat.reduceAdd, Nat.reduceLeDiff, z_eq0, z_eq1, z_or, z_em, Classical.not_not, not_false_eq_true, not_true_eq_false, true_and, and_true, false_and, and_false, and_self, true_implies, false_implies, implies_true, Option.toList_some, Option.toList_none, List.cons_append, List.nil_append, Nat.add_eq_zero_iff, a_nl_i, a_nl_r, a_nl_n, true_or, or_true, eq_self, ok_4, ok_5, ok_6, ok_7, ok_9, ok_10, ok_20, ok_21, ok_24, ok_30, ok_48, ok_50, ok_60, ok_80, ok_120, ok_180, ok_192, ok_200, ok_900, ok_1000, ok_84000, ci]
    try simp only [true_and, and_true, true_implies, false_implies, implies_true, not_true_eq_false, not_false_eq_true]
    first
      | exact hp
      | grind
  have h0 : 0 ≤ i := Int32.not_lt.mp ci
  obtain ⟨⟨rp, bk, bl⟩, hr⟩ := hpos h0
  have hi4 : i ≤ 4 := by clear ih hN hP hneg hpos hno hm hg hF rp bk bl; grind
  have i6 : 0 ≤ i ∧ i < 6 := ⟨h0, Int32.lt_of_le_of_lt hi4 (by decide)⟩
  have him : i.toNatClampNeg < m.toNatClampNeg := cl_lt h0 hi.2
  have hpA : 0 ≤ Y 0 17 ∧ Y 0 17 ≤ 48 := ⟨h17.1, Int32.le_trans h17.2 (by decide)⟩
  have w0 : 0 ≤ J (M + 48) i.toNatClampNeg + 1 ∧ J (M + 48) i.toNatClampNeg + 1 ≤ Y 0 17 ∧ J (M + 48) i.toNatClampNeg < J (M + 48) i.toNatClampNeg + 1 ∧ J (M + 48) i.toNatClampNeg + 1 ≤ 30 := by clear ih hN hP hneg hpos hno hm hg hF rp bk bl; grind
  have hl := xt_findRing_29 (d := d) (n := n) (t := t) (P := P) (m := m) hS hm hg ⟨h0, hi4⟩ him rp (fun a2 p0 p1 p2 pb p3 => by
    have hF1 : mF M c I1 (a_ui J (M + 48) i.toNatClampNeg a2) := sF_ringAsk hF
    have hg1 : gs M I0 (a_ui J (M + 48) i.toNatClampNeg a2) Y := gs_ui hg (sR_ringAsk hg.1) (by omega) ⟨by unfold ps1; omega, by omega⟩
    have f1 : ∀ k, ¬ k = i.toNatClampNeg → (a_ui J (M + 48) i.toNatClampNeg a2) (M + 48) k = J (M + 48) k := fun k hk => by rw [ui_ap, if_neg (fun e => hk e.2)]
    have f2 : (a_ui J (M + 48) i.toNatClampNeg a2) (M + 48) i.toNatClampNeg = a2 := by rw [ui_ap, if_pos ⟨rfl, rfl⟩]
    have e17 : J M 17 = Y 0 17 := hg.2.2.1 0 17 (by unfold ps1; omega)
    have hsl : (a_ui J (M + 48) i.toNatClampNeg a2) M 17 = Y 0 17 := hg1.2.2.1 0 17 (by unfold ps1; omega)
    have hmain : a_at (d + 11) (a_xm a_m252) 59 [some (a_rf M), some (.int m), some (.int i), some (.int a2)] [] (n, t, K, L, (a_ui J (M + 48) i.toNatClampNeg a2), R) P := by
      revert hF1 hg1 f1 f2 hsl
      generalize a_ui J (M + 48) i.toNatClampNeg a2 = J1
      intro hF1 hg1 f1 f2 hsl
      have rp1 : rpP Y i.toNatClampNeg (J1 (M + 48)) := rp_c (fun j hj => f1 j (by omega)) rp
      have bk1 : bkP Y m.toNatClampNeg (J1 (M + 48)) i.toNatClampNeg := bk_c (fun j hj => f1 j (by omega)) bk
      have bl1 : blR Y m.toNatClampNeg i.toNatClampNeg (J1 (M + 48)) a2 := bl_c (fun j hj => f1 j (by omega)) pb
      by_cases ca : a2 < Y 0 17
      · have hn := p3 ca
        have hn1 : mnP Y (J1 (M + 48)) i.toNatClampNeg (J1 (M + 48) i.toNatClampNeg) := by
          rw [f2]
          refine ⟨hn.1, ?_, fun k hk => by rw [f1 k (by omega)]; exact hn.2.2 k hk⟩
          by_cases e : i.toNatClampNeg = 0
          · exact Or.inl e
          · rw [f1 0 (by omega), f1 _ (by omega)]
            exact Or.inr (hn.2.1.resolve_left e)
        have rp2 : rpP Y (i.toNatClampNeg + 1) (J1 (M + 48)) := rp_up rp1 (by rw [f2]; exact ⟨p0, ca⟩) hn1
        have hstay : mu (Y 0 17) (J1 (M + 48)) i < z := Nat.lt_of_lt_of_le (mu_stay (w := (J (M + 48))) h0 hi4 hpA ⟨hr.1, by rw [f2]; exact p2, by rw [f2]; exact p1⟩ (fun k hk => f1 k (by omega))) (by omega)
        have nea : ¬ a2 = Y 0 17 := fun e => absurd ca (by rw [e]; exact Int32.lt_irrefl)
        obtain ⟨t1, t2, t3, t4⟩ := lp_st h0 hi.2
        have w1b : -1 ≤ J1 (M + 48) i.toNatClampNeg ∧ J1 (M + 48) i.toNatClampNeg < Y 0 17 := by rw [f2]; exact ⟨Int32.le_trans (by decide) p0, ca⟩
        by_cases cm : i + 1 < m
        · have im2 : (i + 1).toNatClampNeg < m.toNatClampNeg := cl_lt t2 cm
          have hF2 : mF M c I1 (a_ui J1 (M + 48) (i + 1).toNatClampNeg (-1)) := sF_ringAsk hF1
          have hg2 : gs M I0 (a_ui J1 (M + 48) (i + 1).toNatClampNeg (-1)) Y := gs_ui hg1 (sR_ringAsk hg1.1) (by omega) ⟨by unfold ps1; omega, by omega⟩
          have k1 : ∀ k, k < (i + 1).toNatClampNeg → (a_ui J1 (M + 48) (i + 1).toNatClampNeg (-1)) (M + 48) k = J1 (M + 48) k := fun k hk => by rw [ui_ap, if_neg (by omega)]
          have k2 : (a_ui J1 (M + 48) (i + 1).toNatClampNeg (-1)) (M + 48) (i + 1).toNatClampNeg = -1 := by rw [ui_ap, if_pos ⟨rfl, rfl⟩]
          have hp := ih (a_ui J1 (M + 48) (i + 1).toNatClampNeg (-1)) (i + 1) (some (.int a2)) (Nat.lt_of_lt_of_le (mu_on (w := (J (M + 48))) h0 (by clear ih hN hP hneg hpos hno hm hg hF rp bk bl rp1 bk1 bl1 rp2 hn hn1 p3 pb; grind) hpA ⟨hr.1, by rw [k1 _ (by omega), f2]; exact p2, by rw [k1 _ (by omega), f2]; exact p1⟩ (fun k hk => by rw [k1 k (by omega)]; exact f1 k (by omega)) k2) (by omega)) ⟨Int32.le_trans (by decide) t2, cm⟩ hF2 hg2 (fun q => absurd t2 (Int32.not_le.mpr q)) (fun _ => ⟨⟨rp_c k1 (by rw [t4]; exact rp2), bk_c k1 (by
            rw [t4]
            intro k hk
            by_cases e : k = i.toNatClampNeg
            · rw [e, f2]; exact bl1
            · exact bk1 k (by omega)), by rw [k2]; exact bl_0 im2⟩, by rw [k2]; exact ⟨by decide, by clear ih hN hP hneg hpos hno hm hg hF rp bk bl rp1 bk1 bl1 rp2 hn hn1 p3 pb; grind⟩⟩)
          have c' : ¬ m ≤ i + 1 := Int32.not_le.mpr cm
          have i16 : 0 ≤ i + 1 ∧ i + 1 < 6 := ⟨t2, Int32.lt_of_lt_of_le cm (Int32.le_trans hm25.2 (by decide))⟩
          clear ih hN hP hneg hpos hno hm hg hF rp bk bl rp1 bk1 bl1 rp2 hn hn1 p3 pb
          simp only [q252_59, q252_60, q252_61, q252_64, q252_67, q252_70, q252_73, q252_74, q252_75, q252_76, q252_77, q252_80, q252_83, q252_84, q252_87, q252_88, q252_89, q252_90, q252_126, m_0 hS, m_K hS, mR_ringAsk hS, mK_ringAsk hS, mL_ringAsk hS, as_nil, as_i, as_r, Nat.reduceAdd, Nat.reduceLeDiff, z_eq0, z_eq1, z_or, z_em, Classical.not_not, not_false_eq_true, not_true_eq_false, true_and, and_true, false_and, and_false, and_self, true_implies, false_implies, implies_true, Option.toList_some, Option.toList_none, List.cons_append, List.nil_append, Nat.add_eq_zero_iff, a_nl_i, a_nl_r, a_nl_n, true_or, or_true, eq_self, ok_4, ok_5, ok_6, ok_7, ok_9, ok_10, ok_20, ok_21, ok_24, ok_30, ok_48, ok_50, ok_60, ok_80, ok_120, ok_180, ok_192, ok_200, ok_900, ok_1000, ok_84000, hsl, nea, c', cm, i16]
          try simp only [true_and, and_true, true_implies, false_implies, implies_true, not_true_eq_false, not_false_eq_true]
          first
            | exact hp
            | (repeat refine And.intro (by grind) ?_
               exact hp)
            | grind
        · have e1 : i + 1 = m := by clear ih hN hP hneg hpos hno hm hg hF rp bk bl rp1 bk1 bl1 rp2 hn hn1 p3 pb; grind
          have em : m.toNatClampNeg = i.toNatClampNeg + 1 := by rw [← e1]; exact t4
          rw [← em] at rp2
          have em1 : m.toNatClampNeg - 1 = i.toNatClampNeg := by omega
          have hstep : (¬ rgA Y m.toNatClampNeg (J1 (M + 48))) → ∀ J2, rqP M J1 J2 ∨ J2 = J1 → a_at (d + 11) (a_xm a_m252) 126 [some (a_rf M), some (.int m), some (.int i), some (.int a2)] [] (n, t, K, L, J2, R) P := fun hnr J2 hJ2 => by
            have eW : (J2 (M + 48)) = (J1 (M + 48)) := by
              rcases hJ2 with h | h
              · funext j
                exact h.2 _ _ (by unfold sC; omega) (by omega) (by omega) (by omega)
              · rw [h]
            have hF2 : mF M c I1 J2 := by
              rcases hJ2 with h | h
              · exact mF_rq hF1 h
              · rw [h]; exact hF1
            have hg2 : gs M I0 J2 Y := by
              rcases hJ2 with h | h
              · exact gs_rq hg1 h
              · rw [h]; exact hg1
            have hp := ih J2 i (some (.int a2)) (by rw [eW]; exact hstay) hi hF2 hg2 (fun q => absurd q ci) (fun _ => by
              rw [eW]
              refine ⟨⟨rp1, bk1, ?_⟩, w1b⟩
              rw [f2]
              refine bl_up (Int32.lt_of_lt_of_le ca h17.2) bl1 (fun t ht et r => hnr (rgA_c (by omega) (fun j hj => ?_) r))
              by_cases e : j = i.toNatClampNeg
              · rw [e, et, f2]
              · exact ht j (by omega))
            clear ih hN hP hneg hpos hno hm hg hF rp bk bl rp1 bk1 bl1 rp2 hn hn1 p3 pb hnr
            simp only [q252_126, as_nil, as_i, as_r, Nat.reduceAdd, Nat.reduceLeDiff, z_eq0, z_eq1, z_or, z_em, Classical.not_not, not_false_eq_true, not_true_eq_false, true_and, and_true, false_and, and_false, and_self, true_implies, false_implies, implies_true, Option.toList_some, Option.toList_none, List.cons_append, List.nil_append, Nat.add_eq_zero_iff, a_nl_i, a_nl_r, a_nl_n, true_or, or_true, eq_self, ok_4, ok_5, ok_6, ok_7, ok_9, ok_10, ok_20, ok_21, ok_24, ok_30, ok_48, ok_50, ok_60, ok_80, ok_120, ok_180, ok_192, ok_200, ok_900, ok_1000, ok_84000]
            exact hp
          have g0 := (rp2.1 0 (by omega)).1
          have ga := (rp2.1 i.toNatClampNeg (by omega)).1
          have g030 : 0 ≤ J1 (M + 48) 0 ∧ J1 (M + 48) 0 < 30 := ⟨g0.1, Int32.lt_of_lt_of_le g0.2 h17.2⟩
          have a230 : 0 ≤ a2 ∧ a2 < 30 := ⟨p0, Int32.lt_of_lt_of_le ca h17.2⟩
          obtain ⟨-, x2, -⟩ := ix_900 a230 g030
          have e47 : J1 (M + 47) (30 * a2 + J1 (M + 48) 0).toNatClampNeg = Y 47 (30 * a2 + J1 (M + 48) 0).toNatClampNeg := hg1.2.2.1 47 _ (by unfold ps1; omega)
          have z0 : (0 : Int32).toNatClampNeg = 0 := rfl
          have c' : m ≤ i + 1 := by rw [e1]; exact Int32.le_refl _
          have c'' : ¬ i + 1 < m := cm
          by_cases cw : Y 47 (30 * a2 + J1 (M + 48) 0).toNatClampNeg = 0
          · have hp := hstep (fun r => by
              have := r.1.2.2.2
              rw [em1, f2] at this
              exact this cw) J1 (Or.inr rfl)
            clear ih hN hP hneg hpos hno hm hg hF rp bk bl rp1 bk1 bl1 rp2 hn hn1 p3 pb hstep
            simp only [q252_59, q252_60, q252_61, q252_64, q252_67, q252_70, q252_73, q252_74, q252_75, q252_76, q252_77, q252_93, q252_94, q252_97, q252_99, q252_100, q252_101, q252_102, q252_105, q252_106, q252_107, q252_108, q252_109, m_0 hS, m_K hS, mR_isWish hS, mK_isWish hS, mL_isWish hS, mR_ringAsk hS, mK_ringAsk hS, mL_ringAsk hS, as_nil, as_i, as_r, Nat.reduceAdd, Nat.reduceLeDiff, z_eq0, z_eq1, z_or, z_em, Classical.not_not, not_false_eq_true, not_true_eq_false, true_and, and_true, false_and, and_false, and_self, true_implies, false_implies, implies_true, Option.toList_some, Option.toList_none, List.cons_append, List.nil_append, Nat.add_eq_zero_iff, a_nl_i, a_nl_r, a_nl_n, true_or, or_true, eq_self, ok_4, ok_5, ok_6, ok_7, ok_9, ok_10, ok_20, ok_21, ok_24, ok_30, ok_48, ok_50, ok_60, ok_80, ok_120, ok_180, ok_192, ok_200, ok_900, ok_1000, ok_84000, hsl, nea, c', c'', z0, e47, cw, x2]
            try simp only [true_and, and_true, true_implies, false_implies, implies_true, not_true_eq_false, not_false_eq_true]
            first
              | exact hp
              | (repeat refine And.intro (by grind) ?_
                 exact hp)
              | grind
          · have rs := rp_rg rp2 (by rw [em1, f2]; exact cw)
            have ty : tyP Y m.toNatClampNeg (J1 (M + 48)) := by
              refine ⟨fun k hk => ⟨(rs.1 k hk).1, (rs.1 k hk).2.1⟩, fun k j hk hj e => ?_, fun k hk => ?_⟩
              · rcases Nat.lt_trichotomy k j with q | q | q
                · exact absurd (by rw [e]) (rs.2.2.1 k j q hj)
                · exact q
                · exact absurd (by rw [e]) (rs.2.2.1 j k q hk)
              · by_cases e : k = 0
                · rw [e]
                · have := (rs.2.1 (k - 1) (by omega)).2.2
                  rw [show k - 1 + 1 = k by omega] at this
                  exact this
            have hcall := xt_ringFits (d := d) (n := n) (t := t) hS hm hg1 (z := m) rfl hm25 ty (fun k hk => rfl) (ok_b5 hm ty) (P := fun r' h' => a_at (d + 11) (a_xm a_m252) 117 [some (a_rf M), some (.int m), some (.int i), some (.int a2)] (r'.toList ++ []) h' P) (fun v J3 hv hvv hq => by
              have eW : (J3 (M + 48)) = (J1 (M + 48)) := by
                funext j
                exact hq.2 _ _ (by unfold sC; omega) (by omega) (by omega) (by omega)
              by_cases cv : v = 1
              · have hp := hP (a_ui J3 M 74 m) (sF_ringMany (mF_rq hF1 hq)) (gs_u0 (gs_rq hg1 hq) (sR_ringMany (gs_rq hg1 hq).1) (by unfold ps1; omega)) (by rw [ui_ap, if_pos ⟨rfl, rfl⟩]) (by
                  have eW3 : (a_ui J3 M 74 m) (M + 48) = (J1 (M + 48)) := by
                    funext j
                    rw [ui_ap, if_neg (by omega), eW]
                  rw [eW3]
                  refine Or.inr ⟨⟨by omega, by omega⟩, ⟨rs, hvv.mp cv⟩, hno, fun t ⟨k, q1, q2, q3⟩ => ?_⟩
                  by_cases e : k = i.toNatClampNeg
                  · rw [e, f2] at q3
                    rw [e] at q2
                    exact bl1 t q2 q3
                  · exact bk1 k (by omega) t q2 q3)
                clear ih hN hP hneg hpos hno hm hg hF rp bk bl rp1 bk1 bl1 rp2 hn hn1 p3 pb hstep hvv
                simp only [q252_117, q252_120, q252_121, q252_122, q252_125, m_0 hS, m_K hS, as_nil, as_i, as_r, Nat.reduceAdd, Nat.reduceLeDiff, z_eq0, z_eq1, z_or, z_em, Classical.not_not, not_false_eq_true, not_true_eq_false, true_and, and_true, false_and, and_false, and_self, true_implies, false_implies, implies_true, Option.toList_some, Option.toList_none, List.cons_append, List.nil_append, Nat.add_eq_zero_iff, a_nl_i, a_nl_r, a_nl_n, true_or, or_true, eq_self, ok_4, ok_5, ok_6, ok_7, ok_9, ok_10, ok_20, ok_21, ok_24, ok_30, ok_48, ok_50, ok_60, ok_80, ok_120, ok_180, ok_192, ok_200, ok_900, ok_1000, ok_84000, cv]
                try simp only [true_and, and_true, true_implies, false_implies, implies_true, not_true_eq_false, not_false_eq_true]
                first
                  | exact hp
                  | grind
              · have v0 := hv.resolve_right cv
                have hp := hstep (fun r => cv (hvv.mpr r.2)) J3 (Or.inl hq)
                clear ih hN hP hneg hpos hno hm hg hF rp bk bl rp1 bk1 bl1 rp2 hn hn1 p3 pb hstep hvv
                simp only [q252_117, as_nil, as_i, as_r, Nat.reduceAdd, Nat.reduceLeDiff, z_eq0, z_eq1, z_or, z_em, Classical.not_not, not_false_eq_true, not_true_eq_false, true_and, and_true, false_and, and_false, and_self, true_implies, false_implies, implies_true, Option.toList_some, Option.toList_none, List.cons_append, List.nil_append, Nat.add_eq_zero_iff, a_nl_i, a_nl_r, a_nl_n, true_or, or_true, eq_self, ok_4, ok_5, ok_6, ok_7, ok_9, ok_10, ok_20, ok_21, ok_24, ok_30, ok_48, ok_50, ok_60, ok_80, ok_120, ok_180, ok_192, ok_200, ok_900, ok_1000, ok_84000, v0]
                try simp only [true_and, and_true, true_implies, false_implies, implies_true, not_true_eq_false, not_false_eq_true]
                first
                  | exact hp
                  | grind)
            clear ih hN hP hneg hpos hno hm hg hF rp bk bl rp1 bk1 bl1 rp2 hn hn1 p3 pb hstep
            simp only [q252_59, q252_60, q252_61, q252_64, q252_67, q252_70, q252_73, q252_74, q252_75, q252_76, q252_77, q252_93, q252_94, q252_97, q252_99, q252_100, q252_101, q252_102, q252_105, q252_106, q252_107, q252_108, q252_109, q252_112, q252_113, q252_114, m_0 hS, m_K hS, mR_isWish hS, mK_isWish hS, mL_isWish hS, mR_ringAsk hS, mK_ringAsk hS, mL_ringAsk hS, as_nil, as_i, as_r, Nat.reduceAdd, Nat.reduceLeDiff, z_eq0, z_eq1, z_or, z_em, Classical.not_not, not_false_eq_true, not_true_eq_false, true_and, and_true, false_and, and_false, and_self, true_implies, false_implies, implies_true, Option.toList_some, Option.toList_none, List.cons_append, List.nil_append, Nat.add_eq_zero_iff, a_nl_i, a_nl_r, a_nl_n, true_or, or_true, eq_self, ok_4, ok_5, ok_6, ok_7, ok_9, ok_10, ok_20, ok_21, ok_24, ok_30, ok_48, ok_50, ok_60, ok_80, ok_120, ok_180, ok_192, ok_200, ok_900, ok_1000, ok_84000, hsl, nea, c', c'', z0, e47, cw, x2]
            try simp only [true_and, and_true, true_implies, false_implies, implies_true, not_true_eq_false, not_false_eq_true]
            first
              | exact hcall
              | (repeat refine And.intro (by grind) ?_
                 exact hcall)
              | grind
      · have ea : a2 = Y 0 17 := by clear ih hN hP hneg hpos hno hm hg hF rp bk bl rp1 bk1 bl1 p3 pb; grind
        have nr : noR Y m.toNatClampNeg i.toNatClampNeg (J1 (M + 48)) := bl_no him bl1 (by rw [ea]; exact Int32.le_refl _)
        have hb := mu_back (w := (J (M + 48))) (w' := (J1 (M + 48))) h0 hi4 hpA ⟨hr.1, Int32.le_of_lt hr.2⟩ (fun k hk => f1 k (by omega))
        have hp := ih J1 (i + (-1)) (some (.int a2)) (Nat.lt_of_lt_of_le hb (by omega)) ⟨by clear ih hN hP hneg hpos hno hm hg hF rp bk bl rp1 bk1 bl1 p3 pb nr; grind, by clear ih hN hP hneg hpos hno hm hg hF rp bk bl rp1 bk1 bl1 p3 pb nr; grind⟩ hF1 hg1 (fun q => by
          have e0 : i = 0 := by clear ih hN hP hneg hpos hno hm hg hF rp bk bl rp1 bk1 bl1 p3 pb nr; grind
          intro t
          rw [e0] at nr
          exact nr t (fun j hj => absurd hj (Nat.not_lt_zero j))) (fun q => by
          have q1 : i + (-1) < i := by clear ih hN hP hneg hpos hno hm hg hF rp bk bl rp1 bk1 bl1 p3 pb nr; grind
          have e1 := (lp_st q q1).2.2.2
          rw [show i + (-1) + 1 = i by clear ih hN hP hneg hpos hno hm hg hF rp bk bl rp1 bk1 bl1 p3 pb nr; grind] at e1
          have r1 := rp1.1 (i + (-1)).toNatClampNeg (by omega)
          refine ⟨⟨⟨fun k hk => rp1.1 k (by omega), fun k hk => rp1.2.1 k (by omega), fun x y hx hy => rp1.2.2 x y hx (by omega)⟩, fun k hk => bk1 k (by omega), bl_up (Int32.lt_of_lt_of_le r1.1.2 h17.2) (bk1 _ (by omega)) (fun t ht et => nr t (fun j hj => ?_))⟩, ⟨Int32.le_trans (by decide) r1.1.1, r1.1.2⟩⟩
          by_cases e : j = (i + (-1)).toNatClampNeg
          · rw [e]; exact et
          · exact ht j (by omega))
        clear ih hN hP hneg hpos hno hm hg hF rp bk bl rp1 bk1 bl1 p3 pb nr
        simp only [q252_59, q252_60, q252_61, q252_64, q252_67, q252_70, q252_126, m_0 hS, m_K hS, as_nil, as_i, as_r, Nat.reduceAdd, Nat.reduceLeDiff, z_eq0, z_eq1, z_or, z_em, Classical.not_not, not_false_eq_true, not_true_eq_false, true_and, and_true, false_and, and_false, and_self, true_implies, false_implies, implies_true, Option.toList_some, Option.toList_none, List.cons_append, List.nil_append, Nat.add_eq_zero_iff, a_nl_i, a_nl_r, a_nl_n, true_or, or_true, eq_self, ok_4, ok_5, ok_6, ok_7, ok_9, ok_10, ok_20, ok_21, ok_24, ok_30, ok_48, ok_50, ok_60, ok_80, ok_120, ok_180, ok_192, ok_200, ok_900, ok_1000, ok_84000, hsl, ea]
        try simp only [true_and, and_true, true_implies, false_implies, implies_true, not_true_eq_false, not_false_eq_true]
        rw [ea] at hp
        first
          | exact hp
          | grind
    clear ih hN hP hneg hpos hno hm hg hF rp bk bl p3 pb
    simp only [q252_52, q252_53, q252_56, q252_57, q252_58, m_0 hS, m_K hS, mR_ringAsk hS, mK_ringAsk hS, mL_ringAsk hS, as_nil, as_i, as_r, Nat.reduceAdd, Nat.reduceLeDiff, z_eq0, z_eq1, z_or, z_em, Classical.not_not, not_false_eq_true, not_true_eq_false, true_and, and_true, false_and, and_false, and_self, true_implies, false_implies, implies_true, Option.toList_some, Option.toList_none, List.cons_append, List.nil_append, Nat.add_eq_zero_iff, a_nl_i, a_nl_r, a_nl_n, true_or, or_true, eq_self, ok_4, ok_5, ok_6, ok_7, ok_9, ok_10, ok_20, ok_21, ok_24, ok_30, ok_48, ok_50, ok_60, ok_80, ok_120, ok_180, ok_192, ok_200, ok_900, ok_1000, ok_84000, ui_ap, ne_MM, ne_M0, ne_0M, Nat.reduceEqDiff, reduceIte, if_true, if_false, i6]
    try simp only [true_and, and_true, true_implies, false_implies, implies_true, not_true_eq_false, not_false_eq_true]
    first
      | exact hmain
      | exact ⟨i6, hmain⟩
      | grind) (J (M + 48) i.toNatClampNeg + 1) w0.2.2.2 w0.1 w0.2.1 w0.2.2.1 bl
  clear ih hN hP hneg hpos hno hm hg hF rp bk bl
  simp only [q252_17, q252_20, q252_21, q252_24, q252_25, q252_26, q252_27, q252_28, m_0 hS, m_K hS, mR_ringAsk hS, mK_ringAsk hS, mL_ringAsk hS, as_nil, as_i, as_r, Nat.reduceAdd, Nat.reduceLeDiff, z_eq0, z_eq1, z_or, z_em, Classical.not_not, not_false_eq_true, not_true_eq_false, true_and, and_true, false_and, and_false, and_self, true_implies, false_implies, implies_true, Option.toList_some, Option.toList_none, List.cons_append, List.nil_append, Nat.add_eq_zero_iff, a_nl_i, a_nl_r, a_nl_n, true_or, or_true, eq_self, ok_4, ok_5, ok_6, ok_7, ok_9, ok_10, ok_20, ok_21, ok_24, ok_30, ok_48, ok_50, ok_60, ok_80, ok_120, ok_180, ok_192, ok_200, ok_900, ok_1000, ok_84000, ci, i6]
  try simp only [true_and, and_true, true_implies, false_implies, implies_true, not_true_eq_false, not_false_eq_true]
  first
    | exact hl
    | exact ⟨i6, hl⟩
    | grind
end ZGG
end
section
/-! the reference: ring, swap -/
section ZHH
variable {d n t M : Nat} {K L : Nat → Nat} {I I0 J J0 J1 J2 : Nat → Nat → Int32} {R : Nat → Nat → Nat} {P : Option Value → AH → Prop} {f : Nat → Int32} {e : Int32}
variable {Y Z W : Nat → Nat → Int32} {m c : Nat} {g w v : Nat → Int32}
theorem xt_findRing_2 (hS : m_S M K L R) {I1 : Nat → Nat → Int32} (hm : okY Y) (hP : ∀ J, mF M c I1 J → gs M I0 J Y → (J M 74 = 0 ∨ (2 ≤ J M 74 ∧ J M 74 ≤ 5)) → rgR Y (J M 74).toNatClampNeg (J (M + 48)) → P none (n, t, K, L, J, R)) : ∀ m : Int32, m ≤ 6 → ∀ J i a, 2 ≤ m → mF M c I1 J → gs M I0 J Y → (∀ z t, 2 ≤ z → z < m.toNatClampNeg → ¬ rgA Y z t) → a_at (d + 11) (a_xm a_m252) 2 [some (a_rf M), some (.int m), i, a] [] (n, t, K, L, J, R) P := by
  have h17 := hm.1.2.2.2.2.1
  refine up_ind 6 (fun m hm6 ih => ?_)
  intro J i a hm2 hF hg hno
  rw [q252_2]
  by_cases c5 : 5 < m
  · have em : m = 6 := by clear ih hP hno hm hF hg; grind
    have hp := hP (a_ui J M 74 0) (sF_ringMany hF) (gs_u0 hg (sR_ringMany hg.1) (by unfold ps1; omega)) (by rw [ui_ap, if_pos ⟨rfl, rfl⟩]; exact Or.inl rfl) (by
      rw [ui_ap, if_pos ⟨rfl, rfl⟩]
      exact Or.inl ⟨rfl, fun z t z1 z2 => hno z t z1 (by rw [em]; show z < 6; omega)⟩)
    clear ih hP hno hm hF hg
    simp only [q252_3, q252_4, q252_135, q252_136, q252_137, q252_140, m_0 hS, m_K hS, as_nil, as_i, as_r, Nat.reduceAdd, Nat.reduceLeDiff, z_eq0, z_eq1, z_or, z_em, Classical.not_not, not_false_eq_true, not_true_eq_false, true_and, and_true, false_and, and_false, and_self, true_implies, false_implies, implies_true, Option.toList_some, Option.toList_none, List.cons_append, List.nil_append, Nat.add_eq_zero_iff, a_nl_i, a_nl_r, a_nl_n, true_or, or_true, eq_self, ok_4, ok_5, ok_6, ok_7, ok_9, ok_10, ok_20, ok_21, ok_24, ok_30, ok_48, ok_50, ok_60, ok_80, ok_120, ok_180, ok_192, ok_200, ok_900, ok_1000, ok_84000, c5]
    try simp only [true_and, and_true, true_implies, false_implies, implies_true, not_true_eq_false, not_false_eq_true]
    first
      | exact hp
      | grind
  · have hm25 : 2 ≤ m ∧ m ≤ 5 := ⟨hm2, Int32.not_lt.mp c5⟩
    have m6 : m < 6 := Int32.lt_of_le_of_lt hm25.2 (by decide)
    obtain ⟨-, t2, t3, t4⟩ := lp_st (Int32.le_trans (by decide) hm2) m6
    have mn1 : 1 < m.toNatClampNeg := cl_lt (i := 1) (by decide) (Int32.lt_of_lt_of_le (by decide) hm2)
    have hF1 : mF M c I1 (a_ui J (M + 48) 0 (-1)) := sF_ringAsk hF
    have hg1 : gs M I0 (a_ui J (M + 48) 0 (-1)) Y := gs_ui hg (sR_ringAsk hg.1) (by omega) ⟨by unfold ps1; omega, by omega⟩
    have e1 : (a_ui J (M + 48) 0 (-1)) (M + 48) (0 : Int32).toNatClampNeg = -1 := by rw [ui_ap, if_pos ⟨rfl, rfl⟩]
    have hl := xt_findRing_16 (d := d) (n := n) (t := t) (P := P) hS hm hm25 hno (fun J2 i2 a2 hF2 hg2 hall => by
      have hg := ih m6 J2 (some (.int i2)) a2 (by clear ih hP hno hm hF hg hF1 hg1; grind) hF2 hg2 (fun z t z1 z2 => by
        rw [t4] at z2
        by_cases e : z = m.toNatClampNeg
        · rw [e]; exact hall t
        · exact hno z t z1 (by omega))
      clear ih hP hno hm hF hF1 hg1
      simp only [q252_129, q252_132, as_nil, as_i, as_r, Nat.reduceAdd, Nat.reduceLeDiff, z_eq0, z_eq1, z_or, z_em, Classical.not_not, not_false_eq_true, not_true_eq_false, true_and, and_true, false_and, and_false, and_self, true_implies, false_implies, implies_true, Option.toList_some, Option.toList_none, List.cons_append, List.nil_append, Nat.add_eq_zero_iff, a_nl_i, a_nl_r, a_nl_n, true_or, or_true, eq_self, ok_4, ok_5, ok_6, ok_7, ok_9, ok_10, ok_20, ok_21, ok_24, ok_30, ok_48, ok_50, ok_60, ok_80, ok_120, ok_180, ok_192, ok_200, ok_900, ok_1000, ok_84000]
      exact hg) (fun J2 hF2 hg2 e2 hr => hP J2 hF2 hg2 (by rw [e2]; exact Or.inr hm25) (by rw [e2]; exact hr)) _ (a_ui J (M + 48) 0 (-1)) 0 a (Nat.lt_succ_self _) ⟨by decide, by clear ih hP hno hm hF hg hF1 hg1; grind⟩ hF1 hg1 (fun q => absurd q (by decide)) (fun _ => ⟨⟨⟨fun k hk => absurd hk (Nat.not_lt_zero k), fun k hk => absurd hk (Nat.not_lt_zero _), fun x y _ hy => absurd hy (Nat.not_lt_zero y)⟩, fun k hk => absurd hk (Nat.not_lt_zero k), by rw [e1]; exact bl_0 (by show 0 < _; omega)⟩, by rw [e1]; exact ⟨by decide, Int32.lt_of_lt_of_le (by decide) h17.1⟩⟩)
    clear ih hP hno hm hF hg hF1 hg1
    simp only [q252_3, q252_4, q252_7, q252_8, q252_9, q252_10, q252_13, q252_14, q252_15, m_0 hS, m_K hS, mR_ringAsk hS, mK_ringAsk hS, mL_ringAsk hS, as_nil, as_i, as_r, Nat.reduceAdd, Nat.reduceLeDiff, z_eq0, z_eq1, z_or, z_em, Classical.not_not, not_false_eq_true, not_true_eq_false, true_and, and_true, false_and, and_false, and_self, true_implies, false_implies, implies_true, Option.toList_some, Option.toList_none, List.cons_append, List.nil_append, Nat.add_eq_zero_iff, a_nl_i, a_nl_r, a_nl_n, true_or, or_true, eq_self, ok_4, ok_5, ok_6, ok_7, ok_9, ok_10, ok_20, ok_21, ok_24, ok_30, ok_48, ok_50, ok_60, ok_80, ok_120, ok_180, ok_192, ok_200, ok_900, ok_1000, ok_84000, c5]
    try simp only [true_and, and_true, true_implies, false_implies, implies_true, not_true_eq_false, not_false_eq_true]
    first
      | exact hl
      | grind
theorem xt_findRing (hS : m_S M K L R) {I1 : Nat → Nat → Int32} (hm : okY Y) (hF : mF M c I1 I) (hg : gs M I0 I Y) (hP : ∀ J, mF M c I1 J → gs M I0 J Y → (J M 74 = 0 ∨ (2 ≤ J M 74 ∧ J M 74 ≤ 5)) → rgR Y (J M 74).toNatClampNeg (J (M + 48)) → P none (n, t, K, L, J, R)) : a_does (d + 12) 252 [a_rf M] (n, t, K, L, I, R) P := by
  have hl := xt_findRing_2 (d := d) (n := n) (t := t) (P := P) hS hm hP 2 (by decide) I none none (by decide) hF hg (fun z t z1 z2 => by
    have z2 : z < 2 := z2
    omega)
  clear hP
  rw [a_enter1 (M := a_m252) rfl (a_cat_rf a_cat_nil) (show 1 ≤ 4 by decide)]
  show a_at _ (a_xm a_m252) 0 [some (a_rf M), none, none, none] [] _ _
  simp only [q252_0, q252_1, as_nil, as_i, as_r, Nat.reduceAdd, Nat.reduceLeDiff, z_eq0, z_eq1, z_or, z_em, Classical.not_not, not_false_eq_true, not_true_eq_false, true_and, and_true, false_and, and_false, and_self, true_implies, false_implies, implies_true, Option.toList_some, Option.toList_none, List.cons_append, List.nil_append, Nat.add_eq_zero_iff, a_nl_i, a_nl_r, a_nl_n, true_or, or_true, eq_self, ok_4, ok_5, ok_6, ok_7, ok_9, ok_10, ok_20, ok_21, ok_24, ok_30, ok_48, ok_50, ok_60, ok_80, ok_120, ok_180, ok_192, ok_200, ok_900, ok_1000, ok_84000]
  exact hl
theorem xp_ring (hS : m_S M K L R) {I1 : Nat → Nat → Int32} (hm : okY Y) {c : Nat} (hc : c + 130 ≤ 84000) (hF : mF M c I1 I) (hg : gs M I0 I Y) {w v : Int32} (ho : rgO Y w v) (hP : ∀ J, mF M (c + 120) I1 J → gs M I0 J Y → P (some (.int v)) (n, t, K, L, J, R)) : a_does (d + 16) 251 [a_rf M, .int w] (n, t, K, L, I, R) P := by
  have hrf : ∀ k : Nat, mF M (c + 120) I1 (a_ui I (M + 23) k (I (M + 23) k + 1)) ∧ gs M I0 (a_ui I (M + 23) k (I (M + 23) k + 1)) Y := fun k => ⟨mF_le (sF_refused hF) (by omega), gs_ui hg (sR_refused hg.1) (by omega) ⟨by unfold ps1; omega, by omega⟩⟩
  by_cases c1 : w < -1
  · have ev : v = -2 := rgO_u ho (Or.inl ⟨c1, rfl⟩)
    rw [ev] at hP
    have hp := fun k => hP _ (hrf k).1 (hrf k).2
    clear hP ho hm hF hg hrf
    rw [a_enter1 (M := a_m251) rfl (a_cat_rf (a_cat_int a_cat_nil)) (show 2 ≤ 2 by decide)]
    show a_at _ (a_xm a_m251) 0 [some (a_rf M), some (.int w)] [] _ _
    simp only [q251_0, q251_1, q251_2, q251_5, q251_6, q251_8, q251_11, m_0 hS, m_K hS, sp_refuse_1 hS, sp_refuse_2 hS, sp_refuse_3 hS, sp_refuse_4 hS, sp_refuse_5 hS, sp_refuse_6 hS, as_nil, as_i, as_r, Nat.reduceAdd, Nat.reduceLeDiff, z_eq0, z_eq1, z_or, z_em, Classical.not_not, not_false_eq_true, not_true_eq_false, true_and, and_true, false_and, and_false, and_self, true_implies, false_implies, implies_true, Option.toList_some, Option.toList_none, List.cons_append, List.nil_append, Nat.add_eq_zero_iff, a_nl_i, a_nl_r, a_nl_n, true_or, or_true, eq_self, ok_4, ok_5, ok_6, ok_7, ok_9, ok_10, ok_20, ok_21, ok_24, ok_30, ok_48, ok_50, ok_60, ok_80, ok_120, ok_180, ok_192, ok_200, ok_900, ok_1000, ok_84000, c1]
    try simp only [true_and, and_true, true_implies, false_implies, implies_true, not_true_eq_false, not_false_eq_true]
    first
      | exact hp _
      | grind
  · have hl := xt_findRing (d := d + 3) (n := n) (t := t) (c := c) (K := K) (L := L) (R := R) hS hm hF hg (P := fun r' h' => a_at (d + 15) (a_xm a_m251) 16 [some (a_rf M), some (.int w)] (r'.toList ++ []) h' P) (fun J hF2 hg2 hv hr => by
      have v05 : 0 ≤ J M 74 ∧ J M 74 ≤ 5 := by clear hP ho hm hF hg hrf hF2 hg2 hr; grind
      have eo : J M 74 = Int32.ofNat (J M 74).toNatClampNeg := on_cl v05.1
      have ev : v = rgV (J M 74).toNatClampNeg (J (M + 48)) w := rgO_u ho (Or.inr ⟨c1, _, _, hr, rfl⟩)
      unfold rgV at ev
      rw [← eo] at ev
      have hp := hP J (mF_le hF2 (by omega)) hg2
      by_cases c2 : w = -1
      · rw [if_pos c2] at ev
        rw [ev] at hp
        clear hP ho hm hF hg hrf hF2 hg2 hr
        simp only [q251_16, q251_17, q251_18, q251_21, q251_22, q251_25, q251_47, m_0 hS, m_K hS, as_nil, as_i, as_r, Nat.reduceAdd, Nat.reduceLeDiff, z_eq0, z_eq1, z_or, z_em, Classical.not_not, not_false_eq_true, not_true_eq_false, true_and, and_true, false_and, and_false, and_self, true_implies, false_implies, implies_true, Option.toList_some, Option.toList_none, List.cons_append, List.nil_append, Nat.add_eq_zero_iff, a_nl_i, a_nl_r, a_nl_n, true_or, or_true, eq_self, ok_4, ok_5, ok_6, ok_7, ok_9, ok_10, ok_20, ok_21, ok_24, ok_30, ok_48, ok_50, ok_60, ok_80, ok_120, ok_180, ok_192, ok_200, ok_900, ok_1000, ok_84000, c2]
        try simp only [true_and, and_true, true_implies, false_implies, implies_true, not_true_eq_false, not_false_eq_true]
        first
          | exact hp
          | grind
      · rw [if_neg c2] at ev
        have w0 : 0 ≤ w := by clear hP ho hm hF hg hrf hF2 hg2 hr hp ev; grind
        by_cases c3 : w < J M 74
        · rw [if_pos c3] at ev
          rw [ev] at hp
          have w6 : 0 ≤ w ∧ w < 6 := ⟨w0, Int32.lt_of_lt_of_le c3 (Int32.le_trans v05.2 (by decide))⟩
          have c' : ¬ J M 74 ≤ w := Int32.not_le.mpr c3
          clear hP ho hm hF hg hrf hF2 hg2 hr
          simp only [q251_16, q251_17, q251_18, q251_28, q251_29, q251_30, q251_33, q251_36, q251_37, q251_40, q251_41, q251_42, q251_47, m_0 hS, m_K hS, mR_ringAsk hS, mK_ringAsk hS, mL_ringAsk hS, as_nil, as_i, as_r, Nat.reduceAdd, Nat.reduceLeDiff, z_eq0, z_eq1, z_or, z_em, Classical.not_not, not_false_eq_true, not_true_eq_false, true_and, and_true, false_and, and_false, and_self, true_implies, false_implies, implies_true, Option.toList_some, Option.toList_none, List.cons_append, List.nil_append, Nat.add_eq_zero_iff, a_nl_i, a_nl_r, a_nl_n, true_or, or_true, eq_self, ok_4, ok_5, ok_6, ok_7, ok_9, ok_10, ok_20, ok_21, ok_24, ok_30, ok_48, ok_50, ok_60, ok_80, ok_120, ok_180, ok_192, ok_200, ok_900, ok_1000, ok_84000, c2, c', w6]
          try simp only [true_and, and_true, true_implies, false_implies, implies_true, not_true_eq_false, not_false_eq_true]
          first
            | exact hp
            | grind
        · rw [if_neg c3] at ev
          rw [ev] at hp
          have c' : J M 74 ≤ w := Int32.not_lt.mp c3
          clear hP ho hm hF hg hrf hF2 hg2 hr
          simp only [q251_16, q251_17, q251_18, q251_28, q251_29, q251_30, q251_33, q251_45, q251_47, m_0 hS, m_K hS, as_nil, as_i, as_r, Nat.reduceAdd, Nat.reduceLeDiff, z_eq0, z_eq1, z_or, z_em, Classical.not_not, not_false_eq_true, not_true_eq_false, true_and, and_true, false_and, and_false, and_self, true_implies, false_implies, implies_true, Option.toList_some, Option.toList_none, List.cons_append, List.nil_append, Nat.add_eq_zero_iff, a_nl_i, a_nl_r, a_nl_n, true_or, or_true, eq_self, ok_4, ok_5, ok_6, ok_7, ok_9, ok_10, ok_20, ok_21, ok_24, ok_30, ok_48, ok_50, ok_60, ok_80, ok_120, ok_180, ok_192, ok_200, ok_900, ok_1000, ok_84000, c2, c']
          try simp only [true_and, and_true, true_implies, false_implies, implies_true, not_true_eq_false, not_false_eq_true]
          first
            | exact hp
            | grind)
    clear hP ho hm hF hg hrf
    rw [a_enter1 (M := a_m251) rfl (a_cat_rf (a_cat_int a_cat_nil)) (show 2 ≤ 2 by decide)]
    show a_at _ (a_xm a_m251) 0 [some (a_rf M), some (.int w)] [] _ _
    simp only [q251_0, q251_1, q251_2, q251_5, q251_6, q251_8, q251_11, q251_12, q251_13, m_0 hS, m_K hS, sp_refuse_1 hS, sp_refuse_2 hS, sp_refuse_3 hS, sp_refuse_4 hS, sp_refuse_5 hS, sp_refuse_6 hS, as_nil, as_i, as_r, Nat.reduceAdd, Nat.reduceLeDiff, z_eq0, z_eq1, z_or, z_em, Classical.not_not, not_false_eq_true, not_true_eq_false, true_and, and_true, false_and, and_false, and_self, true_implies, false_implies, implies_true, Option.toList_some, Option.toList_none, List.cons_append, List.nil_append, Nat.add_eq_zero_iff, a_nl_i, a_nl_r, a_nl_n, true_or, or_true, eq_self, ok_4, ok_5, ok_6, ok_7, ok_9, ok_10, ok_20, ok_21, ok_24, ok_30, ok_48, ok_50, ok_60, ok_80, ok_120, ok_180, ok_192, ok_200, ok_900, ok_1000, ok_84000, c1]
    try simp only [true_and, and_true, true_implies, false_implies, implies_true, not_true_eq_false, not_false_eq_true]
    first
      | exact hl
      | grind
theorem cl_b {a : Int32} : sbE Y (clW Y a) := fun k j p => cl_no (by unfold sb at p; omega)
theorem sw_b : ∀ k, sbE Y (swS g m Y k) := by
  intro k
  induction k with
  | zero => exact rgU_b m
  | succ k ih => exact sb_tr (sb_tr ih puY_b) cl_b
theorem in_cl (h : inP Y) {a : Int32} : inP (clW Y a) := by
  have e : ∀ q, ¬ q = 47 → clW Y a q = Y q := fun q hq => funext (fun j => cl_no hq)
  unfold inP at h ⊢
  rw [e 20 (by decide), e 21 (by decide), e 10 (by decide)]
  exact h
theorem sw_in (hm : inP Y) (ty : tyP Y m g) (hb5 : ∀ k, k < m → (0 ≤ Y 20 (g k).toNatClampNeg ∧ Y 20 (g k).toNatClampNeg ≤ 5) ∧ (0 ≤ Y 21 (g k).toNatClampNeg ∧ Y 21 (g k).toNatClampNeg ≤ 199) ∧ Y 21 (g k).toNatClampNeg + Y 10 (g 0).toNatClampNeg ≤ 200) : ∀ k, k ≤ m → inP (swS g m Y k) := by
  intro k
  induction k with
  | zero =>
    intro _
    have : ∀ j, inP (rgU g Y j) := by
      intro j
      induction j with
      | zero => exact hm
      | succ j ih => exact inP_un ih
    exact this m
  | succ k ih =>
    intro hk
    obtain ⟨b1, b2, b3⟩ := hb5 _ (nxN_lt (m := m) (i := k) (by omega))
    have e10 : swS g m Y k 10 = Y 10 := sbE_r (sw_b k) (by omega)
    exact in_cl (inP_pu (ih (by omega)) ⟨b2.1, Int32.le_trans b2.2 (by decide), by rw [e10, ty.2.2 _ (by omega)]; exact b3⟩ b1.2)
theorem cl_p (h : psE Y Z) {a : Int32} : psE (clW Y a) (clW Z a) := by
  refine ⟨fun k j p => ?_, fun o o0 o1 o2 i i0 i1 => ?_⟩
  · unfold clW
    by_cases c : k = 47 ∧ 30 * a.toNatClampNeg ≤ j ∧ j < 30 * a.toNatClampNeg + 30
    · rw [if_pos c, if_pos c]
    · rw [if_neg c, if_neg c]
      exact h.1 k j p
  · rw [cl_no (by decide)] at o2 i1
    rw [cl_no (by decide), cl_no (by decide)]
    exact h.2 o o0 o1 o2 i i0 i1
end ZHH
end
section
/-! the reference: swap -/
section ZII
variable {d n t M : Nat} {K L : Nat → Nat} {I I0 J J0 J1 J2 : Nat → Nat → Int32} {R : Nat → Nat → Nat} {P : Option Value → AH → Prop} {f : Nat → Int32} {e : Int32}
variable {Y Z W : Nat → Nat → Int32} {m c : Nat} {g w v : Nat → Int32}
theorem xt_swap_20 (hS : m_S M K L R) {I1 : Nat → Nat → Int32} {z : Int32} (ez : z.toNatClampNeg = m) (hz : 2 ≤ z ∧ z ≤ 5) (hy : ∀ k, k < m → (0 ≤ g k ∧ g k < 30) ∧ (0 ≤ Y 20 (g k).toNatClampNeg ∧ Y 20 (g k).toNatClampNeg ≤ 5) ∧ (0 ≤ Y 21 (g k).toNatClampNeg ∧ Y 21 (g k).toNatClampNeg ≤ 199)) (hP : ∀ J i, mF M c I1 J → gs M I0 J Y → (∀ k, k < m → J (M + 48) k = g k) → J M 74 = z → (∀ k, k < m → J (M + 49) k = Y 20 (g k).toNatClampNeg ∧ J (M + 50) k = Y 21 (g k).toNatClampNeg) → a_at d (a_xm a_m255) 68 [some (a_rf M), some (.int i), none, none] [] (n, t, K, L, J, R) P) : ∀ i : Int32, i ≤ 5 → ∀ J, 0 ≤ i → i ≤ z → mF M c I1 J → gs M I0 J Y → (∀ k, k < m → J (M + 48) k = g k) → J M 74 = z → (∀ k, k < i.toNatClampNeg → J (M + 49) k = Y 20 (g k).toNatClampNeg ∧ J (M + 50) k = Y 21 (g k).toNatClampNeg) → a_at d (a_xm a_m255) 20 [some (a_rf M), some (.int i), none, none] [] (n, t, K, L, J, R) P := by
  refine up_ind 5 (fun i hk ih => ?_)
  intro J q0 q1 hF hg ra st ob
  rw [q255_20]
  by_cases ci : i < z
  · obtain ⟨t1, t2, t3, t4⟩ := lp_st q0 ci
    have him : i.toNatClampNeg < m := by rw [← ez]; exact cl_lt q0 ci
    have hi5 : i < 5 := Int32.lt_of_lt_of_le ci hz.2
    have i6 : 0 ≤ i ∧ i < 6 := ⟨q0, Int32.lt_trans hi5 (by decide)⟩
    obtain ⟨g30, b20, b21⟩ := hy _ him
    have e48 := ra _ him
    have f20 : J (M + 20) (g i.toNatClampNeg).toNatClampNeg = Y 20 (g i.toNatClampNeg).toNatClampNeg := hg.2.2.1 20 _ (by unfold ps1; omega)
    have f21 : J (M + 21) (g i.toNatClampNeg).toNatClampNeg = Y 21 (g i.toNatClampNeg).toNatClampNeg := hg.2.2.1 21 _ (by unfold ps1; omega)
    have c' : ¬ z ≤ i := Int32.not_le.mpr ci
    have r20 : (-9 : Int32) ≤ Y 20 (g i.toNatClampNeg).toNatClampNeg ∧ Y 20 (g i.toNatClampNeg).toNatClampNeg ≤ 5 := ⟨Int32.le_trans (by decide) b20.1, b20.2⟩
    have r21 : (-9 : Int32) ≤ Y 21 (g i.toNatClampNeg).toNatClampNeg ∧ Y 21 (g i.toNatClampNeg).toNatClampNeg ≤ 200 := ⟨Int32.le_trans (by decide) b21.1, Int32.le_trans b21.2 (by decide)⟩
    have hp := ih hi5 (a_ui (a_ui J (M + 49) i.toNatClampNeg (Y 20 (g i.toNatClampNeg).toNatClampNeg)) (M + 50) i.toNatClampNeg (Y 21 (g i.toNatClampNeg).toNatClampNeg)) t2 t3 (sF_oldShift (sF_oldBench hF r20) r21) (gs_ui (gs_ui hg (sR_oldBench hg.1 r20) (by omega) ⟨by unfold ps1; omega, by omega⟩) (sR_oldShift (sR_oldBench hg.1 r20) r21) (by omega) ⟨by unfold ps1; omega, by omega⟩) (fun k hk => by rw [ui_ap, if_neg (by omega), ui_ap, if_neg (by omega)]; exact ra k hk) (by rw [ui_ap, if_neg (by omega), ui_ap, if_neg (by omega)]; exact st) (fun k hk => by
      rw [t4] at hk
      rw [ui_ap, if_neg (by omega), ui_ap, ui_ap, ui_ap, if_neg (by omega : ¬ (M + 50 = M + 49 ∧ k = i.toNatClampNeg))]
      by_cases e : k = i.toNatClampNeg
      · rw [if_pos ⟨rfl, e⟩, if_pos ⟨rfl, e⟩, e]
        exact ⟨rfl, rfl⟩
      · rw [if_neg (fun q => e q.2), if_neg (fun q => e q.2)]
        exact ob k (by omega))
    clear ih hP hy hF hg ra ob
    simp only [q255_21, q255_22, q255_25, q255_28, q255_29, q255_32, q255_33, q255_34, q255_37, q255_38, q255_41, q255_42, q255_43, q255_44, q255_45, q255_46, q255_49, q255_50, q255_51, q255_54, q255_55, q255_58, q255_59, q255_60, q255_61, q255_62, q255_65, m_0 hS, m_K hS, mR_oldBench hS, mK_oldBench hS, mL_oldBench hS, mR_atBench hS, mK_atBench hS, mL_atBench hS, mR_ringAsk hS, mK_ringAsk hS, mL_ringAsk hS, mR_oldShift hS, mK_oldShift hS, mL_oldShift hS, mR_atShift hS, mK_atShift hS, mL_atShift hS, as_nil, as_i, as_r, Nat.reduceAdd, Nat.reduceLeDiff, z_eq0, z_eq1, z_or, z_em, Classical.not_not, not_false_eq_true, not_true_eq_false, true_and, and_true, false_and, and_false, and_self, true_implies, false_implies, implies_true, Option.toList_some, Option.toList_none, List.cons_append, List.nil_append, Nat.add_eq_zero_iff, a_nl_i, a_nl_r, a_nl_n, true_or, or_true, eq_self, ok_4, ok_5, ok_6, ok_7, ok_9, ok_10, ok_20, ok_21, ok_24, ok_30, ok_48, ok_50, ok_60, ok_80, ok_120, ok_180, ok_192, ok_200, ok_900, ok_1000, ok_84000, ui_ap, ne_MM, ne_M0, ne_0M, Nat.reduceEqDiff, reduceIte, if_true, if_false, st, c', e48, f20, f21, i6]
    try simp only [true_and, and_true, true_implies, false_implies, implies_true, not_true_eq_false, not_false_eq_true]
    first
      | exact hp
      | (repeat refine And.intro (by grind) ?_
         exact hp)
      | grind
  · have e := (lp_end q1 ci).2
    have hp := hP J i hF hg ra st (by rw [e, ez] at ob; exact ob)
    have c' : z ≤ i := Int32.not_lt.mp ci
    clear ih hP hy hF hg ra ob
    simp only [q255_21, q255_22, q255_25, m_0 hS, m_K hS, as_nil, as_i, as_r, Nat.reduceAdd, Nat.reduceLeDiff, z_eq0, z_eq1, z_or, z_em, Classical.not_not, not_false_eq_true, not_true_eq_false, true_and, and_true, false_and, and_false, and_self, true_implies, false_implies, implies_true, Option.toList_some, Option.toList_none, List.cons_append, List.nil_append, Nat.add_eq_zero_iff, a_nl_i, a_nl_r, a_nl_n, true_or, or_true, eq_self, ok_4, ok_5, ok_6, ok_7, ok_9, ok_10, ok_20, ok_21, ok_24, ok_30, ok_48, ok_50, ok_60, ok_80, ok_120, ok_180, ok_192, ok_200, ok_900, ok_1000, ok_84000, ui_ap, ne_MM, ne_M0, ne_0M, Nat.reduceEqDiff, reduceIte, if_true, if_false, st, c']
    try simp only [true_and, and_true, true_implies, false_implies, implies_true, not_true_eq_false, not_false_eq_true]
    first
      | exact hp
      | grind
theorem yR_k {X : Nat → Nat → Int32} (h : yR M I J X) {k j : Nat} (hk : k ≤ 52) (hm : ¬ mk0 k j) (e : X k j = I (M + k) j) : J (M + k) j = I (M + k) j := (h.2.2 k j hk hm).trans e
theorem xt_swap_70 (hS : m_S M K L R) {I1 : Nat → Nat → Int32} {z : Int32} (ez : z.toNatClampNeg = m) (hz : 2 ≤ z ∧ z ≤ 5) (hc : c + 40 ≤ 84000) (hy : ∀ k, k < m → (0 ≤ g k ∧ g k < 30)) (hP : ∀ J i, mF M (c + 20) I1 J → gs M I0 J (rgU g Y m) → (∀ k, k < m → J (M + 48) k = g k) → J M 74 = z → (∀ k, k < m → J (M + 49) k = Y 20 (g k).toNatClampNeg ∧ J (M + 50) k = Y 21 (g k).toNatClampNeg) → a_at (d + 12) (a_xm a_m255) 94 [some (a_rf M), some (.int i), none, none] [] (n, t, K, L, J, R) P) : ∀ i : Int32, i ≤ 5 → ∀ J, 0 ≤ i → i ≤ z → mF M (c + 4 * i.toNatClampNeg) I1 J → gs M I0 J (rgU g Y i.toNatClampNeg) → (∀ k, k < m → J (M + 48) k = g k) → J M 74 = z → (∀ k, k < m → J (M + 49) k = Y 20 (g k).toNatClampNeg ∧ J (M + 50) k = Y 21 (g k).toNatClampNeg) → a_at (d + 12) (a_xm a_m255) 70 [some (a_rf M), some (.int i), none, none] [] (n, t, K, L, J, R) P := by
  refine up_ind 5 (fun i hk ih => ?_)
  intro J q0 q1 hF hg ra st ob
  have i5 : i.toNatClampNeg < 6 := cl_lt (j := 6) q0 (Int32.lt_of_le_of_lt hk (by decide))
  rw [q255_70]
  by_cases ci : i < z
  · obtain ⟨t1, t2, t3, t4⟩ := lp_st q0 ci
    have him : i.toNatClampNeg < m := by rw [← ez]; exact cl_lt q0 ci
    have hi5 : i < 5 := Int32.lt_of_lt_of_le ci hz.2
    have i6 : 0 ≤ i ∧ i < 6 := ⟨q0, Int32.lt_trans hi5 (by decide)⟩
    have g30 := hy _ him
    have e48 := ra _ him
    have c' : ¬ z ≤ i := Int32.not_le.mpr ci
    have hcall := xt_takeFrom (d := d + 10) (n := n) (t := t) (K := K) (L := L) (R := R) hS hF (by omega) g30 (P := fun r' h' => a_at (d + 12) (a_xm a_m255) 88 [some (a_rf M), some (.int i), none, none] (r'.toList ++ []) h' P) (fun J2 g1 _ y2 => by
      have hg2 := yR_gs hg y2 (unY_p hg.2.2 g30)
      have keep : ∀ k j, k ≤ 52 → ¬ mk0 k j → ¬ k = 20 ∧ ¬ k = 21 → J2 (M + k) j = J (M + k) j := fun k j h1 h2 h3 => yR_k y2 h1 h2 (un_o (Or.inl h3))
      have hp := ih hi5 J2 t2 t3 (mF_le g1 (by rw [t4]; omega)) (by rw [t4]; exact hg2) (fun k hk => (keep 48 k (by omega) (by unfold mk0; omega) (by omega)).trans (ra k hk)) ((keep 0 74 (by omega) (by unfold mk0; omega) (by omega)).trans st) (fun k hk => ⟨(keep 49 k (by omega) (by unfold mk0; omega) (by omega)).trans (ob k hk).1, (keep 50 k (by omega) (by unfold mk0; omega) (by omega)).trans (ob k hk).2⟩)
      clear ih hP hy hF hg ra ob g1 y2 hg2 keep
      simp only [q255_88, q255_91, as_nil, as_i, as_r, Nat.reduceAdd, Nat.reduceLeDiff, z_eq0, z_eq1, z_or, z_em, Classical.not_not, not_false_eq_true, not_true_eq_false, true_and, and_true, false_and, and_false, and_self, true_implies, false_implies, implies_true, Option.toList_some, Option.toList_none, List.cons_append, List.nil_append, Nat.add_eq_zero_iff, a_nl_i, a_nl_r, a_nl_n, true_or, or_true, eq_self, ok_4, ok_5, ok_6, ok_7, ok_9, ok_10, ok_20, ok_21, ok_24, ok_30, ok_48, ok_50, ok_60, ok_80, ok_120, ok_180, ok_192, ok_200, ok_900, ok_1000, ok_84000]
      exact hp)
    clear ih hP hy hF hg ra ob
    simp only [q255_71, q255_72, q255_75, q255_78, q255_79, q255_80, q255_83, q255_84, q255_85, m_0 hS, m_K hS, mR_ringAsk hS, mK_ringAsk hS, mL_ringAsk hS, as_nil, as_i, as_r, Nat.reduceAdd, Nat.reduceLeDiff, z_eq0, z_eq1, z_or, z_em, Classical.not_not, not_false_eq_true, not_true_eq_false, true_and, and_true, false_and, and_false, and_self, true_implies, false_implies, implies_true, Option.toList_some, Option.toList_none, List.cons_append, List.nil_append, Nat.add_eq_zero_iff, a_nl_i, a_nl_r, a_nl_n, true_or, or_true, eq_self, ok_4, ok_5, ok_6, ok_7, ok_9, ok_10, ok_20, ok_21, ok_24, ok_30, ok_48, ok_50, ok_60, ok_80, ok_120, ok_180, ok_192, ok_200, ok_900, ok_1000, ok_84000, st, c', e48, i6]
    try simp only [true_and, and_true, true_implies, false_implies, implies_true, not_true_eq_false, not_false_eq_true]
    first
      | exact hcall
      | (repeat refine And.intro (by grind) ?_
         exact hcall)
      | grind
  · have e := (lp_end q1 ci).2
    have hp := hP J i (mF_le hF (by omega)) (by rw [e, ez] at hg; exact hg) ra st ob
    have c' : z ≤ i := Int32.not_lt.mp ci
    clear ih hP hy hF hg ra ob
    simp only [q255_71, q255_72, q255_75, m_0 hS, m_K hS, as_nil, as_i, as_r, Nat.reduceAdd, Nat.reduceLeDiff, z_eq0, z_eq1, z_or, z_em, Classical.not_not, not_false_eq_true, not_true_eq_false, true_and, and_true, false_and, and_false, and_self, true_implies, false_implies, implies_true, Option.toList_some, Option.toList_none, List.cons_append, List.nil_append, Nat.add_eq_zero_iff, a_nl_i, a_nl_r, a_nl_n, true_or, or_true, eq_self, ok_4, ok_5, ok_6, ok_7, ok_9, ok_10, ok_20, ok_21, ok_24, ok_30, ok_48, ok_50, ok_60, ok_80, ok_120, ok_180, ok_192, ok_200, ok_900, ok_1000, ok_84000, st, c']
    try simp only [true_and, and_true, true_implies, false_implies, implies_true, not_true_eq_false, not_false_eq_true]
    first
      | exact hp
      | grind
theorem xt_swap_146 (hS : m_S M K L R) {I1 : Nat → Nat → Int32} {i j a : Int32} (ha : 0 ≤ a ∧ a < 30) (hi : 0 ≤ i ∧ i < 6) (e48 : I (M + 48) i.toNatClampNeg = a) (hP : ∀ J, mF M c I1 J → (∀ x y, J x y = if x = M + 47 ∧ 30 * a.toNatClampNeg ≤ y ∧ y < 30 * a.toNatClampNeg + 30 then 0 else I x y) → a_at d (a_xm a_m255) 175 [some (a_rf M), some (.int i), some (.int j), some (.int 30)] [] (n, t, K, L, J, R) P) : ∀ o : Int32, o ≤ 30 → ∀ J, 0 ≤ o → mF M c I1 J → (∀ x y, J x y = if x = M + 47 ∧ 30 * a.toNatClampNeg ≤ y ∧ y < 30 * a.toNatClampNeg + o.toNatClampNeg then 0 else I x y) → a_at d (a_xm a_m255) 146 [some (a_rf M), some (.int i), some (.int j), some (.int o)] [] (n, t, K, L, J, R) P := by
  refine up_ind 30 (fun o ho ih => ?_)
  intro J h0 hF hJ
  rw [q255_146]
  by_cases co : o < 30
  · obtain ⟨t1, t2, t3, t4⟩ := lp_st h0 co
    obtain ⟨x1, x2, -⟩ := ix_900 ha ⟨h0, co⟩
    have k48 : J (M + 48) i.toNatClampNeg = a := by rw [hJ, if_neg (by omega)]; exact e48
    have c' : ¬ 30 ≤ o := Int32.not_le.mpr co
    have hp := ih co (a_ui J (M + 47) (30 * a + o).toNatClampNeg 0) t2 (sF_isWish hF) (fun x y => by
      rw [ui_ap, x1, hJ, t4]
      by_cases e : x = M + 47 ∧ y = 30 * a.toNatClampNeg + o.toNatClampNeg
      · rw [if_pos e, if_pos ⟨e.1, by omega, by omega⟩]
      · rw [if_neg e]
        by_cases e2 : x = M + 47 ∧ 30 * a.toNatClampNeg ≤ y ∧ y < 30 * a.toNatClampNeg + o.toNatClampNeg
        · rw [if_pos e2, if_pos ⟨e2.1, e2.2.1, by omega⟩]
        · rw [if_neg e2, if_neg (by omega)])
    have z1 : (0 : Int32) &&& 1 = 0 := by decide
    clear ih hP hF hJ
    simp only [q255_147, q255_149, q255_152, q255_153, q255_156, q255_158, q255_159, q255_162, q255_163, q255_164, q255_165, q255_166, q255_167, q255_168, q255_169, q255_172, m_0 hS, m_K hS, mR_isWish hS, mK_isWish hS, mL_isWish hS, mR_ringAsk hS, mK_ringAsk hS, mL_ringAsk hS, as_nil, as_i, as_r, Nat.reduceAdd, Nat.reduceLeDiff, z_eq0, z_eq1, z_or, z_em, Classical.not_not, not_false_eq_true, not_true_eq_false, true_and, and_true, false_and, and_false, and_self, true_implies, false_implies, implies_true, Option.toList_some, Option.toList_none, List.cons_append, List.nil_append, Nat.add_eq_zero_iff, a_nl_i, a_nl_r, a_nl_n, true_or, or_true, eq_self, ok_4, ok_5, ok_6, ok_7, ok_9, ok_10, ok_20, ok_21, ok_24, ok_30, ok_48, ok_50, ok_60, ok_80, ok_120, ok_180, ok_192, ok_200, ok_900, ok_1000, ok_84000, k48, c', x2, hi, z1]
    try simp only [true_and, and_true, true_implies, false_implies, implies_true, not_true_eq_false, not_false_eq_true]
    first
      | exact hp
      | (repeat refine And.intro (by grind) ?_
         exact hp)
      | grind
  · have e : o = 30 := by clear ih hP hF hJ; grind
    subst e
    have hp := hP J hF hJ
    clear ih hP hF hJ
    simp only [q255_147, q255_149, as_nil, as_i, as_r, Nat.reduceAdd, Nat.reduceLeDiff, z_eq0, z_eq1, z_or, z_em, Classical.not_not, not_false_eq_true, not_true_eq_false, true_and, and_true, false_and, and_false, and_self, true_implies, false_implies, implies_true, Option.toList_some, Option.toList_none, List.cons_append, List.nil_append, Nat.add_eq_zero_iff, a_nl_i, a_nl_r, a_nl_n, true_or, or_true, eq_self, ok_4, ok_5, ok_6, ok_7, ok_9, ok_10, ok_20, ok_21, ok_24, ok_30, ok_48, ok_50, ok_60, ok_80, ok_120, ok_180, ok_192, ok_200, ok_900, ok_1000, ok_84000]
    try simp only [true_and, and_true, true_implies, false_implies, implies_true, not_true_eq_false, not_false_eq_true]
    first
      | exact hp
      | exact ⟨fun _ => hp, fun h => absurd (by decide) h⟩
      | grind
theorem xt_swap_96 (hS : m_S M K L R) {I1 : Nat → Nat → Int32} (hm : okY Y) {z : Int32} (ez : z.toNatClampNeg = m) (hz : 2 ≤ z ∧ z ≤ 5) (hc : c + 40 ≤ 84000) (ty : tyP Y m g) (hb5 : ∀ k, k < m → (0 ≤ Y 20 (g k).toNatClampNeg ∧ Y 20 (g k).toNatClampNeg ≤ 5) ∧ (0 ≤ Y 21 (g k).toNatClampNeg ∧ Y 21 (g k).toNatClampNeg ≤ 199) ∧ Y 21 (g k).toNatClampNeg + Y 10 (g 0).toNatClampNeg ≤ 200) (hP : ∀ J, mF M (c + 40) I1 J → gs M I0 J (swS g m Y m) → P (some (.int z)) (n, t, K, L, J, R)) : ∀ i : Int32, i ≤ 5 → ∀ J x y, 0 ≤ i → i ≤ z → mF M (c + 20 + 4 * i.toNatClampNeg) I1 J → gs M I0 J (swS g m Y i.toNatClampNeg) → (∀ k, k < m → J (M + 48) k = g k) → J M 74 = z → (∀ k, k < m → J (M + 49) k = Y 20 (g k).toNatClampNeg ∧ J (M + 50) k = Y 21 (g k).toNatClampNeg) → a_at (d + 12) (a_xm a_m255) 96 [some (a_rf M), some (.int i), x, y] [] (n, t, K, L, J, R) P := by
  have h17 := hm.1.2.2.2.2.1
  refine up_ind 5 (fun i hk ih => ?_)
  intro J x y q0 q1 hF hg ra st ob
  have i5 : i.toNatClampNeg < 6 := cl_lt (j := 6) q0 (Int32.lt_of_le_of_lt hk (by decide))
  rw [q255_96]
  by_cases ci : i < z
  · obtain ⟨t1, t2, t3, t4⟩ := lp_st q0 ci
    have him : i.toNatClampNeg < m := by rw [← ez]; exact cl_lt q0 ci
    have hi5 : i < 5 := Int32.lt_of_lt_of_le ci hz.2
    have in5 : i.toNatClampNeg < 5 := cl_lt q0 hi5
    have i6 : 0 ≤ i ∧ i < 6 := ⟨q0, Int32.lt_trans hi5 (by decide)⟩
    have hnm := nxN_lt (m := m) him
    obtain ⟨⟨a0, a1⟩, -⟩ := ty.1 _ him
    have g30 : 0 ≤ g i.toNatClampNeg ∧ g i.toNatClampNeg < 30 := ⟨a0, Int32.lt_of_lt_of_le a1 h17.2⟩
    have e48 := ra _ him
    have c' : ¬ z ≤ i := Int32.not_le.mpr ci
    obtain ⟨bb, bs, bl⟩ := hb5 _ hnm
    have bW : sbE Y (swS g m Y i.toNatClampNeg) := sw_b _
    have o10 : (swS g m Y i.toNatClampNeg) 10 = Y 10 := sbE_r bW (by omega)
    have e17 : (swS g m Y i.toNatClampNeg) 0 17 = Y 0 17 := by
      rw [sw_row (g := g) (m := m) (Y := Y) (q := 0) (by decide) i.toNatClampNeg]
      exact ss_tr (rgU_s m) (rgP_s _) 0 17 (by unfold ss ps1; omega)
    have inW : inP (swS g m Y i.toNatClampNeg) := sw_in hm.2.1.2.2.2.1 ty hb5 _ (by omega)
    have mW : moY (swS g m Y i.toNatClampNeg) := moY_b hm.2.1 bW inW
    have h121 : ∀ j : Int32, 0 ≤ j ∧ j < 6 → j.toNatClampNeg = (nxN m i.toNatClampNeg) → ∀ y, a_at (d + 12) (a_xm a_m255) 122 [some (a_rf M), some (.int i), some (.int j), y] [] (n, t, K, L, J, R) P := fun j hj ej y => by
      have x49 : J (M + 49) j.toNatClampNeg = (Y 20 (g (nxN m i.toNatClampNeg)).toNatClampNeg) := by rw [ej]; exact (ob _ hnm).1
      have x50 : J (M + 50) j.toNatClampNeg = (Y 21 (g (nxN m i.toNatClampNeg)).toNatClampNeg) := by rw [ej]; exact (ob _ hnm).2
      have hcall := xt_giveTo (d := d + 1) (n := n) (t := t) (K := K) (L := L) (R := R) hS (moP_of hg.1 mW hg.2.2) hF (by omega) g30 bb ⟨Int32.le_trans (by decide) bs.1, Int32.le_trans bs.2 (by decide)⟩ (P := fun r' h' => a_at (d + 12) (a_xm a_m255) 144 [some (a_rf M), some (.int i), some (.int j), y] (r'.toList ++ []) h' P) (fun J2 g1 y2 => by
        have hg2 := yR_gs hg y2 (puY_p (by rw [e17]; exact h17) (by rw [o10]; exact hm.1.2.1) hg.2.2 g30)
        have keep : ∀ k j, k ≤ 52 → ¬ mk0 k j → ¬ k = 20 ∧ ¬ k = 21 ∧ ¬ k = 22 → J2 (M + k) j = J (M + k) j := fun k j h1 h2 h3 => yR_k y2 h1 h2 (by unfold puY; rw [if_neg (by omega), if_neg (by omega), if_neg (by omega)]; rfl)
        have k48 : J2 (M + 48) i.toNatClampNeg = g i.toNatClampNeg := (keep 48 _ (by omega) (by unfold mk0; omega) (by omega)).trans e48
        have hl := xt_swap_146 (d := d + 12) (n := n) (t := t) (K := K) (L := L) (R := R) (P := P) (c := c + 20 + 4 * i.toNatClampNeg + 4) (j := j) hS g30 i6 k48 (fun J3 hF3 h3 => by
          have hx3 : ∀ k q, ¬ k = 47 → J3 (M + k) q = J2 (M + k) q := fun k q hk => by rw [h3, if_neg (by omega)]
          have hg3 : gs M I0 J3 (clW (puY (swS g m Y i.toNatClampNeg) (g i.toNatClampNeg) (Y 20 (g (nxN m i.toNatClampNeg)).toNatClampNeg) (Y 21 (g (nxN m i.toNatClampNeg)).toNatClampNeg)) (g i.toNatClampNeg)) := by
            refine ⟨hF3.1.1, fun x q hx => by rw [h3, if_neg (by omega)]; exact hg2.2.1 x q hx, ?_⟩
            have e : yv M J3 = clW (yv M J2) (g i.toNatClampNeg) := by
              funext k q
              show J3 (M + k) q = _
              rw [h3]
              unfold clW
              by_cases e : k = 47 ∧ 30 * (g i.toNatClampNeg).toNatClampNeg ≤ q ∧ q < 30 * (g i.toNatClampNeg).toNatClampNeg + 30
              · rw [if_pos e, if_pos ⟨by omega, e.2⟩]
              · rw [if_neg e, if_neg (by omega)]
                rfl
            rw [e]
            exact cl_p hg2.2.2
          have hp := ih hi5 J3 (some (.int j)) (some (.int 30)) t2 t3 (mF_le hF3 (by rw [t4]; omega)) (by rw [t4]; exact hg3) (fun k hk => (hx3 48 k (by omega)).trans ((keep 48 k (by omega) (by unfold mk0; omega) (by omega)).trans (ra k hk))) ((hx3 0 74 (by omega)).trans ((keep 0 74 (by omega) (by unfold mk0; omega) (by omega)).trans st)) (fun k hk => ⟨(hx3 49 k (by omega)).trans ((keep 49 k (by omega) (by unfold mk0; omega) (by omega)).trans (ob k hk).1), (hx3 50 k (by omega)).trans ((keep 50 k (by omega) (by unfold mk0; omega) (by omega)).trans (ob k hk).2)⟩)
          clear ih hP hF hg ra ob g1 y2 hg2 keep h3 hg3 hx3 ty hb5 hm mW
          simp only [q255_175, q255_178, as_nil, as_i, as_r, Nat.reduceAdd, Nat.reduceLeDiff, z_eq0, z_eq1, z_or, z_em, Classical.not_not, not_false_eq_true, not_true_eq_false, true_and, and_true, false_and, and_false, and_self, true_implies, false_implies, implies_true, Option.toList_some, Option.toList_none, List.cons_append, List.nil_append, Nat.add_eq_zero_iff, a_nl_i, a_nl_r, a_nl_n, true_or, or_true, eq_self, ok_4, ok_5, ok_6, ok_7, ok_9, ok_10, ok_20, ok_21, ok_24, ok_30, ok_48, ok_50, ok_60, ok_80, ok_120, ok_180, ok_192, ok_200, ok_900, ok_1000, ok_84000]
          exact hp) 0 (by decide) J2 (by decide) g1 (fun x q => by rw [show (0 : Int32).toNatClampNeg = 0 from rfl, if_neg (by omega)])
        clear ih hP hF hg ra ob g1 y2 hg2 keep ty hb5 hm mW
        simp only [q255_144, q255_145, as_nil, as_i, as_r, Nat.reduceAdd, Nat.reduceLeDiff, z_eq0, z_eq1, z_or, z_em, Classical.not_not, not_false_eq_true, not_true_eq_false, true_and, and_true, false_and, and_false, and_self, true_implies, false_implies, implies_true, Option.toList_some, Option.toList_none, List.cons_append, List.nil_append, Nat.add_eq_zero_iff, a_nl_i, a_nl_r, a_nl_n, true_or, or_true, eq_self, ok_4, ok_5, ok_6, ok_7, ok_9, ok_10, ok_20, ok_21, ok_24, ok_30, ok_48, ok_50, ok_60, ok_80, ok_120, ok_180, ok_192, ok_200, ok_900, ok_1000, ok_84000]
        exact hl)
      clear ih hP hF hg ra ob ty hb5 hm mW
      simp only [q255_122, q255_123, q255_124, q255_127, q255_128, q255_129, q255_130, q255_133, q255_134, q255_135, q255_136, q255_139, q255_140, q255_141, m_0 hS, m_K hS, mR_ringAsk hS, mK_ringAsk hS, mL_ringAsk hS, mR_oldBench hS, mK_oldBench hS, mL_oldBench hS, mR_oldShift hS, mK_oldShift hS, mL_oldShift hS, as_nil, as_i, as_r, Nat.reduceAdd, Nat.reduceLeDiff, z_eq0, z_eq1, z_or, z_em, Classical.not_not, not_false_eq_true, not_true_eq_false, true_and, and_true, false_and, and_false, and_self, true_implies, false_implies, implies_true, Option.toList_some, Option.toList_none, List.cons_append, List.nil_append, Nat.add_eq_zero_iff, a_nl_i, a_nl_r, a_nl_n, true_or, or_true, eq_self, ok_4, ok_5, ok_6, ok_7, ok_9, ok_10, ok_20, ok_21, ok_24, ok_30, ok_48, ok_50, ok_60, ok_80, ok_120, ok_180, ok_192, ok_200, ok_900, ok_1000, ok_84000, e48, x49, x50, i6, hj]
      try simp only [true_and, and_true, true_implies, false_implies, implies_true, not_true_eq_false, not_false_eq_true]
      first
        | exact hcall
        | (repeat refine And.intro (by grind) ?_
           exact hcall)
        | grind
    by_cases c2 : i + 1 < z
    · have hp := h121 (i + 1) ⟨t2, Int32.lt_trans (Int32.lt_of_lt_of_le c2 hz.2) (by decide)⟩ (by
        rw [t4]
        unfold nxN
        rw [if_pos]
        rw [← ez, ← t4]
        exact cl_lt t2 c2)
      clear ih hP hF hg ra ob ty hb5 hm mW h121
      simp only [q255_97, q255_98, q255_101, q255_104, q255_105, q255_106, q255_107, q255_108, q255_111, q255_114, q255_115, q255_116, q255_117, q255_120, q255_121, m_0 hS, m_K hS, as_nil, as_i, as_r, Nat.reduceAdd, Nat.reduceLeDiff, z_eq0, z_eq1, z_or, z_em, Classical.not_not, not_false_eq_true, not_true_eq_false, true_and, and_true, false_and, and_false, and_self, true_implies, false_implies, implies_true, Option.toList_some, Option.toList_none, List.cons_append, List.nil_append, Nat.add_eq_zero_iff, a_nl_i, a_nl_r, a_nl_n, true_or, or_true, eq_self, ok_4, ok_5, ok_6, ok_7, ok_9, ok_10, ok_20, ok_21, ok_24, ok_30, ok_48, ok_50, ok_60, ok_80, ok_120, ok_180, ok_192, ok_200, ok_900, ok_1000, ok_84000, st, c', c2]
      try simp only [true_and, and_true, true_implies, false_implies, implies_true, not_true_eq_false, not_false_eq_true]
      first
        | exact hp _
        | grind
    · have hp := h121 0 (by decide) (by
        rw [show (0 : Int32).toNatClampNeg = 0 from rfl]
        unfold nxN
        rw [if_neg]
        have e : i + 1 = z := by clear ih hP hF hg ra ob ty hb5 hm mW h121; grind
        rw [← ez, ← t4, e]
        omega)
      clear ih hP hF hg ra ob ty hb5 hm mW h121
      simp only [q255_97, q255_98, q255_101, q255_104, q255_105, q255_106, q255_107, q255_108, q255_111, q255_114, q255_115, q255_116, q255_117, q255_120, q255_121, m_0 hS, m_K hS, as_nil, as_i, as_r, Nat.reduceAdd, Nat.reduceLeDiff, z_eq0, z_eq1, z_or, z_em, Classical.not_not, not_false_eq_true, not_true_eq_false, true_and, and_true, false_and, and_false, and_self, true_implies, false_implies, implies_true, Option.toList_some, Option.toList_none, List.cons_append, List.nil_append, Nat.add_eq_zero_iff, a_nl_i, a_nl_r, a_nl_n, true_or, or_true, eq_self, ok_4, ok_5, ok_6, ok_7, ok_9, ok_10, ok_20, ok_21, ok_24, ok_30, ok_48, ok_50, ok_60, ok_80, ok_120, ok_180, ok_192, ok_200, ok_900, ok_1000, ok_84000, st, c', c2]
      try simp only [true_and, and_true, true_implies, false_implies, implies_true, not_true_eq_false, not_false_eq_true]
      first
        | exact hp _
        | grind
  · have e := (lp_end q1 ci).2
    have hp := hP J (mF_le hF (by omega)) (by rw [e, ez] at hg; exact hg)
    have c' : z ≤ i := Int32.not_lt.mp ci
    clear ih hP hF hg ra ob ty hb5 hm
    simp only [q255_97, q255_98, q255_101, q255_181, q255_182, q255_185, m_0 hS, m_K hS, as_nil, as_i, as_r, Nat.reduceAdd, Nat.reduceLeDiff, z_eq0, z_eq1, z_or, z_em, Classical.not_not, not_false_eq_true, not_true_eq_false, true_and, and_true, false_and, and_false, and_self, true_implies, false_implies, implies_true, Option.toList_some, Option.toList_none, List.cons_append, List.nil_append, Nat.add_eq_zero_iff, a_nl_i, a_nl_r, a_nl_n, true_or, or_true, eq_self, ok_4, ok_5, ok_6, ok_7, ok_9, ok_10, ok_20, ok_21, ok_24, ok_30, ok_48, ok_50, ok_60, ok_80, ok_120, ok_180, ok_192, ok_200, ok_900, ok_1000, ok_84000, st, c']
    try simp only [true_and, and_true, true_implies, false_implies, implies_true, not_true_eq_false, not_false_eq_true]
    first
      | exact hp
      | grind
theorem xp_swap (hS : m_S M K L R) {I1 : Nat → Nat → Int32} (hm : okY Y) {c : Nat} (hc : c + 130 ≤ 84000) (hF : mF M c I1 I) (hg : gs M I0 I Y) {v : Int32} {Z : Nat → Nat → Int32} (ho : swO Y v Z) (hP : ∀ J, mF M (c + 120) I1 J → gs M I0 J Z → P (some (.int v)) (n, t, K, L, J, R)) : a_does (d + 16) 255 [a_rf M] (n, t, K, L, I, R) P := by
  have h17 := hm.1.2.2.2.2.1
  have hl := xt_findRing (d := d + 3) (n := n) (t := t) (c := c) (K := K) (L := L) (R := R) hS hm hF hg (P := fun r' h' => a_at (d + 15) (a_xm a_m255) 4 [some (a_rf M), none, none, none] (r'.toList ++ []) h' P) (fun J hF2 hg2 hv hr => by
    by_cases c1 : J M 74 = 0
    · have hso : swO Y (-3) Y := ⟨_, _, hr, Or.inl ⟨by rw [c1]; rfl, rfl, rfl⟩⟩
      obtain ⟨e1, e2⟩ := swO_u hso ho
      rw [e1, e2] at hP
      have hp := fun k : Nat => hP (a_ui J (M + 23) k (J (M + 23) k + 1)) (mF_le (sF_refused hF2) (by omega)) (gs_ui hg2 (sR_refused hg2.1) (by omega) ⟨by unfold ps1; omega, by omega⟩)
      clear hP ho hm hF hg hF2 hg2 hr hso
      simp only [q255_4, q255_5, q255_8, q255_11, q255_12, q255_14, q255_17, m_0 hS, m_K hS, sp_refuse_1 hS, sp_refuse_2 hS, sp_refuse_3 hS, sp_refuse_4 hS, sp_refuse_5 hS, sp_refuse_6 hS, as_nil, as_i, as_r, Nat.reduceAdd, Nat.reduceLeDiff, z_eq0, z_eq1, z_or, z_em, Classical.not_not, not_false_eq_true, not_true_eq_false, true_and, and_true, false_and, and_false, and_self, true_implies, false_implies, implies_true, Option.toList_some, Option.toList_none, List.cons_append, List.nil_append, Nat.add_eq_zero_iff, a_nl_i, a_nl_r, a_nl_n, true_or, or_true, eq_self, ok_4, ok_5, ok_6, ok_7, ok_9, ok_10, ok_20, ok_21, ok_24, ok_30, ok_48, ok_50, ok_60, ok_80, ok_120, ok_180, ok_192, ok_200, ok_900, ok_1000, ok_84000, c1]
      try simp only [true_and, and_true, true_implies, false_implies, implies_true, not_true_eq_false, not_false_eq_true]
      first
        | exact hp _
        | grind
    · have v25 := hv.resolve_left c1
      have v0 : 0 ≤ J M 74 := Int32.le_trans (by decide) v25.1
      have vn : 1 < (J M 74).toNatClampNeg := cl_lt (i := 1) (by decide) (Int32.lt_of_lt_of_le (by decide) v25.1)
      have hso : swO Y (J M 74) (swS (J (M + 48)) (J M 74).toNatClampNeg Y (J M 74).toNatClampNeg) := ⟨_, _, hr, Or.inr ⟨by omega, on_cl v0, rfl⟩⟩
      obtain ⟨e1, e2⟩ := swO_u hso ho
      rw [e1, e2] at hP
      rcases hr with ⟨e, -⟩ | hr2
      · omega
      · have ty := rg_ty hr2.2.1
        have hb5 := ok_b5 hm ty
        have hy : ∀ k, k < (J M 74).toNatClampNeg → (0 ≤ J (M + 48) k ∧ J (M + 48) k < 30) := fun k hk => ⟨(ty.1 k hk).1.1, Int32.lt_of_lt_of_le (ty.1 k hk).1.2 h17.2⟩
        have hl := xt_swap_20 (d := d + 15) (n := n) (t := t) (K := K) (L := L) (R := R) (P := P) (c := c) hS rfl v25 (fun k hk => ⟨hy k hk, (hb5 k hk).1, (hb5 k hk).2.1⟩) (fun J2 i2 hF3 hg3 ra3 st3 ob3 => by
          have hl := xt_swap_70 (d := d + 3) (n := n) (t := t) (K := K) (L := L) (R := R) (P := P) (c := c) (Y := Y) hS rfl v25 (by omega) hy (fun J4 i4 hF4 hg4 ra4 st4 ob4 => by
            have hl := xt_swap_96 (d := d + 3) (n := n) (t := t) (K := K) (L := L) (R := R) (P := P) (c := c) hS hm rfl v25 (by omega) ty hb5 (fun J5 hF5 hg5 => hP J5 (mF_le hF5 (by omega)) hg5) 0 (by decide) J4 none none (by decide) v0 hF4 hg4 ra4 st4 ob4
            clear hP ho hm hF hg hF2 hg2 hr2 hso ty hb5 hy hF3 hg3 ra3 ob3 hF4 hg4 ra4 ob4
            simp only [q255_94, q255_95, as_nil, as_i, as_r, Nat.reduceAdd, Nat.reduceLeDiff, z_eq0, z_eq1, z_or, z_em, Classical.not_not, not_false_eq_true, not_true_eq_false, true_and, and_true, false_and, and_false, and_self, true_implies, false_implies, implies_true, Option.toList_some, Option.toList_none, List.cons_append, List.nil_append, Nat.add_eq_zero_iff, a_nl_i, a_nl_r, a_nl_n, true_or, or_true, eq_self, ok_4, ok_5, ok_6, ok_7, ok_9, ok_10, ok_20, ok_21, ok_24, ok_30, ok_48, ok_50, ok_60, ok_80, ok_120, ok_180, ok_192, ok_200, ok_900, ok_1000, ok_84000]
            exact hl) 0 (by decide) J2 (by decide) v0 hF3 hg3 ra3 st3 ob3
          clear hP ho hm hF hg hF2 hg2 hr2 hso ty hb5 hy hF3 hg3 ra3 ob3
          simp only [q255_68, q255_69, as_nil, as_i, as_r, Nat.reduceAdd, Nat.reduceLeDiff, z_eq0, z_eq1, z_or, z_em, Classical.not_not, not_false_eq_true, not_true_eq_false, true_and, and_true, false_and, and_false, and_self, true_implies, false_implies, implies_true, Option.toList_some, Option.toList_none, List.cons_append, List.nil_append, Nat.add_eq_zero_iff, a_nl_i, a_nl_r, a_nl_n, true_or, or_true, eq_self, ok_4, ok_5, ok_6, ok_7, ok_9, ok_10, ok_20, ok_21, ok_24, ok_30, ok_48, ok_50, ok_60, ok_80, ok_120, ok_180, ok_192, ok_200, ok_900, ok_1000, ok_84000]
          exact hl) 0 (by decide) J (by decide) v0 hF2 hg2 (fun _ _ => rfl) rfl (fun k hk => absurd hk (Nat.not_lt_zero k))
        clear hP ho hm hF hg hF2 hg2 hr2 hso ty hb5 hy
        simp only [q255_4, q255_5, q255_8, q255_18, q255_19, m_0 hS, m_K hS, as_nil, as_i, as_r, Nat.reduceAdd, Nat.reduceLeDiff, z_eq0, z_eq1, z_or, z_em, Classical.not_not, not_false_eq_true, not_true_eq_false, true_and, and_true, false_and, and_false, and_self, true_implies, false_implies, implies_true, Option.toList_some, Option.toList_none, List.cons_append, List.nil_append, Nat.add_eq_zero_iff, a_nl_i, a_nl_r, a_nl_n, true_or, or_true, eq_self, ok_4, ok_5, ok_6, ok_7, ok_9, ok_10, ok_20, ok_21, ok_24, ok_30, ok_48, ok_50, ok_60, ok_80, ok_120, ok_180, ok_192, ok_200, ok_900, ok_1000, ok_84000, c1]
        try simp only [true_and, and_true, true_implies, false_implies, implies_true, not_true_eq_false, not_false_eq_true]
        first
          | exact hl
          | grind)
  clear hP ho hm hF hg
  rw [a_enter1 (M := a_m255) rfl (a_cat_rf a_cat_nil) (show 1 ≤ 4 by decide)]
  show a_at _ (a_xm a_m255) 0 [some (a_rf M), none, none, none] [] _ _
  simp only [q255_0, q255_1, m_0 hS, m_K hS, as_nil, as_i, as_r, Nat.reduceAdd, Nat.reduceLeDiff, z_eq0, z_eq1, z_or, z_em, Classical.not_not, not_false_eq_true, not_true_eq_false, true_and, and_true, false_and, and_false, and_self, true_implies, false_implies, implies_true, Option.toList_some, Option.toList_none, List.cons_append, List.nil_append, Nat.add_eq_zero_iff, a_nl_i, a_nl_r, a_nl_n, true_or, or_true, eq_self, ok_4, ok_5, ok_6, ok_7, ok_9, ok_10, ok_20, ok_21, ok_24, ok_30, ok_48, ok_50, ok_60, ok_80, ok_120, ok_180, ok_192, ok_200, ok_900, ok_1000, ok_84000]
  try simp only [true_and, and_true, true_implies, false_implies, implies_true, not_true_eq_false, not_false_eq_true]
  first
    | exact hl
    | grind
end ZII
end
section
/-! the class: the best: places collected -/
section ZJJ
variable {d n t C c : Nat} {K L : Nat → Nat} {I I0 J J0 J1 J2 : Nat → Nat → Int32} {R : Nat → Nat → Nat} {P : Option Value → AH → Prop}
variable {Y Z W : Nat → Nat → Int32} {R' R1 R2 : Nat → Nat → Nat} {g : Nat → Int32}
/-- what collecting may change -/
def fcP (C : Nat) (I J : Nat → Nat → Int32) : Prop := ∀ x j, ¬ x = C + 9 → ¬ x = C + 10 → ¬ x = C + 29 → ¬ x = C + 30 → ¬ x = C + 31 → J x j = I x j
/-- a place that is kept, and who watches there -/
def spV (Y : Nat → Nat → Int32) (a x w : Int32) : Prop := ∃ b s : Int32, x = 8 * s + b ∧ (0 ≤ b ∧ b < Y 0 6) ∧ (0 ≤ s ∧ s ≤ 199) ∧ s + Y 10 a.toNatClampNeg ≤ 200 ∧ ∀ z : Int32, 0 ≤ z → z < Y 10 a.toNatClampNeg → ((w >>> (z &&& 31)) &&& 1 = 0 ↔ ¬ 0 ≤ wtA Y 87 a b (s + z))
def spP (C : Nat) (Y : Nat → Nat → Int32) (g : Nat → Int32) (p : Nat) (J : Nat → Nat → Int32) : Prop := ∀ i, i < p → (0 ≤ J (C + 31) i ∧ J (C + 31) i ≤ 48) ∧ ∀ k, k < (J (C + 31) i).toNatClampNeg → spV Y (g i) (J (C + 29) (48 * i + k)) (J (C + 30) (48 * i + k))
theorem fc_refl : fcP C I I := fun _ _ _ _ _ _ _ => rfl
theorem fc_C (h : fcP C I J) (h2 : dC C K L R J J2) : fcP C I J2 := fun x j a b c d e => (h2.2 x j a b).trans (h x j a b c d e)
theorem fc_ui (h : fcP C I J) {k q : Nat} {v : Int32} (hk : k = 29 ∨ k = 30 ∨ k = 31) : fcP C I (a_ui J (C + k) q v) := fun x j a b c d e => by
  rw [ui_ap, if_neg (by omega)]
  exact h x j a b c d e
theorem fc_cp (hT : cT C K L I R) (hc : cpP C K L I R Y) (h : fcP C I J) : cpP C K L J R Y := cp_fr hT hc (fun k j hk => h _ _ (by omega) (by omega) (by omega) (by omega) (by omega)) (fun x j kx => by
  have := (hT.g_ask x kx).1
  exact h _ _ (by omega) (by omega) (by omega) (by omega) (by omega)) (fun x j kx _ => by
  have := (hT.g_bnc x kx).1
  exact h _ _ (by omega) (by omega) (by omega) (by omega) (by omega)) (fun x j kx => by
  have := (hT.g_txt x kx).1
  exact h _ _ (by omega) (by omega) (by omega) (by omega) (by omega)) (fun k k0 k1 j => by
  have := (hT.g_txt _ (hc.2.2.2.1.2 k k0 k1).1).2.1
  exact h _ _ (by omega) (by omega) (by omega) (by omega) (by omega)) (fun b b0 b1 j => by
  obtain ⟨-, ⟨w1, -⟩, ⟨s1, -⟩, -⟩ := hT.g_bnc _ (hc.2.1.2.2.1 b b0 b1).1
  exact ⟨h _ _ (by omega) (by omega) (by omega) (by omega) (by omega), h _ _ (by omega) (by omega) (by omega) (by omega) (by omega)⟩)
theorem sp_C {p : Nat} (h : spP C Y g p J) (h2 : dC C K L R J J2) : spP C Y g p J2 := fun i hi => by
  have e : ∀ k j, (k = 29 ∨ k = 30 ∨ k = 31) → J2 (C + k) j = J (C + k) j := fun k j hk => h2.2 _ _ (by omega) (by omega)
  rw [e 31 _ (by omega)]
  refine ⟨(h i hi).1, fun k hk => ?_⟩
  rw [e 29 _ (by omega), e 30 _ (by omega)]
  exact (h i hi).2 k hk
theorem ix_192 {i c : Int32} (h : 0 ≤ i ∧ i < 4) (hc : 0 ≤ c ∧ c < 48) : (i * 48 + c).toNatClampNeg = 48 * i.toNatClampNeg + c.toNatClampNeg := by
  have c0 : (0 : Int32).toInt = 0 := rfl
  have c4 : (4 : Int32).toInt = 4 := rfl
  have c48 : (48 : Int32).toInt = 48 := rfl
  have e0 := Int32.le_iff_toInt_le.mp h.1
  have e1 := Int32.lt_iff_toInt_lt.mp h.2
  have e2 := Int32.le_iff_toInt_le.mp hc.1
  have e3 := Int32.lt_iff_toInt_lt.mp hc.2
  have em : (i * 48).toInt = i.toInt * 48 := by
    rw [Int32.toInt_mul, c48]
    simp only [Int.bmod_def]
    omega
  have e : (i * 48 + c).toInt = i.toInt * 48 + c.toInt := by rw [ti_add (by omega), em]
  have t1 : ∀ x : Int32, 0 ≤ x.toInt → (x.toNatClampNeg : Int) = x.toInt := fun x hx => by
    show ((x.toInt.toNat : Nat) : Int) = _
    omega
  have f0 := t1 i (by omega)
  have f1 := t1 c (by omega)
  have f2 := t1 (i * 48 + c) (by omega)
  omega
/-- one more place -/
theorem sp_put {i v w : Int32} (hi : 0 ≤ i ∧ i < 4) (h : spP C Y g (i.toNatClampNeg + 1) J) (hm : J (C + 31) i.toNatClampNeg < 48) (hv : spV Y (g i.toNatClampNeg) v w) : spP C Y g (i.toNatClampNeg + 1) (a_ui (a_ui (a_ui J (C + 29) (i * 48 + J (C + 31) i.toNatClampNeg).toNatClampNeg v) (C + 30) (i * 48 + J (C + 31) i.toNatClampNeg).toNatClampNeg w) (C + 31) i.toNatClampNeg (J (C + 31) i.toNatClampNeg + 1)) := by
  have h0 := (h i.toNatClampNeg (by omega)).1.1
  have ex := ix_192 hi ⟨h0, hm⟩
  obtain ⟨t1, t2, t3, t4⟩ := lp_st h0 hm
  have cn : (J (C + 31) i.toNatClampNeg).toNatClampNeg < 48 := cl_lt h0 hm
  intro q hq
  obtain ⟨⟨r0, r1⟩, r2⟩ := h q hq
  have r48 : (J (C + 31) q).toNatClampNeg < 49 := cl_lt (j := 49) r0 (Int32.lt_of_le_of_lt r1 (by decide))
  have A29 : ∀ y, (a_ui (a_ui (a_ui J (C + 29) (i * 48 + J (C + 31) i.toNatClampNeg).toNatClampNeg v) (C + 30) (i * 48 + J (C + 31) i.toNatClampNeg).toNatClampNeg w) (C + 31) i.toNatClampNeg (J (C + 31) i.toNatClampNeg + 1)) (C + 29) y = if y = 48 * i.toNatClampNeg + (J (C + 31) i.toNatClampNeg).toNatClampNeg then v else J (C + 29) y := fun y => by
    rw [ui_ap, if_neg (by omega), ui_ap, if_neg (by omega), ui_ap, ex]
    by_cases e : y = 48 * i.toNatClampNeg + (J (C + 31) i.toNatClampNeg).toNatClampNeg
    · rw [if_pos ⟨rfl, e⟩, if_pos e]
    · rw [if_neg (fun r => e r.2), if_neg e]
  have A30 : ∀ y, (a_ui (a_ui (a_ui J (C + 29) (i * 48 + J (C + 31) i.toNatClampNeg).toNatClampNeg v) (C + 30) (i * 48 + J (C + 31) i.toNatClampNeg).toNatClampNeg w) (C + 31) i.toNatClampNeg (J (C + 31) i.toNatClampNeg + 1)) (C + 30) y = if y = 48 * i.toNatClampNeg + (J (C + 31) i.toNatClampNeg).toNatClampNeg then w else J (C + 30) y := fun y => by
    rw [ui_ap, if_neg (by omega), ui_ap, ex]
    by_cases e : y = 48 * i.toNatClampNeg + (J (C + 31) i.toNatClampNeg).toNatClampNeg
    · rw [if_pos ⟨rfl, e⟩, if_pos e]
    · rw [if_neg (fun r => e r.2), if_neg e, ui_ap, if_neg (by omega)]
  by_cases e : q = i.toNatClampNeg
  · subst e
    rw [ui_ap, if_pos ⟨rfl, rfl⟩]
    refine ⟨⟨t2, t3⟩, fun k hk => ?_⟩
    rw [t4] at hk
    rw [A29, A30]
    by_cases e2 : k = (J (C + 31) i.toNatClampNeg).toNatClampNeg
    · rw [if_pos (by omega), if_pos (by omega)]
      exact hv
    · rw [if_neg (by omega), if_neg (by omega)]
      exact r2 k (by omega)
  · rw [ui_ap, if_neg (fun r => e r.2), ui_ap, if_neg (by omega), ui_ap, if_neg (by omega)]
    refine ⟨⟨r0, r1⟩, fun k hk => ?_⟩
    rw [A29, A30, if_neg (by omega), if_neg (by omega)]
    exact r2 k hk
theorem le_collectIn_10 (hT0 : cT C K L I R) (hc : cpP C K L I R Y) {i s : Int32} (hi : 0 ≤ i ∧ i < 4) (ai : 0 ≤ g i.toNatClampNeg ∧ g i.toNatClampNeg < Y 0 17) (er : R (C + 28) i.toNatClampNeg = R (C + 15) (g i.toNatClampNeg).toNatClampNeg) (hs : 0 ≤ s ∧ s ≤ 199) (hsl : s + Y 10 (g i.toNatClampNeg).toNatClampNeg ≤ 200) (hP : ∀ J, cT C K L J R → fcP C I J → spP C Y g (i.toNatClampNeg + 1) J → P none (n, t, K, L, J, R)) : ∀ b : Int32, b ≤ 6 → ∀ J u w, 0 ≤ b → b ≤ Y 0 6 → cT C K L J R → fcP C I J → spP C Y g (i.toNatClampNeg + 1) J → a_at (d + 6) (a_xm a_m134) 10 [some (a_rf (C + 27)), some (.int i), some (.int s), some (a_rf (R (C + 15) (g i.toNatClampNeg).toNatClampNeg)), some (.int b), u, w] [] (n, t, K, L, J, R) P := by
  have y6 := hc.2.2.2.2.2.2.2.2.2.1
  refine up_ind 6 (fun b hk ih => ?_)
  intro J u w q0 q1 hT hf sp
  have hS := hT.s
  have hcJ := fc_cp hT0 hc hf
  have e5 : J (C + 14) 5 = Y 0 6 := hcJ.2.1.1
  have apJ := aa_of hcJ ai.1 ai.2
  obtain ⟨-, ⟨ha, an0, -⟩, -⟩ := id apJ
  rw [q134_10]
  by_cases ci : b < Y 0 6
  · obtain ⟨t1, t2, t3, t4⟩ := lp_st q0 ci
    have hb6 : b < 6 := Int32.lt_of_lt_of_le ci y6.2
    have c' : ¬ Y 0 6 ≤ b := Int32.not_le.mpr ci
    have hnext : ∀ J u w, cT C K L J R → fcP C I J → spP C Y g (i.toNatClampNeg + 1) J → a_at (d + 6) (a_xm a_m134) 125 [some (a_rf (C + 27)), some (.int i), some (.int s), some (a_rf (R (C + 15) (g i.toNatClampNeg).toNatClampNeg)), some (.int b), u, w] [] (n, t, K, L, J, R) P := fun J u w hT hf sp => by
      have hS := hT.s
      have hg := ih hb6 J u w t2 t3 hT hf sp
      clear ih hP hc hcJ
      simp only [q134_125, q134_128, as_nil, as_i, as_r, Nat.reduceAdd, Nat.reduceLeDiff, z_eq0, z_eq1, z_or, z_em, Classical.not_not, not_false_eq_true, not_true_eq_false, true_and, and_true, false_and, and_false, and_self, true_implies, false_implies, implies_true, Option.toList_some, Option.toList_none, List.cons_append, List.nil_append, Nat.add_eq_zero_iff, a_nl_i, a_nl_r, a_nl_n, true_or, or_true, eq_self, a_isRA_22, a_isRA_24, a_isRA_32, a_isA_20, ok_4, ok_5, ok_6, ok_7, ok_9, ok_20, ok_21, ok_30, ok_50, ok_180, ok_192, ok_200]
      exact hg
    have hcall := ce_suits (d := d + 2) (n := n) (t := t) hT hcJ apJ ⟨q0, ci⟩ hs (P := fun r' h' => a_at (d + 6) (a_xm a_m134) 33 [some (a_rf (C + 27)), some (.int i), some (.int s), some (a_rf (R (C + 15) (g i.toNatClampNeg).toNatClampNeg)), some (.int b), u, w] (r'.toList ++ []) h' P) (fun J1 j1 => by
      have hT1 := j1.1
      have hS1 := hT1.s
      have hf1 := fc_C hf j1
      have sp1 := sp_C sp j1
      have hc1 := cpP_C hT hcJ j1
      have ap1 := aaP_C hT apJ j1
      have hsame := hnext J1 u w hT1 hf1 sp1
      by_cases c1 : suB Y (g i.toNatClampNeg) b s = true
      · rw [if_pos c1]
        by_cases c2 : J1 (C + 31) i.toNatClampNeg < 48
        · have g31 := (sp1 i.toNatClampNeg (by omega)).1
          have hx := ix48 hi (c := J1 (C + 31) i.toNatClampNeg) ⟨g31.1, c2⟩
          have hw := ce_watchOf (d := d + 1) (n := n) (t := t) hT1 hc1 ap1 (b := b) hs hsl (P := fun r' h' => a_at (d + 6) (a_xm a_m134) 61 [some (a_rf (C + 27)), some (.int i), some (.int s), some (a_rf (R (C + 15) (g i.toNatClampNeg).toNatClampNeg)), some (.int b), u, w] (r'.toList ++ []) h' P) (fun v J2 j2 hv => by
            have hT2 := j2.1
            have hS2 := hT2.s
            have hf2 := fc_C hf1 j2
            have sp2 := sp_C sp1 j2
            have hc2 := cpP_C hT1 hc1 j2
            have ap2 := aaP_C hT1 ap1 j2
            have e31 : J2 (C + 31) i.toNatClampNeg = J1 (C + 31) i.toNatClampNeg := j2.2 _ _ (by omega) (by omega)
            simp only [q134_61, q134_63, q134_64, q134_67, q134_68, q134_70, q134_71, q134_73, k_27 hS, z_27, r_27_0 hS, k_14 hS, z_14, as_nil, as_i, as_r, Nat.reduceAdd, Nat.reduceLeDiff, z_eq0, z_eq1, z_or, z_em, Classical.not_not, not_false_eq_true, not_true_eq_false, true_and, and_true, false_and, and_false, and_self, true_implies, false_implies, implies_true, Option.toList_some, Option.toList_none, List.cons_append, List.nil_append, Nat.add_eq_zero_iff, a_nl_i, a_nl_r, a_nl_n, true_or, or_true, eq_self, a_isRA_22, a_isRA_24, a_isRA_32, a_isA_20, ok_4, ok_5, ok_6, ok_7, ok_9, ok_20, ok_21, ok_30, ok_50, ok_180, ok_192, ok_200, ha, an0]
            try simp only [true_and, and_true, true_implies, false_implies, implies_true, not_true_eq_false, not_false_eq_true]
            refine ce_isOpen (d := d + 2) hT2 hc2 ap2 ⟨q0, ci⟩ hs ?_
            by_cases c3 : opB Y (g i.toNatClampNeg) b s v = true
            · rw [if_pos c3]
              have hg := hnext _ (some (.int v)) (some (.int (i * 48 + J1 (C + 31) i.toNatClampNeg))) (sT_Best_spotCounts (sT_Best_watches (sT_Best_spots hT2 (k := (i * 48 + J2 (C + 31) i.toNatClampNeg).toNatClampNeg) (v := 8 * s + b)) (k := (i * 48 + J2 (C + 31) i.toNatClampNeg).toNatClampNeg) (v := v)) (k := i.toNatClampNeg) (v := J2 (C + 31) i.toNatClampNeg + 1) (by rw [e31]; clear ih hP hc hcJ hc1 ap1 hc2 ap2 apJ hnext hsame sp sp1 sp2 hf hf1 hf2; grind)) (fc_ui (fc_ui (fc_ui hf2 (by omega)) (by omega)) (by omega)) (sp_put hi sp2 (by rw [e31]; exact c2) ⟨b, s, rfl, ⟨q0, ci⟩, hs, hsl, hv⟩)
              rw [e31] at hg
              clear ih hP hc hcJ hc1 ap1 hc2 ap2 apJ hnext hsame sp sp1 sp2 hf hf1 hf2
              simp only [q134_76, q134_79, q134_80, q134_82, q134_83, q134_84, q134_87, q134_88, q134_89, q134_90, q134_92, q134_93, q134_96, q134_98, q134_100, q134_101, q134_102, q134_104, q134_105, q134_106, q134_107, q134_110, q134_112, q134_114, q134_115, q134_116, q134_119, q134_120, q134_121, q134_122, q134_123, q134_124, k_27 hS, z_27, r_27_4 hS, k_31 hS, l_31 hS, z_31, r_27_2 hS, k_29 hS, l_29 hS, z_29, r_27_3 hS, k_30 hS, l_30 hS, z_30, as_nil, as_i, as_r, Nat.reduceAdd, Nat.reduceLeDiff, z_eq0, z_eq1, z_or, z_em, Classical.not_not, not_false_eq_true, not_true_eq_false, true_and, and_true, false_and, and_false, and_self, true_implies, false_implies, implies_true, Option.toList_some, Option.toList_none, List.cons_append, List.nil_append, Nat.add_eq_zero_iff, a_nl_i, a_nl_r, a_nl_n, true_or, or_true, eq_self, a_isRA_22, a_isRA_24, a_isRA_32, a_isA_20, ok_4, ok_5, ok_6, ok_7, ok_9, ok_20, ok_21, ok_30, ok_50, ok_180, ok_192, ok_200, ui_ap, cc_ne, cc_n0, cc_0n, Nat.reduceEqDiff, reduceIte, if_true, if_false, e31]
              try simp only [true_and, and_true, true_implies, false_implies, implies_true, not_true_eq_false, not_false_eq_true]
              repeat' first
                | with_reducible apply And.intro
                | with_reducible intro _
                | exact hi.1
                | exact hi.2
                | exact hx.1
                | exact hx.2
                | exact hg
                | (exfalso; rename_i h9; exact h9 (by decide))
                | (exfalso; rename_i h9; exact absurd h9 (by decide))
            · rw [if_neg c3]
              have hg := hnext J2 (some (.int v)) w hT2 hf2 sp2
              clear ih hP hc hcJ hc1 ap1 hc2 ap2 apJ hnext hsame sp sp1 sp2 hf hf1 hf2
              simp only [q134_76, as_nil, as_i, as_r, Nat.reduceAdd, Nat.reduceLeDiff, z_eq0, z_eq1, z_or, z_em, Classical.not_not, not_false_eq_true, not_true_eq_false, true_and, and_true, false_and, and_false, and_self, true_implies, false_implies, implies_true, Option.toList_some, Option.toList_none, List.cons_append, List.nil_append, Nat.add_eq_zero_iff, a_nl_i, a_nl_r, a_nl_n, true_or, or_true, eq_self, a_isRA_22, a_isRA_24, a_isRA_32, a_isA_20, ok_4, ok_5, ok_6, ok_7, ok_9, ok_20, ok_21, ok_30, ok_50, ok_180, ok_192, ok_200]
              try simp only [true_and, and_true, true_implies, false_implies, implies_true, not_true_eq_false, not_false_eq_true]
              first
                | exact hg
                | grind)
          have c2' : ¬ 48 ≤ J1 (C + 31) i.toNatClampNeg := Int32.not_le.mpr c2
          clear ih hP hc hcJ hc1 ap1 apJ hnext hsame sp sp1 hf hf1
          simp only [q134_33, q134_36, q134_37, q134_40, q134_41, q134_42, q134_44, q134_47, q134_50, q134_51, q134_54, q134_55, q134_57, q134_58, k_27 hS, z_27, r_27_4 hS, k_31 hS, l_31 hS, z_31, r_27_0 hS, k_14 hS, z_14, as_nil, as_i, as_r, Nat.reduceAdd, Nat.reduceLeDiff, z_eq0, z_eq1, z_or, z_em, Classical.not_not, not_false_eq_true, not_true_eq_false, true_and, and_true, false_and, and_false, and_self, true_implies, false_implies, implies_true, Option.toList_some, Option.toList_none, List.cons_append, List.nil_append, Nat.add_eq_zero_iff, a_nl_i, a_nl_r, a_nl_n, true_or, or_true, eq_self, a_isRA_22, a_isRA_24, a_isRA_32, a_isA_20, ok_4, ok_5, ok_6, ok_7, ok_9, ok_20, ok_21, ok_30, ok_50, ok_180, ok_192, ok_200, ha, an0, c2', c2, hi]
          try simp only [true_and, and_true, true_implies, false_implies, implies_true, not_true_eq_false, not_false_eq_true]
          first
            | exact hw
            | exact ⟨hi, hw⟩
            | grind
        · have c2' : 48 ≤ J1 (C + 31) i.toNatClampNeg := Int32.not_lt.mp c2
          clear ih hP hc hcJ hc1 ap1 apJ hnext sp sp1 hf hf1
          simp only [q134_33, q134_36, q134_37, q134_40, q134_41, q134_42, q134_44, q134_47, k_27 hS, z_27, r_27_4 hS, k_31 hS, l_31 hS, z_31, as_nil, as_i, as_r, Nat.reduceAdd, Nat.reduceLeDiff, z_eq0, z_eq1, z_or, z_em, Classical.not_not, not_false_eq_true, not_true_eq_false, true_and, and_true, false_and, and_false, and_self, true_implies, false_implies, implies_true, Option.toList_some, Option.toList_none, List.cons_append, List.nil_append, Nat.add_eq_zero_iff, a_nl_i, a_nl_r, a_nl_n, true_or, or_true, eq_self, a_isRA_22, a_isRA_24, a_isRA_32, a_isA_20, ok_4, ok_5, ok_6, ok_7, ok_9, ok_20, ok_21, ok_30, ok_50, ok_180, ok_192, ok_200, c2', c2, hi]
          try simp only [true_and, and_true, true_implies, false_implies, implies_true, not_true_eq_false, not_false_eq_true]
          first
            | exact hsame
            | grind
      · rw [if_neg c1]
        clear ih hP hc hcJ hc1 ap1 apJ hnext sp sp1 hf hf1
        simp only [q134_33, as_nil, as_i, as_r, Nat.reduceAdd, Nat.reduceLeDiff, z_eq0, z_eq1, z_or, z_em, Classical.not_not, not_false_eq_true, not_true_eq_false, true_and, and_true, false_and, and_false, and_self, true_implies, false_implies, implies_true, Option.toList_some, Option.toList_none, List.cons_append, List.nil_append, Nat.add_eq_zero_iff, a_nl_i, a_nl_r, a_nl_n, true_or, or_true, eq_self, a_isRA_22, a_isRA_24, a_isRA_32, a_isA_20, ok_4, ok_5, ok_6, ok_7, ok_9, ok_20, ok_21, ok_30, ok_50, ok_180, ok_192, ok_200]
        try simp only [true_and, and_true, true_implies, false_implies, implies_true, not_true_eq_false, not_false_eq_true]
        first
          | exact hsame
          | grind)
    clear ih hP hc hcJ apJ hnext sp hf
    simp only [q134_12, q134_13, q134_16, q134_19, q134_22, q134_23, q134_26, q134_27, q134_29, q134_30, k_27 hS, z_27, r_27_0 hS, k_14 hS, z_14, as_nil, as_i, as_r, Nat.reduceAdd, Nat.reduceLeDiff, z_eq0, z_eq1, z_or, z_em, Classical.not_not, not_false_eq_true, not_true_eq_false, true_and, and_true, false_and, and_false, and_self, true_implies, false_implies, implies_true, Option.toList_some, Option.toList_none, List.cons_append, List.nil_append, Nat.add_eq_zero_iff, a_nl_i, a_nl_r, a_nl_n, true_or, or_true, eq_self, a_isRA_22, a_isRA_24, a_isRA_32, a_isA_20, ok_4, ok_5, ok_6, ok_7, ok_9, ok_20, ok_21, ok_30, ok_50, ok_180, ok_192, ok_200, e5, c', ha, an0]
    try simp only [true_and, and_true, true_implies, false_implies, implies_true, not_true_eq_false, not_false_eq_true]
    first
      | exact hcall
      | grind
  · have hp := hP J hT hf sp
    have c' : Y 0 6 ≤ b := Int32.not_lt.mp ci
    clear ih hP hc hcJ apJ sp hf
    simp only [q134_12, q134_13, q134_16, q134_19, q134_131, k_27 hS, z_27, r_27_0 hS, k_14 hS, z_14, as_nil, as_i, as_r, Nat.reduceAdd, Nat.reduceLeDiff, z_eq0, z_eq1, z_or, z_em, Classical.not_not, not_false_eq_true, not_true_eq_false, true_and, and_true, false_and, and_false, and_self, true_implies, false_implies, implies_true, Option.toList_some, Option.toList_none, List.cons_append, List.nil_append, Nat.add_eq_zero_iff, a_nl_i, a_nl_r, a_nl_n, true_or, or_true, eq_self, a_isRA_22, a_isRA_24, a_isRA_32, a_isA_20, ok_4, ok_5, ok_6, ok_7, ok_9, ok_20, ok_21, ok_30, ok_50, ok_180, ok_192, ok_200, e5, c']
    try simp only [true_and, and_true, true_implies, false_implies, implies_true, not_true_eq_false, not_false_eq_true]
    first
      | exact hp
      | grind
theorem ce_collectIn (hT0 : cT C K L I R) (hc : cpP C K L I R Y) {i s : Int32} (hi : 0 ≤ i ∧ i < 4) (ai : 0 ≤ g i.toNatClampNeg ∧ g i.toNatClampNeg < Y 0 17) (er : R (C + 28) i.toNatClampNeg = R (C + 15) (g i.toNatClampNeg).toNatClampNeg) (hs : 0 ≤ s ∧ s ≤ 199) (hsl : s + Y 10 (g i.toNatClampNeg).toNatClampNeg ≤ 200) (hT : cT C K L J R) (hf : fcP C I J) (sp : spP C Y g (i.toNatClampNeg + 1) J) (hP : ∀ J, cT C K L J R → fcP C I J → spP C Y g (i.toNatClampNeg + 1) J → P none (n, t, K, L, J, R)) : a_does (d + 7) 134 [a_rf (C + 27), .int i, .int s] (n, t, K, L, J, R) P := by
  have hS := hT.s
  have hl := le_collectIn_10 (d := d) (n := n) (t := t) (P := P) hT0 hc hi ai er hs hsl hP 0 (by decide) J none none (by decide) hc.2.2.2.2.2.2.2.2.2.1.1 hT hf sp
  clear hP hc sp hf
  rw [a_enter1 (M := a_m134) rfl (a_cat_rf (a_cat_int (a_cat_int a_cat_nil))) (show 3 ≤ 7 by decide)]
  show a_at _ (a_xm a_m134) 0 [some (a_rf (C + 27)), some (.int i), some (.int s), none, none, none, none] [] _ _
  simp only [q134_0, q134_1, q134_4, q134_5, q134_6, q134_7, q134_8, k_27 hS, z_27, r_27_1 hS, k_28 hS, l_28 hS, z_28, as_nil, as_i, as_r, Nat.reduceAdd, Nat.reduceLeDiff, z_eq0, z_eq1, z_or, z_em, Classical.not_not, not_false_eq_true, not_true_eq_false, true_and, and_true, false_and, and_false, and_self, true_implies, false_implies, implies_true, Option.toList_some, Option.toList_none, List.cons_append, List.nil_append, Nat.add_eq_zero_iff, a_nl_i, a_nl_r, a_nl_n, true_or, or_true, eq_self, a_isRA_22, a_isRA_24, a_isRA_32, a_isA_20, ok_4, ok_5, ok_6, ok_7, ok_9, ok_20, ok_21, ok_30, ok_50, ok_180, ok_192, ok_200, er]
  try simp only [true_and, and_true, true_implies, false_implies, implies_true, not_true_eq_false, not_false_eq_true]
  first
    | exact ⟨hi, hl⟩
    | exact hl
    | grind
end ZJJ
end

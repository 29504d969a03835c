/-! the class: swap, whole -/
section ZBB
variable {d n t C c : Nat} {K L : Nat → Nat} {I I0 J J0 J1 J2 : Nat → Nat → Int32} {R : Nat → Nat → Nat} {P : Option Value → AH → Prop}
variable {Y Z W : Nat → Nat → Int32} {R' R1 R2 : Nat → Nat → Nat} {K' L' : Nat → Nat} {m : Nat} {g : Nat → Int32}
theorem dQ_l {m : Nat} (h : dL C K L R I J) : dQ C m K L I R m K L J R := ⟨Nat.le_refl _, fun _ _ => rfl, fun _ _ => rfl, fun _ _ _ _ => rfl, fun x j _ n1 n2 n3 => h.2 x j n1 n2 (fun q => n3 ⟨q.1, q.2.imp id Or.inl⟩)⟩
/-- tuples by the words alone -/
def tyP (Y : Nat → Nat → Int32) (m : Nat) (g : Nat → Int32) : Prop := (∀ k, k < m → (0 ≤ g k ∧ g k < Y 0 17) ∧ 0 ≤ Y 20 (g k).toNatClampNeg) ∧ (∀ k j, k < m → j < m → (g k).toNatClampNeg = (g j).toNatClampNeg → k = j) ∧ ∀ k, k < m → Y 10 (g k).toNatClampNeg = (Y 10 (g 0).toNatClampNeg)
theorem rg_ty (r : rgA Y m g) : tyP Y m g := by
  refine ⟨fun k hk => ⟨(r.1.1 k hk).1, (r.1.1 k hk).2.1⟩, fun k j hk hj e => ?_, fun k hk => ?_⟩
  · rcases Nat.lt_trichotomy k j with w | w | w
    · exact absurd (by rw [e]) (r.1.2.2.1 k j w hj)
    · exact w
    · exact absurd (by rw [e]) (r.1.2.2.1 j k w hk)
  · by_cases c : k = 0
    · rw [c]
    · have := (r.1.2.1 (k - 1) (by omega)).2.2
      rw [show k - 1 + 1 = k by omega] at this
      exact this
theorem le_swap_35 {z : Int32} (ez : z.toNatClampNeg = m) (hz : 1 ≤ z ∧ z ≤ 5) (tp : tyP Y m g) (hr : ∀ k, k < m → rgF Y m g k) (yl : ∀ k, k < m → (0 ≤ Y 20 (g k).toNatClampNeg ∧ Y 20 (g k).toNatClampNeg < Y 0 6) ∧ (0 ≤ (Y 21 (g k).toNatClampNeg) ∧ (Y 21 (g k).toNatClampNeg) ≤ 199) ∧ (Y 21 (g k).toNatClampNeg) + (Y 10 (g 0).toNatClampNeg) ≤ 200) (hno : noP Y) (hP : ∀ J, cH C c (n + 1) t K L J R1 → cuP C K L J R1 (swS g m Y m) → P (some (.int z)) (n + 1, t, K, L, J, R1)) : ∀ i : Int32, i ≤ 5 → ∀ J w, 0 ≤ i → i ≤ z → cH C c (n + 1) t K L J R1 → cuP C K L J R1 (swS g m Y i.toNatClampNeg) → (∀ k, k < m → (J (C + 39) k = Y 20 (g k).toNatClampNeg ∧ J (C + 40) k = (Y 21 (g k).toNatClampNeg)) ∧ R1 (C + 38) k = R1 (C + 15) (g k).toNatClampNeg) → J (C + 35) 7 = z → a_at (d + 7) (a_xm a_m159) 35 [some (a_rf (C + 35)), some (.int i), w] [] (n + 1, t, K, L, J, R1) P := by
  refine up_ind 5 (fun i hk ih => ?_)
  intro J w q0 q1 hH hu kv e7
  have hT := hH.1
  have hS := hT.s
  have hz0 : ¬ z = 0 := by clear hP ih; grind
  rw [q159_35]
  by_cases c : z ≤ i
  · have e : i = z := by clear hP ih; grind
    have hp := hP J hH (by rw [e, ez] at hu; exact hu)
    clear hP ih hu
    simp only [q159_36, q159_37, q159_40, q159_98, q159_99, q159_102, k_35 hS, z_35, as_nil, as_i, as_r, Nat.reduceAdd, Nat.reduceLeDiff, z_eq0, z_eq1, z_or, z_em, Classical.not_not, not_false_eq_true, not_true_eq_false, true_and, and_true, false_and, and_false, and_self, true_implies, false_implies, implies_true, Option.toList_some, Option.toList_none, List.cons_append, List.nil_append, Nat.add_eq_zero_iff, a_nl_i, a_nl_r, a_nl_n, true_or, or_true, eq_self, a_isRA_22, a_isRA_24, a_isRA_32, a_isA_20, ok_4, ok_5, ok_6, ok_7, ok_9, ok_20, ok_21, ok_30, ok_50, ok_180, ok_192, ok_200, e7]
    try simp only [true_and, and_true, true_implies, false_implies, implies_true, not_true_eq_false, not_false_eq_true]
    first
      | exact ⟨fun _ => hp, fun h => absurd c h⟩
      | exact hp
      | grind
  · have h1 := Int32.not_le.mp c
    have hi : 0 ≤ i ∧ i < 5 := ⟨q0, Int32.lt_of_lt_of_le h1 hz.2⟩
    have him : i.toNatClampNeg < m := by rw [← ez]; exact cl_lt q0 h1
    have hnm := nxN_lt (m := m) him
    have hx := nxt_lt hz.2 q0 h1
    have hx5 : 0 ≤ nxt z i ∧ nxt z i < 5 := ⟨hx.1, Int32.lt_of_lt_of_le hx.2 hz.2⟩
    have exn : (nxt z i).toNatClampNeg = (nxN m i.toNatClampNeg) := by rw [nxt_nx hz.2 q0 h1, ez]
    obtain ⟨t1, t2, t3, t4⟩ := lp_st q0 h1
    obtain ⟨⟨pb, pb6⟩, ps, psl⟩ := yl _ hnm
    obtain ⟨⟨a0, a1⟩, -⟩ := tp.1 _ him
    obtain ⟨⟨v39, v40⟩, -⟩ := kv _ hnm
    have er := (kv _ him).2
    have e10 := tp.2.2 _ him
    have r20 : (swS g m Y i.toNatClampNeg) 20 = (rgP g m Y (rgU g Y m) i.toNatClampNeg) 20 := sw_row (by decide) _
    have r21 : (swS g m Y i.toNatClampNeg) 21 = (rgP g m Y (rgU g Y m) i.toNatClampNeg) 21 := sw_row (by decide) _
    have r10 : (swS g m Y i.toNatClampNeg) 10 = (rgP g m Y (rgU g Y m) i.toNatClampNeg) 10 := sw_row (by decide) _
    have r14 : (swS g m Y i.toNatClampNeg) 14 = (rgP g m Y (rgU g Y m) i.toNatClampNeg) 14 := sw_row (by decide) _
    have r0 : (swS g m Y i.toNatClampNeg) 0 = (rgP g m Y (rgU g Y m) i.toNatClampNeg) 0 := sw_row (by decide) _
    have sW : ssE Y (rgP g m Y (rgU g Y m) i.toNatClampNeg) := ss_tr (rgU_s m) (rgP_s _)
    have e17 : (swS g m Y i.toNatClampNeg) 0 17 = Y 0 17 := by rw [r0]; exact sW 0 17 (by unfold ss ps1; omega)
    have e06 : (swS g m Y i.toNatClampNeg) 0 6 = Y 0 6 := by rw [r0]; exact sW 0 6 (by unfold ss ps1; omega)
    have o10 : (swS g m Y i.toNatClampNeg) 10 = Y 10 := by rw [r10]; exact rg_10 _
    have un : ¬ 0 ≤ (swS g m Y i.toNatClampNeg) 20 (g i.toNatClampNeg).toNatClampNeg := by
      rw [r20, rgP_o (g := g) (by decide) i.toNatClampNeg (fun k hk e => by have := tp.2.1 _ _ him (by omega) e; omega), rgU_at (g := g) (Or.inl rfl) m i.toNatClampNeg him]
      decide
    have hc := hu.1
    have ag : 0 ≤ g i.toNatClampNeg ∧ g i.toNatClampNeg < (swS g m Y i.toNatClampNeg) 0 17 := ⟨a0, by rw [e17]; exact a1⟩
    have ap := aa_of hc (i := g i.toNatClampNeg) ag.1 ag.2
    have hb : 0 ≤ (Y 20 (g (nxN m i.toNatClampNeg)).toNatClampNeg) ∧ (Y 20 (g (nxN m i.toNatClampNeg)).toNatClampNeg) < (swS g m Y i.toNatClampNeg) 0 6 := by rw [e06]; exact ⟨pb, pb6⟩
    have hsl : (Y 21 (g (nxN m i.toNatClampNeg)).toNatClampNeg) + (swS g m Y i.toNatClampNeg) 10 (g i.toNatClampNeg).toNatClampNeg ≤ 200 := by rw [o10, e10]; exact psl
    have l4 := hc.2.2.2.2.2.1 (g i.toNatClampNeg).toNatClampNeg
    obtain ⟨-, ⟨ha, an0, -⟩, -⟩ := id ap
    have hx96 := (hT.g_ask _ ha).1
    have x39 : J (C + 39) (nxt z i).toNatClampNeg = (Y 20 (g (nxN m i.toNatClampNeg)).toNatClampNeg) := by rw [exn]; exact v39
    have x40 : J (C + 40) (nxt z i).toNatClampNeg = (Y 21 (g (nxN m i.toNatClampNeg)).toNatClampNeg) := by rw [exn]; exact v40
    have fr : ∀ y : Int32, 0 ≤ y → y < (swS g m Y i.toNatClampNeg) 10 (g i.toNatClampNeg).toNatClampNeg → whC C J R1 (Y 20 (g (nxN m i.toNatClampNeg)).toNatClampNeg) ((Y 21 (g (nxN m i.toNatClampNeg)).toNatClampNeg) + y).toNatClampNeg = -9 := fun y y0 y1 => by
      have hsz := (sh_lt (i := y) ⟨ps.1, Int32.le_trans ps.2 (by decide)⟩ l4 hsl ⟨y0, Int32.le_of_lt y1⟩).1 y1
      refine hg_free hc ag hb hsz.1 un ?_
      have hf := (br_fx (ft_br (hr _ him) y0 (by rw [← r10]; exact y1))).2
      rw [hgI_r (Y := (rgP g m Y (rgU g Y m) i.toNatClampNeg)) (fun q hq => by rcases hq with h | h | h | h <;> subst h <;> assumption), r0]
      exact hf
    have hcall := ce_place (d := d + 1) (n := n + 1) (t := t) hT hc hu.2.1 ap rfl hb ps hsl un fr (P := fun r' h' => a_at (d + 7) (a_xm a_m159) 77 [some (a_rf (C + 35)), some (.int i), some (.int (nxt z i))] (r'.toList ++ []) h' P) (fun J2 j2 c2 z2 => by
      have hH2 := cH_J hH j2.1
      have hS2 := j2.1.s
      have hu2 := cu_Q hH hu (dQ_l j2) c2 hu.2.1 ss_pu ag z2 (no_pu hb.1 hu.2.2.2.1)
      have hu3 := cu_clW hH2 hu2 (a := g i.toNatClampNeg) ag
      have hH3 := cH_J hH2 (sT_Circle_wishes (k := (g i.toNatClampNeg).toNatClampNeg) (v := 0) j2.1)
      have f4 : J2 (R1 (C + 15) (g i.toNatClampNeg).toNatClampNeg) 4 = g i.toNatClampNeg := (aa_of c2 (i := g i.toNatClampNeg) ag.1 ag.2).2.1.2.2
      have fC : ∀ k, k ≤ 43 → ¬ k = 9 ∧ ¬ k = 10 ∧ ¬ k = 36 → ∀ j, a_ui J2 (C + 36) (g i.toNatClampNeg).toNatClampNeg 0 (C + k) j = J (C + k) j := fun k hk hn j => by
        rw [ui_ap, if_neg (by omega)]
        exact j2.2 _ _ (by omega) (by omega) (by omega)
      have g30 : 0 ≤ g i.toNatClampNeg ∧ g i.toNatClampNeg < 30 := ⟨a0, Int32.lt_of_lt_of_le ag.2 hc.2.2.2.2.2.2.2.2.1.2⟩
      have hg := ih hi.2 _ (some (.int (nxt z i))) t2 t3 hH3 (by rw [t4]; exact hu3) (fun k hk => by
        rw [fC 39 (by omega) (by omega), fC 40 (by omega) (by omega)]
        exact kv k hk) ((fC 35 (by omega) (by omega) 7).trans e7)
      clear ih hP hu hc c2 hu2 hu3 kv yl tp hr
      simp only [q159_77, q159_78, q159_81, q159_82, q159_85, q159_86, q159_87, q159_90, q159_91, q159_92, q159_95, k_35 hS, z_35, r_35_1 hS, k_36 hS, l_36 hS, z_36, r_35_3 hS, k_38 hS, l_38 hS, z_38, as_nil, as_i, as_r, Nat.reduceAdd, Nat.reduceLeDiff, z_eq0, z_eq1, z_or, z_em, Classical.not_not, not_false_eq_true, not_true_eq_false, true_and, and_true, false_and, and_false, and_self, true_implies, false_implies, implies_true, Option.toList_some, Option.toList_none, List.cons_append, List.nil_append, Nat.add_eq_zero_iff, a_nl_i, a_nl_r, a_nl_n, true_or, or_true, eq_self, a_isRA_22, a_isRA_24, a_isRA_32, a_isA_20, ok_4, ok_5, ok_6, ok_7, ok_9, ok_20, ok_21, ok_30, ok_50, ok_180, ok_192, ok_200, ui_ap, cc_ne, cc_n0, cc_0n, Nat.reduceEqDiff, reduceIte, if_true, if_false, er, ha, an0, f4]
      try simp only [true_and, and_true, true_implies, false_implies, implies_true, not_true_eq_false, not_false_eq_true]
      first
        | exact ⟨hi, g30, hg⟩
        | exact hg
        | grind)
    clear ih hP hu hc kv yl tp hr fr
    simp only [q159_36, q159_37, q159_40, q159_43, q159_44, q159_45, q159_46, q159_47, q159_50, q159_51, q159_52, q159_53, q159_56, q159_57, q159_60, q159_61, q159_62, q159_63, q159_66, q159_67, q159_68, q159_69, q159_72, q159_73, q159_74, k_35 hS, z_35, r_35_0 hS, k_14 hS, z_14, r_35_3 hS, k_38 hS, l_38 hS, z_38, r_35_4 hS, k_39 hS, l_39 hS, z_39, r_35_5 hS, k_40 hS, l_40 hS, z_40, as_nil, as_i, as_r, Nat.reduceAdd, Nat.reduceLeDiff, z_eq0, z_eq1, z_or, z_em, Classical.not_not, not_false_eq_true, not_true_eq_false, true_and, and_true, false_and, and_false, and_self, true_implies, false_implies, implies_true, Option.toList_some, Option.toList_none, List.cons_append, List.nil_append, Nat.add_eq_zero_iff, a_nl_i, a_nl_r, a_nl_n, true_or, or_true, eq_self, a_isRA_22, a_isRA_24, a_isRA_32, a_isA_20, ok_4, ok_5, ok_6, ok_7, ok_9, ok_20, ok_21, ok_30, ok_50, ok_180, ok_192, ok_200, e7, hz0]
    refine ⟨fun h => absurd h c, fun _ => ?_⟩
    show (0 ≤ i ∧ i < 5) ∧ (0 ≤ nxt z i ∧ nxt z i < 5) ∧ (0 ≤ nxt z i ∧ nxt z i < 5) ∧ _
    refine ⟨hi, hx5, hx5, ?_⟩
    rw [er]
    have hcall2 := hcall
    rw [← x39, ← x40] at hcall2
    exact hcall2
theorem le_swap_6 {z : Int32} (ez : z.toNatClampNeg = m) (hz : 1 ≤ z ∧ z ≤ 5) (tp : tyP Y m g) (hP : ∀ n t K L J R1 w, cH C c (n + 1) t K L J R1 → cuP C K L J R1 (rgU g Y m) → (∀ k, k < m → (J (C + 39) k = Y 20 (g k).toNatClampNeg ∧ J (C + 40) k = (Y 21 (g k).toNatClampNeg)) ∧ R1 (C + 38) k = R1 (C + 15) (g k).toNatClampNeg) → J (C + 35) 7 = z → a_at (d + 7) (a_xm a_m159) 33 [some (a_rf (C + 35)), w, none] [] (n + 1, t, K, L, J, R1) P) : ∀ i : Int32, i ≤ 5 → ∀ n t K L J R1, 0 ≤ i → i ≤ z → cH C c (n + 1) t K L J R1 → cuP C K L J R1 (rgU g Y i.toNatClampNeg) → (∀ k, k < m → (J (C + 39) k = Y 20 (g k).toNatClampNeg ∧ J (C + 40) k = (Y 21 (g k).toNatClampNeg)) ∧ R1 (C + 38) k = R1 (C + 15) (g k).toNatClampNeg) → J (C + 35) 7 = z → a_at (d + 7) (a_xm a_m159) 6 [some (a_rf (C + 35)), some (.int i), none] [] (n + 1, t, K, L, J, R1) P := by
  refine up_ind 5 (fun i hk ih => ?_)
  intro n t K L J R1 q0 q1 hH hu kv e7
  have hT := hH.1
  have hS := hT.s
  rw [q159_6]
  by_cases c : z ≤ i
  · have e : i = z := by clear hP ih; grind
    have hp := hP n t K L J R1 (some (.int i)) hH (by rw [e, ez] at hu; exact hu) kv e7
    clear hP ih hu
    simp only [q159_7, q159_8, q159_11, k_35 hS, z_35, as_nil, as_i, as_r, Nat.reduceAdd, Nat.reduceLeDiff, z_eq0, z_eq1, z_or, z_em, Classical.not_not, not_false_eq_true, not_true_eq_false, true_and, and_true, false_and, and_false, and_self, true_implies, false_implies, implies_true, Option.toList_some, Option.toList_none, List.cons_append, List.nil_append, Nat.add_eq_zero_iff, a_nl_i, a_nl_r, a_nl_n, true_or, or_true, eq_self, a_isRA_22, a_isRA_24, a_isRA_32, a_isA_20, ok_4, ok_5, ok_6, ok_7, ok_9, ok_20, ok_21, ok_30, ok_50, ok_180, ok_192, ok_200, e7]
    try simp only [true_and, and_true, true_implies, false_implies, implies_true, not_true_eq_false, not_false_eq_true]
    first
      | exact ⟨fun _ => hp, fun h => absurd c h⟩
      | exact hp
      | grind
  · have h1 := Int32.not_le.mp c
    have hi : 0 ≤ i ∧ i < 5 := ⟨q0, Int32.lt_of_lt_of_le h1 hz.2⟩
    have him : i.toNatClampNeg < m := by rw [← ez]; exact cl_lt q0 h1
    obtain ⟨t1, t2, t3, t4⟩ := lp_st q0 h1
    obtain ⟨⟨a0, a1⟩, pa⟩ := tp.1 _ him
    have er := (kv _ him).2
    have o20 := rgU_o (g := g) (Y := Y) (q := 20) (j := (g i.toNatClampNeg).toNatClampNeg) i.toNatClampNeg (fun k hk e => by have := tp.2.1 _ _ him (by omega) e; omega)
    have e17 : rgU g Y i.toNatClampNeg 0 17 = Y 0 17 := rgU_s i.toNatClampNeg 0 17 (by unfold ss ps1; omega)
    have hc := hu.1
    have ag : 0 ≤ g i.toNatClampNeg ∧ g i.toNatClampNeg < rgU g Y i.toNatClampNeg 0 17 := ⟨a0, by rw [e17]; exact a1⟩
    have ap := aa_of hc (i := g i.toNatClampNeg) ag.1 ag.2
    obtain ⟨-, ⟨ha, an0, -⟩, -⟩ := id ap
    have c96 : C + 96 < n + 1 := hH.2.2.1
    have hcall := ce_clear (d := d + 2) hH hc hu.2.1 ap rfl (P := fun r' h' => a_at (d + 7) (a_xm a_m159) 27 [some (a_rf (C + 35)), some (.int i), none] (r'.toList ++ []) h' P) (fun n2 t2' K2 L2 J2 R2 h2 hQ c2 s2 r15 z2 => by
      have hS2 := h2.1.s
      have hu2 := cu_Q hH hu hQ c2 s2 ss_un ag z2 (no_un hu.2.2.2.1)
      have hg := ih hi.2 n2 t2' K2 L2 J2 R2 t2 t3 h2 (by rw [t4]; exact hu2) (fun k hk => by
        rw [hQ.2.2.2.2 _ _ (by omega) (by omega) (by omega) (by omega), hQ.2.2.2.2 _ _ (by omega) (by omega) (by omega) (by omega), hQ.2.2.2.1 (C + 38) _ (by omega) (by rw [k_38 hS]; decide), r15]
        exact kv k hk) (by rw [hQ.2.2.2.2 _ _ (by omega) (by omega) (by omega) (by omega)]; exact e7)
      clear ih hP hu hc c2 hu2 kv tp
      simp only [q159_27, q159_30, as_nil, as_i, as_r, Nat.reduceAdd, Nat.reduceLeDiff, z_eq0, z_eq1, z_or, z_em, Classical.not_not, not_false_eq_true, not_true_eq_false, true_and, and_true, false_and, and_false, and_self, true_implies, false_implies, implies_true, Option.toList_some, Option.toList_none, List.cons_append, List.nil_append, Nat.add_eq_zero_iff, a_nl_i, a_nl_r, a_nl_n, true_or, or_true, eq_self, a_isRA_22, a_isRA_24, a_isRA_32, a_isA_20, ok_4, ok_5, ok_6, ok_7, ok_9, ok_20, ok_21, ok_30, ok_50, ok_180, ok_192, ok_200]
      exact hg) (by rw [o20]; exact pa)
    clear ih hP hu hc kv tp
    simp only [q159_7, q159_8, q159_11, q159_14, q159_15, q159_18, q159_19, q159_22, q159_23, q159_24, k_35 hS, z_35, r_35_0 hS, k_14 hS, z_14, r_35_3 hS, k_38 hS, l_38 hS, z_38, as_nil, as_i, as_r, Nat.reduceAdd, Nat.reduceLeDiff, z_eq0, z_eq1, z_or, z_em, Classical.not_not, not_false_eq_true, not_true_eq_false, true_and, and_true, false_and, and_false, and_self, true_implies, false_implies, implies_true, Option.toList_some, Option.toList_none, List.cons_append, List.nil_append, Nat.add_eq_zero_iff, a_nl_i, a_nl_r, a_nl_n, true_or, or_true, eq_self, a_isRA_22, a_isRA_24, a_isRA_32, a_isA_20, ok_4, ok_5, ok_6, ok_7, ok_9, ok_20, ok_21, ok_30, ok_50, ok_180, ok_192, ok_200, e7, hi, er, an0, ha]
    refine ⟨fun h => absurd h c, fun _ => ?_⟩
    try simp only [true_and, and_true, true_implies, false_implies, implies_true, not_true_eq_false, not_false_eq_true]
    first
      | exact hcall
      | exact ⟨hi, hcall⟩
end ZBB
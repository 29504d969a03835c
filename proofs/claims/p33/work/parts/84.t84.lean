/-! the class: laying a ring -/
section ZU0
variable {d n t C c : Nat} {K L : Nat → Nat} {I I0 J J0 J1 J2 : Nat → Nat → Int32} {R : Nat → Nat → Nat} {P : Option Value → AH → Prop}
variable {Y Z W : Nat → Nat → Int32} {m : Nat} {g : Nat → Int32}
theorem le_ft {a b s w : Int32} (hl : 1 ≤ Y 10 a.toNatClampNeg ∧ Y 10 a.toNatClampNeg ≤ 4) (hw : ∀ z : Int32, 0 ≤ z → z < Y 10 a.toNatClampNeg → ((w >>> (z &&& 31)) &&& 1 = 0 ↔ ¬ 0 ≤ wtA Y 87 a b (s + z))) (hsu : suB Y a b s = true) : ftY Y a b s = 0 ↔ ¬ tnY Y a s ∧ opB Y a b s w = true := by
  have l5 : (Y 10 a.toNatClampNeg).toNatClampNeg < 5 := cl_lt (j := 5) (Int32.le_trans (by decide) hl.1) (Int32.lt_of_le_of_lt hl.2 (by decide))
  have l0 : 0 < (Y 10 a.toNatClampNeg).toNatClampNeg := cl_lt (i := 0) (by decide) (by clear hw; grind)
  have h := ft_split (Y := Y) (a := a) (b := b) (s := s) (w := w) (Y 10 a.toNatClampNeg).toNatClampNeg 0 (by decide) (by decide) (by rw [show (0 : Int32).toNatClampNeg = 0 from rfl]; omega) (fun z z0 z1 => hw z z0 (cl_lt2 z0 (Int32.le_trans (by decide) hl.1) (by rw [show (0 : Int32).toNatClampNeg = 0 from rfl] at z1; omega)))
  unfold suB at hsu
  unfold ftY opB
  rw [h]
  exact ⟨fun q => ⟨q.2.1.resolve_left (by omega), q.2.2⟩, fun q => ⟨hsu, Or.inr q.1, q.2⟩⟩
theorem le_turn_lay_37 (hT0 : cT C K L I R) (hc : cpP C K L I R Y) (hse : seP C R Y) (tp : tuP C R Y m g) {z : Int32} (ez : z.toNatClampNeg = m) (hz : 1 ≤ z ∧ z ≤ 5) (es : I (C + 35) 7 = z) (kv : ∀ k, k < m → (I (C + 39) k = Y 20 (g k).toNatClampNeg ∧ I (C + 40) k = (Y 21 (g k).toNatClampNeg)) ∧ ∀ y, y < (Y 10 (g 0).toNatClampNeg).toNatClampNeg → I (C + 41) (4 * k + y) = I ((R (C + 16) (Y 20 (g k).toNatClampNeg).toNatClampNeg) + 2) ((Y 21 (g k).toNatClampNeg).toNatClampNeg + y)) (hsu : ∀ k, k < m → suB Y (g k) (Y 20 (g (nxN m k)).toNatClampNeg) (Y 21 (g (nxN m k)).toNatClampNeg) = true) (hP : ∀ J (o : Int32), cT C K L J R → qF C R Y g 0 m I J → (o = z ↔ ∀ k, k < m → rgF Y m g k) → ∀ v w q r, a_at (d + 5) (a_xm a_m153) 166 [some (a_rf (C + 35)), some (.int o), v, w, q, r] [] (n, t, K, L, J, R) P) : ∀ i : Int32, i ≤ 5 → ∀ J w q r, 0 ≤ i → i ≤ z → cT C K L J R → cpP C K L J R (rgP g m Y (rgU g Y m) i.toNatClampNeg) → qF C R Y g 0 m I J → (∀ k, k < i.toNatClampNeg → rgF Y m g k) → a_at (d + 5) (a_xm a_m153) 37 [some (a_rf (C + 35)), some (.int i), some (.int i), w, q, r] [] (n, t, K, L, J, R) P := by
  refine up_ind 5 (fun i hk ih => ?_)
  intro J w q r q0 q1 hT hcJ hq hF
  have hS := hT.s
  have e7 : J (C + 35) 7 = z := (qF_c hT0 hc hse tp hq (k := 35) (by omega) 7).trans es
  have hz0 : ¬ z = 0 := by clear hP ih; grind
  by_cases c : z ≤ i
  · have e : i = z := by clear hP ih; grind
    have hp := hP J i hT hq ⟨fun _ k hk => hF k (by rw [e, ez]; exact hk), fun _ => e⟩
    clear hP ih hc hcJ
    rw [q153_37]
    simp only [q153_38, q153_39, q153_42, k_35 hS, z_35, as_nil, as_i, as_r, Nat.reduceAdd, Nat.reduceLeDiff, z_eq0, z_eq1, z_or, z_em, Classical.not_not, not_false_eq_true, not_true_eq_false, true_and, and_true, false_and, and_false, and_self, true_implies, false_implies, implies_true, Option.toList_some, Option.toList_none, List.cons_append, List.nil_append, Nat.add_eq_zero_iff, a_nl_i, a_nl_r, a_nl_n, true_or, or_true, eq_self, a_isRA_22, a_isRA_24, a_isRA_32, a_isA_20, ok_4, ok_5, ok_6, ok_7, ok_9, ok_20, ok_21, ok_30, ok_50, ok_180, ok_192, ok_200, e7]
    exact ⟨fun _ => hp _ _ _ _, fun h => absurd c h⟩
  · have h1 := Int32.not_le.mp c
    have hi : 0 ≤ i ∧ i < 5 := ⟨q0, Int32.lt_of_lt_of_le h1 hz.2⟩
    have him : i.toNatClampNeg < m := by rw [← ez]; exact cl_lt q0 h1
    have hnm := nxN_lt (m := m) him
    have hx := nxt_lt hz.2 q0 h1
    have hx5 : 0 ≤ nxt z i ∧ nxt z i < 5 := ⟨hx.1, Int32.lt_of_lt_of_le hx.2 hz.2⟩
    have exn : (nxt z i).toNatClampNeg = (nxN m i.toNatClampNeg) := by rw [nxt_nx hz.2 q0 h1, ez]
    obtain ⟨t1, t2, t3, t4⟩ := lp_st q0 h1
    obtain ⟨-, -, -, pl, e10⟩ := tp_pl hc tp him
    obtain ⟨⟨pb, pb6⟩, ps, psl, -, e10n⟩ := tp_pl hc tp hnm
    obtain ⟨⟨a0, a1⟩, -, er⟩ := tp.1 _ him
    have ha := tp_a hT0 hc tp him
    have an0 : ¬ (R (C + 15) (g i.toNatClampNeg).toNatClampNeg) = 0 := by omega
    obtain ⟨⟨v39, v40⟩, -⟩ := kv _ hnm
    have sW : ssE Y (rgP g m Y (rgU g Y m) i.toNatClampNeg) := ss_tr (rgU_s m) (rgP_s _)
    have bW := ss_b sW
    have e17 : (rgP g m Y (rgU g Y m) i.toNatClampNeg) 0 17 = Y 0 17 := sW 0 17 (by unfold ss ps1; omega)
    have e06 : (rgP g m Y (rgU g Y m) i.toNatClampNeg) 0 6 = Y 0 6 := sW 0 6 (by unfold ss ps1; omega)
    have o10 : (rgP g m Y (rgU g Y m) i.toNatClampNeg) 10 = Y 10 := rg_10 _
    have un : ¬ 0 ≤ (rgP g m Y (rgU g Y m) i.toNatClampNeg) 20 (g i.toNatClampNeg).toNatClampNeg := by
      rw [rgP_o (g := g) (by decide) i.toNatClampNeg (fun k hk e => by have := tp.2.1 _ _ him (by omega) e; omega), rgU_at (g := g) (Or.inl rfl) m i.toNatClampNeg him]
      decide
    have ap := aa_of hcJ (i := g i.toNatClampNeg) a0 (by rw [e17]; exact a1)
    have hb : 0 ≤ (Y 20 (g (nxN m i.toNatClampNeg)).toNatClampNeg) ∧ (Y 20 (g (nxN m i.toNatClampNeg)).toNatClampNeg) < (rgP g m Y (rgU g Y m) i.toNatClampNeg) 0 6 := by rw [e06]; exact ⟨pb, pb6⟩
    have hsl : (Y 21 (g (nxN m i.toNatClampNeg)).toNatClampNeg) + (rgP g m Y (rgU g Y m) i.toNatClampNeg) 10 (g i.toNatClampNeg).toNatClampNeg ≤ 200 := by rw [o10, e10]; exact psl
    have lW : 1 ≤ (rgP g m Y (rgU g Y m) i.toNatClampNeg) 10 (g i.toNatClampNeg).toNatClampNeg ∧ (rgP g m Y (rgU g Y m) i.toNatClampNeg) 10 (g i.toNatClampNeg).toNatClampNeg ≤ 4 := by rw [o10, e10]; exact pl
    have suW : suB (rgP g m Y (rgU g Y m) i.toNatClampNeg) (g i.toNatClampNeg) (Y 20 (g (nxN m i.toNatClampNeg)).toNatClampNeg) (Y 21 (g (nxN m i.toNatClampNeg)).toNatClampNeg) = true := by rw [suB_b bW]; exact hsu _ him
    have hseW := se_b hse bW
    have cl39 : ∀ J, qF C R Y g 0 m I J → J (C + 39) (nxt z i).toNatClampNeg = (Y 20 (g (nxN m i.toNatClampNeg)).toNatClampNeg) ∧ J (C + 40) (nxt z i).toNatClampNeg = (Y 21 (g (nxN m i.toNatClampNeg)).toNatClampNeg) := fun J h => by
      rw [exn, qF_c hT0 hc hse tp h (k := 39) (by omega), qF_c hT0 hc hse tp h (k := 40) (by omega)]
      exact ⟨v39, v40⟩
    obtain ⟨x39, x40⟩ := cl39 J hq
    -- it doesn't FIT: out
    have hfail : ¬ rgF Y m g i.toNatClampNeg → ∀ J, cT C K L J R → qF C R Y g 0 m I J → ∀ w q r, a_at (d + 5) (a_xm a_m153) 160 [some (a_rf (C + 35)), some (.int i), some (.int i), w, q, r] [] (n, t, K, L, J, R) P := fun nF J hT hq w q r => by
      have hS := hT.s
      have e7 : J (C + 35) 7 = z := (qF_c hT0 hc hse tp hq (k := 35) (by omega) 7).trans es
      have hp := hP J i hT hq ⟨fun e => absurd h1 (by rw [e]; exact Int32.lt_irrefl), fun hall => absurd (hall _ him) nF⟩
      have ne : ¬ i = i + 1 := by clear ih hP hc hcJ hF; grind
      clear ih hP hc hcJ hF
      simp only [q153_160, q153_163, as_nil, as_i, as_r, Nat.reduceAdd, Nat.reduceLeDiff, z_eq0, z_eq1, z_or, z_em, Classical.not_not, not_false_eq_true, not_true_eq_false, true_and, and_true, false_and, and_false, and_self, true_implies, false_implies, implies_true, Option.toList_some, Option.toList_none, List.cons_append, List.nil_append, Nat.add_eq_zero_iff, a_nl_i, a_nl_r, a_nl_n, true_or, or_true, eq_self, a_isRA_22, a_isRA_24, a_isRA_32, a_isA_20, ok_4, ok_5, ok_6, ok_7, ok_9, ok_20, ok_21, ok_30, ok_50, ok_180, ok_192, ok_200]
      rw [q153_37]
      simp only [q153_38, q153_39, q153_42, q153_45, q153_46, q153_47, k_35 hS, z_35, as_nil, as_i, as_r, Nat.reduceAdd, Nat.reduceLeDiff, z_eq0, z_eq1, z_or, z_em, Classical.not_not, not_false_eq_true, not_true_eq_false, true_and, and_true, false_and, and_false, and_self, true_implies, false_implies, implies_true, Option.toList_some, Option.toList_none, List.cons_append, List.nil_append, Nat.add_eq_zero_iff, a_nl_i, a_nl_r, a_nl_n, true_or, or_true, eq_self, a_isRA_22, a_isRA_24, a_isRA_32, a_isA_20, ok_4, ok_5, ok_6, ok_7, ok_9, ok_20, ok_21, ok_30, ok_50, ok_180, ok_192, ok_200, e7, ne]
      exact ⟨fun _ => hp _ _ _ _, fun _ => hp _ _ _ _⟩
    have hlay : rgF Y m g i.toNatClampNeg → ∀ J2 w2, dC C K L R J J2 → (∀ y : Int32, 0 ≤ y → y < (rgP g m Y (rgU g Y m) i.toNatClampNeg) 10 (g i.toNatClampNeg).toNatClampNeg → ((w2 >>> (y &&& 31)) &&& 1 = 0 ↔ ¬ 0 ≤ wtA (rgP g m Y (rgU g Y m) i.toNatClampNeg) 87 (g i.toNatClampNeg) (Y 20 (g (nxN m i.toNatClampNeg)).toNatClampNeg) ((Y 21 (g (nxN m i.toNatClampNeg)).toNatClampNeg) + y))) → ∀ u v, a_does (d + 5) 115 [a_rf (C + 14), a_rf (R (C + 15) (g i.toNatClampNeg).toNatClampNeg), .int (Y 20 (g (nxN m i.toNatClampNeg)).toNatClampNeg), .int (Y 21 (g (nxN m i.toNatClampNeg)).toNatClampNeg), .int w2] (n, t, K, L, J2, R) (fun r' h' => a_at (d + 5) (a_xm a_m153) 157 [some (a_rf (C + 35)), some (.int i), some (.int i), u, v, some (.int w2)] (r'.toList ++ []) h' P) := fun hFi J2 w2 j2 hw u v => by
      have hc2 := cpP_C hT hcJ j2
      have ap2 := aaP_C hT ap j2
      refine cx_lay (d := d + 1) j2.1 hc2 hseW ap2 rfl hb ps hsl un (ft_free j2.1 hc2 hseW ap2.1 hb ps hsl un hFi) hw (fun J3 j3 c3 f3 => ?_)
      have hS3 := j3.1.s
      have hg := ih hi.2 J3 u v (some (.int w2)) t2 t3 j3.1 (by rw [t4]; exact c3) (fun x j n1 n2 n3 => by
        rw [f3 x j (fun e => ?_) (fun e => n3 i.toNatClampNeg (by omega) him (Or.inr e))]
        · exact qF_C hq j2 x j n1 n2 n3
        · rw [o10, e10] at e
          exact n3 (nxN m i.toNatClampNeg) (by omega) hnm (Or.inl e)) (fun k hk => by
        rw [t4] at hk
        by_cases e : k = i.toNatClampNeg
        · rw [e]; exact hFi
        · exact hF k (by omega))
      clear ih hP hc hcJ hc2 c3 f3 hfail hF
      simp only [q153_157, q153_160, q153_163, as_nil, as_i, as_r, Nat.reduceAdd, Nat.reduceLeDiff, z_eq0, z_eq1, z_or, z_em, Classical.not_not, not_false_eq_true, not_true_eq_false, true_and, and_true, false_and, and_false, and_self, true_implies, false_implies, implies_true, Option.toList_some, Option.toList_none, List.cons_append, List.nil_append, Nat.add_eq_zero_iff, a_nl_i, a_nl_r, a_nl_n, true_or, or_true, eq_self, a_isRA_22, a_isRA_24, a_isRA_32, a_isA_20, ok_4, ok_5, ok_6, ok_7, ok_9, ok_20, ok_21, ok_30, ok_50, ok_180, ok_192, ok_200]
      exact hg
    have hcall := ce_watchOf (d := d) (n := n) (t := t) hT hcJ ap (b := (Y 20 (g (nxN m i.toNatClampNeg)).toNatClampNeg)) ps hsl (P := fun r' h' => a_at (d + 5) (a_xm a_m153) 88 [some (a_rf (C + 35)), some (.int i), some (.int i), some (.int (nxt z i)), some (a_rf (R (C + 15) (g i.toNatClampNeg).toNatClampNeg)), r] (r'.toList ++ []) h' P) (fun w2 J2 j2 hw => by
      have hT2 := j2.1
      have hS2 := hT2.s
      have hq2 := qF_C hq j2
      have hc2 := cpP_C hT hcJ j2
      have ap2 := aaP_C hT ap j2
      obtain ⟨y39, y40⟩ := cl39 J2 hq2
      have hft := le_ft lW hw suW
      simp only [q153_88, q153_90, q153_91, q153_94, q153_96, q153_97, q153_100, q153_101, q153_102, k_35 hS, z_35, r_35_0 hS, k_14 hS, z_14, r_35_5 hS, k_40 hS, l_40 hS, z_40, as_nil, as_i, as_r, Nat.reduceAdd, Nat.reduceLeDiff, z_eq0, z_eq1, z_or, z_em, Classical.not_not, not_false_eq_true, not_true_eq_false, true_and, and_true, false_and, and_false, and_self, true_implies, false_implies, implies_true, Option.toList_some, Option.toList_none, List.cons_append, List.nil_append, Nat.add_eq_zero_iff, a_nl_i, a_nl_r, a_nl_n, true_or, or_true, eq_self, a_isRA_22, a_isRA_24, a_isRA_32, a_isA_20, ok_4, ok_5, ok_6, ok_7, ok_9, ok_20, ok_21, ok_30, ok_50, ok_180, ok_192, ok_200, ha, an0, y40, hx5]
      try simp only [true_and, and_true, true_implies, false_implies, implies_true, not_true_eq_false, not_false_eq_true]
      refine ce_isTooNear (d := d + 3) hT2 hc2 ap2 (fun nt => ?_) (fun ht => ?_)
      · simp only [q153_105, q153_108, q153_109, q153_112, q153_114, q153_115, q153_118, q153_119, q153_120, q153_121, q153_124, q153_125, q153_126, q153_128, k_35 hS, z_35, r_35_0 hS, k_14 hS, z_14, r_35_4 hS, k_39 hS, l_39 hS, z_39, r_35_5 hS, k_40 hS, l_40 hS, z_40, as_nil, as_i, as_r, Nat.reduceAdd, Nat.reduceLeDiff, z_eq0, z_eq1, z_or, z_em, Classical.not_not, not_false_eq_true, not_true_eq_false, true_and, and_true, false_and, and_false, and_self, true_implies, false_implies, implies_true, Option.toList_some, Option.toList_none, List.cons_append, List.nil_append, Nat.add_eq_zero_iff, a_nl_i, a_nl_r, a_nl_n, true_or, or_true, eq_self, a_isRA_22, a_isRA_24, a_isRA_32, a_isA_20, ok_4, ok_5, ok_6, ok_7, ok_9, ok_20, ok_21, ok_30, ok_50, ok_180, ok_192, ok_200, ha, an0, y39, y40, hx5]
        try simp only [true_and, and_true, true_implies, false_implies, implies_true, not_true_eq_false, not_false_eq_true]
        refine ce_isOpen (d := d + 1) hT2 hc2 ap2 hb ps ?_
        by_cases co : opB (rgP g m Y (rgU g Y m) i.toNatClampNeg) (g i.toNatClampNeg) (Y 20 (g (nxN m i.toNatClampNeg)).toNatClampNeg) (Y 21 (g (nxN m i.toNatClampNeg)).toNatClampNeg) w2 = true
        · have hl := hlay (hft.mpr ⟨nt, co⟩) J2 w2 j2 hw
          rw [if_pos co]
          clear hlay hfail hP ih hc hcJ hc2 ap2 ap hft hw hF
          simp only [q153_131, q153_134, q153_135, q153_138, q153_140, q153_141, q153_144, q153_145, q153_146, q153_147, q153_150, q153_151, q153_152, q153_154, k_35 hS, z_35, r_35_0 hS, k_14 hS, z_14, r_35_4 hS, k_39 hS, l_39 hS, z_39, r_35_5 hS, k_40 hS, l_40 hS, z_40, as_nil, as_i, as_r, Nat.reduceAdd, Nat.reduceLeDiff, z_eq0, z_eq1, z_or, z_em, Classical.not_not, not_false_eq_true, not_true_eq_false, true_and, and_true, false_and, and_false, and_self, true_implies, false_implies, implies_true, Option.toList_some, Option.toList_none, List.cons_append, List.nil_append, Nat.add_eq_zero_iff, a_nl_i, a_nl_r, a_nl_n, true_or, or_true, eq_self, a_isRA_22, a_isRA_24, a_isRA_32, a_isA_20, ok_4, ok_5, ok_6, ok_7, ok_9, ok_20, ok_21, ok_30, ok_50, ok_180, ok_192, ok_200, ha, an0, y39, y40, hx5]
          try simp only [true_and, and_true, true_implies, false_implies, implies_true, not_true_eq_false, not_false_eq_true]
          first
            | exact hl _ _
            | exact ⟨fun h => absurd h (by decide), fun _ => hl _ _⟩
        · have hf := hfail (fun q => co (hft.mp q).2) J2 hT2 hq2
          rw [if_neg co]
          clear hlay hfail hP ih hc hcJ hc2 ap2 ap hft hw hF
          simp only [q153_131, as_nil, as_i, as_r, Nat.reduceAdd, Nat.reduceLeDiff, z_eq0, z_eq1, z_or, z_em, Classical.not_not, not_false_eq_true, not_true_eq_false, true_and, and_true, false_and, and_false, and_self, true_implies, false_implies, implies_true, Option.toList_some, Option.toList_none, List.cons_append, List.nil_append, Nat.add_eq_zero_iff, a_nl_i, a_nl_r, a_nl_n, true_or, or_true, eq_self, a_isRA_22, a_isRA_24, a_isRA_32, a_isA_20, ok_4, ok_5, ok_6, ok_7, ok_9, ok_20, ok_21, ok_30, ok_50, ok_180, ok_192, ok_200]
          try simp only [true_and, and_true, true_implies, false_implies, implies_true, not_true_eq_false, not_false_eq_true]
          first
            | exact hf _ _ _
            | exact ⟨fun _ => hf _ _ _, fun h => absurd rfl h⟩
      · have hf := hfail (fun q => (hft.mp q).1 ht) J2 hT2 hq2
        clear hlay hfail hP ih hc hcJ hc2 ap2 ap hft hw hF
        simp only [q153_105, as_nil, as_i, as_r, Nat.reduceAdd, Nat.reduceLeDiff, z_eq0, z_eq1, z_or, z_em, Classical.not_not, not_false_eq_true, not_true_eq_false, true_and, and_true, false_and, and_false, and_self, true_implies, false_implies, implies_true, Option.toList_some, Option.toList_none, List.cons_append, List.nil_append, Nat.add_eq_zero_iff, a_nl_i, a_nl_r, a_nl_n, true_or, or_true, eq_self, a_isRA_22, a_isRA_24, a_isRA_32, a_isA_20, ok_4, ok_5, ok_6, ok_7, ok_9, ok_20, ok_21, ok_30, ok_50, ok_180, ok_192, ok_200]
        try simp only [true_and, and_true, true_implies, false_implies, implies_true, not_true_eq_false, not_false_eq_true]
        first
          | exact hf _ _ _
          | exact ⟨fun _ => hf _ _ _, fun h => absurd h (by decide)⟩)
    clear hP ih hc hcJ hlay hfail ap cl39
    rw [q153_37]
    simp only [q153_38, q153_39, q153_42, q153_45, q153_46, q153_47, q153_50, q153_51, q153_52, q153_53, q153_54, q153_57, q153_58, q153_59, q153_60, q153_63, q153_64, q153_65, q153_67, q153_68, q153_71, q153_73, q153_74, q153_77, q153_78, q153_79, q153_80, q153_83, q153_84, q153_85, k_35 hS, z_35, r_35_3 hS, k_38 hS, l_38 hS, z_38, r_35_0 hS, k_14 hS, z_14, r_35_4 hS, k_39 hS, l_39 hS, z_39, r_35_5 hS, k_40 hS, l_40 hS, z_40, as_nil, as_i, as_r, Nat.reduceAdd, Nat.reduceLeDiff, z_eq0, z_eq1, z_or, z_em, Classical.not_not, not_false_eq_true, not_true_eq_false, true_and, and_true, false_and, and_false, and_self, true_implies, false_implies, implies_true, Option.toList_some, Option.toList_none, List.cons_append, List.nil_append, Nat.add_eq_zero_iff, a_nl_i, a_nl_r, a_nl_n, true_or, or_true, eq_self, a_isRA_22, a_isRA_24, a_isRA_32, a_isA_20, ok_4, ok_5, ok_6, ok_7, ok_9, ok_20, ok_21, ok_30, ok_50, ok_180, ok_192, ok_200, e7, hz0]
    refine ⟨fun h => absurd h c, fun _ => ?_⟩
    show (0 ≤ i ∧ i < 5) ∧ (0 ≤ nxt z i ∧ nxt z i < 5) ∧ (0 ≤ nxt z i ∧ nxt z i < 5) ∧ _
    refine ⟨hi, hx5, hx5, ?_⟩
    rw [er]
    have hcall2 := hcall
    rw [← x39, ← x40] at hcall2
    exact hcall2
end ZU0
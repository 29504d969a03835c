/-! the class: the best: extend, whole -/
section ZMM
variable {d n t C c : Nat} {K L : Nat → Nat} {I I0 J J0 J1 J2 : Nat → Nat → Int32} {R : Nat → Nat → Nat} {P : Option Value → AH → Prop}
variable {Y Z W : Nat → Nat → Int32} {R' R1 R2 : Nat → Nat → Nat} {g : Nat → Int32}
theorem le_extend_71 (hse : seP C R Y) {m i : Int32} (bm : ∀ k, k < m.toNatClampNeg → (0 ≤ g k ∧ g k < Y 0 17) ∧ R (C + 28) k = R (C + 15) (g k).toNatClampNeg) (bd : ∀ k j, k < j → j < m.toNatClampNeg → ¬ (g k).toNatClampNeg = (g j).toNatClampNeg) (y6 : Y 0 6 ≤ 6) (hi : 0 ≤ i ∧ i < 4) (him : i.toNatClampNeg < m.toNatClampNeg) {E : Nat} {sf w : Int32} (hr : ∀ (sf : Int32) (J W : Nat → Nat → Int32) (P : Option Value → AH → Prop), cT C K L J R → cpP C K L J R W → sbE Y W → noP W → J (C + 27) 8 = m → spP C Y g m.toNatClampNeg J → (∀ k, (i + 1).toNatClampNeg ≤ k → k < m.toNatClampNeg → ¬ 0 ≤ W 20 (g k).toNatClampNeg) → (∀ J2, cT C K L J2 R → xfP C J J2 → P none (n, t, K, L, J2, R)) → a_does (E + 19) 138 [a_rf (C + 27), .int (i + 1), .int sf] (n, t, K, L, J, R) P) (eup : (i + 1).toNatClampNeg = i.toNatClampNeg + 1) (hT0 : cT C K L I R) (hc0 : cpP C K L I R W) (hb0 : sbE Y W) (hno : noP W) (hm0 : I (C + 27) 8 = m) (sp0 : spP C Y g m.toNatClampNeg I) (hun : (∀ k, i.toNatClampNeg ≤ k → k < m.toNatClampNeg → ¬ 0 ≤ W 20 (g k).toNatClampNeg)) (hP : ∀ J, cT C K L J R → xfP C I J → P none (n, t, K, L, J, R)) : ∀ k : Int32, k ≤ 48 → ∀ J u1 u2, 0 ≤ k → cT C K L J R → xfP C I J → a_at (E + 19) (a_xm a_m138) 71 [some (a_rf (C + 27)), some (.int i), some (.int sf), some (a_rf (R (C + 15) (g i.toNatClampNeg).toNatClampNeg)), some (.int w), some (.int k), u1, u2] [] (n, t, K, L, J, R) P := by
  refine up_ind 48 (fun k hk ih => ?_)
  intro J u1 u2 q0 hT hx
  have hS := hT.s
  have hc := xf_cp hT0 hc0 hx
  have sp := sp_x sp0 hx
  have hm : J (C + 27) 8 = m := (hx _ _ (by omega) (by omega) (by omega) (by omega) (by omega)).trans hm0
  obtain ⟨⟨a0, a1⟩, er⟩ := bm _ him
  have e17 : W 0 17 = Y 0 17 := hb0 0 17 (by unfold sb; omega)
  have e06 : W 0 6 = Y 0 6 := hb0 0 6 (by unfold sb; omega)
  have ag : 0 ≤ g i.toNatClampNeg ∧ g i.toNatClampNeg < W 0 17 := ⟨a0, by rw [e17]; exact a1⟩
  have ap := aa_of hc ag.1 ag.2
  obtain ⟨-, ⟨ha, an0, -⟩, -, al⟩ := id ap
  obtain ⟨⟨g0, g48⟩, gsp⟩ := sp _ him
  have n8 : ¬ (8 : Int32) = 0 := by decide
  have hi5 : 0 ≤ i + 1 ∧ i + 1 < 5 := by clear hr hP ih sp gsp hun hc hc0 sp0 hx; grind
  have hend : ∀ u1 u2, a_at (E + 19) (a_xm a_m138) 218 [some (a_rf (C + 27)), some (.int i), some (.int sf), some (a_rf (R (C + 15) (g i.toNatClampNeg).toNatClampNeg)), some (.int w), some (.int k), u1, u2] [] (n, t, K, L, J, R) P := fun u1 u2 => by
    have hT2 : cT C K L (a_ui J (C + 33) i.toNatClampNeg (-9)) R := sT_Best_tried hT
    have hg := hr sf (a_ui J (C + 33) i.toNatClampNeg (-9)) W (fun r' h' => a_at (E + 19) (a_xm a_m138) 234 [some (a_rf (C + 27)), some (.int i), some (.int sf), some (a_rf (R (C + 15) (g i.toNatClampNeg).toNatClampNeg)), some (.int w), some (.int k), u1, u2] (r'.toList ++ []) h' P) hT2 (cp_sc hT hc (k := 33) (by omega) (by omega)) hb0 hno (by rw [ui_ap, if_neg (by omega)]; exact hm) (sp_x sp (fun x j _ _ _ e4 _ => by rw [ui_ap, if_neg (fun e => e4 e.1)])) (fun k k0 k1 => hun k (by omega) k1) (fun J2 T2 x2 => by
      have hS2 := T2.s
      have hp := hP J2 T2 (fun x j q1 q2 q3 q4 q5 => by
        rw [x2 x j q1 q2 q3 q4 q5, ui_ap, if_neg (fun e => q4 e.1)]
        exact hx x j q1 q2 q3 q4 q5)
      clear hr hP ih sp gsp hun hc hc0 sp0 hx x2 ap al bm bd
      simp only [q138_234, as_nil, as_i, as_r, Nat.reduceAdd, Nat.reduceLeDiff, z_eq0, z_eq1, z_or, z_em, Classical.not_not, not_false_eq_true, not_true_eq_false, true_and, and_true, false_and, and_false, and_self, true_implies, false_implies, implies_true, Option.toList_some, Option.toList_none, List.cons_append, List.nil_append, Nat.add_eq_zero_iff, a_nl_i, a_nl_r, a_nl_n, true_or, or_true, eq_self, a_isRA_22, a_isRA_24, a_isRA_32, a_isA_20, ok_4, ok_5, ok_6, ok_7, ok_9, ok_20, ok_21, ok_30, ok_50, ok_180, ok_192, ok_200, ui_ap, cc_ne, cc_n0, cc_0n, Nat.reduceEqDiff, reduceIte, if_true, if_false]
      exact hp)
    clear hr hP ih sp gsp hun hc hc0 sp0 hx ap al bm bd
    simp only [q138_218, q138_219, q138_222, q138_223, q138_225, q138_226, q138_227, q138_228, q138_229, q138_230, q138_231, k_27 hS, z_27, r_27_6 hS, k_33 hS, l_33 hS, z_33, as_nil, as_i, as_r, Nat.reduceAdd, Nat.reduceLeDiff, z_eq0, z_eq1, z_or, z_em, Classical.not_not, not_false_eq_true, not_true_eq_false, true_and, and_true, false_and, and_false, and_self, true_implies, false_implies, implies_true, Option.toList_some, Option.toList_none, List.cons_append, List.nil_append, Nat.add_eq_zero_iff, a_nl_i, a_nl_r, a_nl_n, true_or, or_true, eq_self, a_isRA_22, a_isRA_24, a_isRA_32, a_isA_20, ok_4, ok_5, ok_6, ok_7, ok_9, ok_20, ok_21, ok_30, ok_50, ok_180, ok_192, ok_200, ui_ap, cc_ne, cc_n0, cc_0n, Nat.reduceEqDiff, reduceIte, if_true, if_false]
    exact ⟨hi, hg⟩
  have hnext : k < 48 → ∀ J u1 u2, cT C K L J R → xfP C I J → a_at (E + 19) (a_xm a_m138) 212 [some (a_rf (C + 27)), some (.int i), some (.int sf), some (a_rf (R (C + 15) (g i.toNatClampNeg).toNatClampNeg)), some (.int w), some (.int k), u1, u2] [] (n, t, K, L, J, R) P := fun h J u1 u2 hT hx => by
    have hS := hT.s
    have hg := ih h J u1 u2 (by clear hr hP ih sp gsp hun hc hc0 sp0 hx hend; grind) hT hx
    clear hr hP ih sp gsp hun hc hc0 sp0 hx ap al bm bd hend
    simp only [q138_212, q138_215, as_nil, as_i, as_r, Nat.reduceAdd, Nat.reduceLeDiff, z_eq0, z_eq1, z_or, z_em, Classical.not_not, not_false_eq_true, not_true_eq_false, true_and, and_true, false_and, and_false, and_self, true_implies, false_implies, implies_true, Option.toList_some, Option.toList_none, List.cons_append, List.nil_append, Nat.add_eq_zero_iff, a_nl_i, a_nl_r, a_nl_n, true_or, or_true, eq_self, a_isRA_22, a_isRA_24, a_isRA_32, a_isA_20, ok_4, ok_5, ok_6, ok_7, ok_9, ok_20, ok_21, ok_30, ok_50, ok_180, ok_192, ok_200]
    exact hg
  rw [q138_71]
  by_cases c1 : J (C + 31) i.toNatClampNeg ≤ k
  · have he := hend u1 u2
    clear hr hP ih sp gsp hun hc hc0 sp0 hx ap al bm bd hend hnext
    simp only [q138_73, q138_74, q138_77, q138_78, q138_79, q138_82, q138_84, q138_85, q138_88, q138_89, q138_90, q138_91, q138_92, q138_93, q138_94, q138_97, k_27 hS, z_27, r_27_4 hS, k_31 hS, l_31 hS, z_31, r_27_5 hS, k_32 hS, l_32 hS, z_32, as_nil, as_i, as_r, Nat.reduceAdd, Nat.reduceLeDiff, z_eq0, z_eq1, z_or, z_em, Classical.not_not, not_false_eq_true, not_true_eq_false, true_and, and_true, false_and, and_false, and_self, true_implies, false_implies, implies_true, Option.toList_some, Option.toList_none, List.cons_append, List.nil_append, Nat.add_eq_zero_iff, a_nl_i, a_nl_r, a_nl_n, true_or, or_true, eq_self, a_isRA_22, a_isRA_24, a_isRA_32, a_isA_20, ok_4, ok_5, ok_6, ok_7, ok_9, ok_20, ok_21, ok_30, ok_50, ok_180, ok_192, ok_200, c1]
    try simp only [true_and, and_true, true_implies, false_implies, implies_true, not_true_eq_false, not_false_eq_true]
    first
      | exact ⟨hi, he⟩
      | exact ⟨hi, fun _ => he, fun h => absurd c1 h⟩
      | grind
  · have c1k := Int32.not_le.mp c1
    have hk8 : k < 48 := Int32.lt_of_lt_of_le c1k g48
    have hxk := ix48 hi (c := k) ⟨q0, hk8⟩
    have exn := ix_192 hi (c := k) ⟨q0, hk8⟩
    have hnext := hnext hk8
    obtain ⟨b, s, ev, hb, hs, hsl, hw⟩ := gsp k.toNatClampNeg (cl_lt q0 c1k)
    rw [← exn] at ev hw
    have b6 : 0 ≤ b ∧ b < 6 := ⟨hb.1, Int32.lt_of_lt_of_le hb.2 y6⟩
    obtain ⟨d1, d2⟩ := sp_div b6 hs
    have d3 : 8 * s + b - s * 8 = b := by rw [d1] at d2; exact d2
    have hbW : 0 ≤ b ∧ b < W 0 6 := by rw [e06]; exact hb
    have hlast : ∀ u1 u2, a_at (E + 19) (a_xm a_m138) 212 [some (a_rf (C + 27)), some (.int i), some (.int sf), some (a_rf (R (C + 15) (g i.toNatClampNeg).toNatClampNeg)), some (.int w), some (.int k), u1, u2] [] (n, t, K, L, J, R) P := fun u1 u2 => hnext J u1 u2 hT hx
    have hgo : a_does (E + 19) 110 [a_rf (C + 14), a_rf (R (C + 15) (g i.toNatClampNeg).toNatClampNeg), .int s] (n, t, K, L, J, R) (fun r h' => a_at (E + 19) (a_xm a_m138) 141 [some (a_rf (C + 27)), some (.int i), some (.int sf), some (a_rf (R (C + 15) (g i.toNatClampNeg).toNatClampNeg)), some (.int w), some (.int k), some (.int (8 * s + b)), some (.int (J (C + 30) (i * 48 + k).toNatClampNeg))] (r.toList ++ []) h' P) := by
      refine ck_isTooNear ha hT (fun v => ?_)
      have hopen : a_does (E + 19) 136 [a_rf (C + 14), a_rf (R (C + 15) (g i.toNatClampNeg).toNatClampNeg), .int b, .int s, .int (J (C + 30) (i * 48 + k).toNatClampNeg)] (n, t, K, L, J, R) (fun r h' => a_at (E + 19) (a_xm a_m138) 164 [some (a_rf (C + 27)), some (.int i), some (.int sf), some (a_rf (R (C + 15) (g i.toNatClampNeg).toNatClampNeg)), some (.int w), some (.int k), some (.int (8 * s + b)), some (.int (J (C + 30) (i * 48 + k).toNatClampNeg))] (r.toList ++ []) h' P) := by
        refine ce_isOpen (d := E + 15) hT hc ap hbW hs ?_
        by_cases co : opB W (g i.toNatClampNeg) b s (J (C + 30) (i * 48 + k).toNatClampNeg) = true
        · rw [if_pos co]
          have ht := le_try (n := n) (t := t) (P := P) (sf' := w) (v := 8 * s + b) (x2 := some (.int sf)) (x3 := some (.int w)) (x5 := some (.int k)) hse bm bd hi him hr eup hT hc hb0 hno hm sp hun hb hs hsl hw co (fun J2 T2 x2 => hnext J2 _ _ T2 (xf_tr hx x2)) rfl
          clear hr hP ih sp gsp hun hc hc0 sp0 hx ap al bm bd hend hnext hw hlast
          simp only [q138_164, q138_167, q138_168, q138_171, q138_172, q138_174, q138_176, q138_177, q138_179, q138_181, q138_182, q138_184, k_27 hS, z_27, r_27_0 hS, k_14 hS, z_14, as_nil, as_i, as_r, Nat.reduceAdd, Nat.reduceLeDiff, z_eq0, z_eq1, z_or, z_em, Classical.not_not, not_false_eq_true, not_true_eq_false, true_and, and_true, false_and, and_false, and_self, true_implies, false_implies, implies_true, Option.toList_some, Option.toList_none, List.cons_append, List.nil_append, Nat.add_eq_zero_iff, a_nl_i, a_nl_r, a_nl_n, true_or, or_true, eq_self, a_isRA_22, a_isRA_24, a_isRA_32, a_isA_20, ok_4, ok_5, ok_6, ok_7, ok_9, ok_20, ok_21, ok_30, ok_50, ok_180, ok_192, ok_200, ha, an0, n8, d1, d3]
          try simp only [true_and, and_true, true_implies, false_implies, implies_true, not_true_eq_false, not_false_eq_true]
          first
            | exact ht
            | exact ⟨fun h => absurd h (by decide), fun _ => ht⟩
            | grind
        · rw [if_neg co]
          have ht := hlast (some (.int (8 * s + b))) (some (.int (J (C + 30) (i * 48 + k).toNatClampNeg)))
          clear hr hP ih sp gsp hun hc hc0 sp0 hx ap al bm bd hend hnext hw hlast
          simp only [q138_164, as_nil, as_i, as_r, Nat.reduceAdd, Nat.reduceLeDiff, z_eq0, z_eq1, z_or, z_em, Classical.not_not, not_false_eq_true, not_true_eq_false, true_and, and_true, false_and, and_false, and_self, true_implies, false_implies, implies_true, Option.toList_some, Option.toList_none, List.cons_append, List.nil_append, Nat.add_eq_zero_iff, a_nl_i, a_nl_r, a_nl_n, true_or, or_true, eq_self, a_isRA_22, a_isRA_24, a_isRA_32, a_isA_20, ok_4, ok_5, ok_6, ok_7, ok_9, ok_20, ok_21, ok_30, ok_50, ok_180, ok_192, ok_200]
          try simp only [true_and, and_true, true_implies, false_implies, implies_true, not_true_eq_false, not_false_eq_true]
          first
            | exact ht
            | exact ⟨fun _ => ht, fun h => absurd rfl h⟩
            | grind
      have ht := hlast (some (.int (8 * s + b))) (some (.int (J (C + 30) (i * 48 + k).toNatClampNeg)))
      clear hr hP ih sp gsp hun hc hc0 sp0 hx ap al bm bd hend hnext hw hlast
      simp only [q138_141, q138_144, q138_145, q138_148, q138_149, q138_151, q138_153, q138_154, q138_156, q138_158, q138_159, q138_161, k_27 hS, z_27, r_27_0 hS, k_14 hS, z_14, as_nil, as_i, as_r, Nat.reduceAdd, Nat.reduceLeDiff, z_eq0, z_eq1, z_or, z_em, Classical.not_not, not_false_eq_true, not_true_eq_false, true_and, and_true, false_and, and_false, and_self, true_implies, false_implies, implies_true, Option.toList_some, Option.toList_none, List.cons_append, List.nil_append, Nat.add_eq_zero_iff, a_nl_i, a_nl_r, a_nl_n, true_or, or_true, eq_self, a_isRA_22, a_isRA_24, a_isRA_32, a_isA_20, ok_4, ok_5, ok_6, ok_7, ok_9, ok_20, ok_21, ok_30, ok_50, ok_180, ok_192, ok_200, ha, an0, n8, d1, d3]
      try simp only [true_and, and_true, true_implies, false_implies, implies_true, not_true_eq_false, not_false_eq_true]
      first
        | exact ⟨fun _ => ht, fun _ => hopen⟩
        | grind
    have he := hend u1 u2
    clear hr hP ih sp gsp hun hc hc0 sp0 hx ap al bm bd hend hnext hw hlast
    simp only [q138_73, q138_74, q138_77, q138_78, q138_79, q138_82, q138_84, q138_85, q138_88, q138_89, q138_90, q138_91, q138_92, q138_93, q138_94, q138_97, q138_100, q138_101, q138_104, q138_105, q138_107, q138_108, q138_110, q138_111, q138_112, q138_114, q138_115, q138_118, q138_119, q138_121, q138_122, q138_124, q138_125, q138_126, q138_128, q138_129, q138_132, q138_133, q138_135, q138_137, q138_138, k_27 hS, z_27, r_27_4 hS, k_31 hS, l_31 hS, z_31, r_27_5 hS, k_32 hS, l_32 hS, z_32, r_27_2 hS, k_29 hS, l_29 hS, z_29, r_27_3 hS, k_30 hS, l_30 hS, z_30, r_27_0 hS, k_14 hS, z_14, as_nil, as_i, as_r, Nat.reduceAdd, Nat.reduceLeDiff, z_eq0, z_eq1, z_or, z_em, Classical.not_not, not_false_eq_true, not_true_eq_false, true_and, and_true, false_and, and_false, and_self, true_implies, false_implies, implies_true, Option.toList_some, Option.toList_none, List.cons_append, List.nil_append, Nat.add_eq_zero_iff, a_nl_i, a_nl_r, a_nl_n, true_or, or_true, eq_self, a_isRA_22, a_isRA_24, a_isRA_32, a_isA_20, ok_4, ok_5, ok_6, ok_7, ok_9, ok_20, ok_21, ok_30, ok_50, ok_180, ok_192, ok_200, c1, ha, an0, n8, ev, d1]
    try simp only [true_and, and_true, true_implies, false_implies, implies_true, not_true_eq_false, not_false_eq_true]
    refine ⟨hi, ?_⟩
    repeat' first
      | with_reducible apply And.intro
      | with_reducible intro _
      | exact he
      | exact hgo
      | exact hi5.1
      | exact hi5.2
      | exact hxk.1
      | exact hxk.2
theorem kx_all (hse : seP C R Y) {m : Int32} (hm4 : 0 ≤ m ∧ m ≤ 4) (bm : ∀ k, k < m.toNatClampNeg → (0 ≤ g k ∧ g k < Y 0 17) ∧ R (C + 28) k = R (C + 15) (g k).toNatClampNeg) (bd : ∀ k j, k < j → j < m.toNatClampNeg → ¬ (g k).toNatClampNeg = (g j).toNatClampNeg) (y6 : Y 0 6 ≤ 6) : ∀ z, kxP C n t K L R Y g m z := by
  intro z
  have s0 := Int32.le_iff_toInt_le.mp hm4.1
  have s1 := Int32.le_iff_toInt_le.mp hm4.2
  have c0 : (0 : Int32).toInt = 0 := rfl
  have c1 : (1 : Int32).toInt = 1 := rfl
  have c4 : (4 : Int32).toInt = 4 := rfl
  induction z with
  | zero =>
    intro i sf I W D P h0 h1 h2 hT hc hb0 hno hm sp hun hP
    obtain ⟨E, rfl⟩ : ∃ E, D = E + 20 := ⟨D - 20, by omega⟩
    have hS := hT.s
    have ei : i = I (C + 27) 8 := by rw [hm]; exact Int32.toInt_inj.mp (by omega)
    have gi := hT.g_best
    rw [← ei] at gi
    have hi4 : ¬ 4 < i := Int32.not_lt.mpr gi.2
    have hi5 : 0 ≤ i ∧ i < 5 := ⟨gi.1, by clear hT hS hP hc sp hun; grind⟩
    have m5 : i.toNatClampNeg ≤ 4 := by
      have e0 := Int32.le_iff_toInt_le.mp gi.1
      have e1 := Int32.le_iff_toInt_le.mp gi.2
      show i.toInt.toNat ≤ 4
      omega
    have n0 : ¬ i < 0 := Int32.not_lt.mpr gi.1
    have hB : dB C K L R I I := dB_refl hT
    have f1 : dB C K L R I (a_ci (a_ui I (C + 27) 9 sf) (C + 33) (C + 34) 0 0 i.toNatClampNeg) := dB_34 (dB_sum hB)
    have hp0 := hP I hT xf_refl
    have hp1 := hP _ f1.1.1 (fun x j _ _ e3 _ e5 => by rw [ci_ne e5, ui_ap, if_neg e3])
    clear hP hc sp hun
    rw [a_enter1 (M := a_m138) rfl (a_cat_rf (a_cat_int (a_cat_int a_cat_nil))) (show 3 ≤ 8 by decide)]
    show a_at _ (a_xm a_m138) 0 [some (a_rf (C + 27)), some (.int i), some (.int sf), none, none, none, none, none] [] _ _
    simp only [q138_0, q138_1, q138_2, q138_5, q138_6, q138_7, q138_10, q138_11, q138_12, q138_13, q138_14, q138_17, q138_20, q138_21, q138_22, q138_23, q138_26, q138_29, q138_30, q138_31, q138_34, q138_35, q138_38, q138_39, q138_40, q138_43, q138_44, q138_45, q138_48, q138_51, k_27 hS, z_27, r_27_5 hS, k_32 hS, l_32 hS, z_32, r_27_6 hS, k_33 hS, l_33 hS, z_33, r_27_7 hS, k_34 hS, l_34 hS, z_34, as_nil, as_i, as_r, Nat.reduceAdd, Nat.reduceLeDiff, z_eq0, z_eq1, z_or, z_em, Classical.not_not, not_false_eq_true, not_true_eq_false, true_and, and_true, false_and, and_false, and_self, true_implies, false_implies, implies_true, Option.toList_some, Option.toList_none, List.cons_append, List.nil_append, Nat.add_eq_zero_iff, a_nl_i, a_nl_r, a_nl_n, true_or, or_true, eq_self, a_isRA_22, a_isRA_24, a_isRA_32, a_isA_20, ok_4, ok_5, ok_6, ok_7, ok_9, ok_20, ok_21, ok_30, ok_50, ok_180, ok_192, ok_200, ui_ap, cc_ne, cc_n0, cc_0n, Nat.reduceEqDiff, reduceIte, if_true, if_false, ← ei, hi4, a_copy_eq, a_kd_eq, a_ln_eq, cn00, lt00, Nat.zero_add, n0, m5]
    refine ⟨hi5, fun _ => hp1, fun _ => hp0⟩
  | succ z ih =>
    intro i sf I W D P h0 h1 h2 hT hc hb0 hno hm sp hun hP
    obtain ⟨E, rfl⟩ : ∃ E, D = E + 20 := ⟨D - 20, by omega⟩
    have hS := hT.s
    have e0 := Int32.le_iff_toInt_le.mp h0
    have hi : 0 ≤ i ∧ i < 4 := ⟨h0, by rw [Int32.lt_iff_toInt_lt]; omega⟩
    have iml : i < m := by rw [Int32.lt_iff_toInt_lt]; omega
    have him : i.toNatClampNeg < m.toNatClampNeg := cl_lt h0 iml
    have ei : ¬ i = I (C + 27) 8 := by
      rw [hm]
      intro e
      rw [e] at h1
      omega
    have hi4 : ¬ 4 < i := by clear hT hS hP hc sp hun ih bm; grind
    have hi5 : 0 ≤ i ∧ i < 5 := ⟨h0, by clear hT hS hP hc sp hun ih bm; grind⟩
    obtain ⟨⟨a0, a1⟩, er⟩ := bm _ him
    have e17 : W 0 17 = Y 0 17 := hb0 0 17 (by unfold sb; omega)
    obtain ⟨-, ⟨ha, an0, -⟩, -⟩ := aa_of hc a0 (by rw [e17]; exact a1)
    have ei1 : (i + 1).toInt = i.toInt + 1 := by rw [ti_add (by omega)]; omega
    obtain ⟨t1, t2, t3, t4⟩ := lp_st h0 iml
    have hl := fun w u1 u2 => le_extend_71 (n := n) (t := t) (P := P) (E := E) (sf := sf) (w := w) hse bm bd y6 hi him (fun sf J W P q1 q2 q3 q4 q5 q6 q7 hP => ih (i + 1) sf J W (E + 19) P t2 (by omega) (by omega) q1 q2 q3 q4 q5 q6 q7 hP) t4 hT hc hb0 hno hm sp hun hP 0 (by decide) I u1 u2 (by decide) hT xf_refl
    have hp0 := hP I hT xf_refl
    have hn : ¬ R (C + 28) i.toNatClampNeg = 0 := by rw [er]; exact an0
    clear hP hc sp hun ih bm
    rw [a_enter1 (M := a_m138) rfl (a_cat_rf (a_cat_int (a_cat_int a_cat_nil))) (show 3 ≤ 8 by decide)]
    show a_at _ (a_xm a_m138) 0 [some (a_rf (C + 27)), some (.int i), some (.int sf), none, none, none, none, none] [] _ _
    simp only [q138_0, q138_1, q138_2, q138_5, q138_6, q138_7, q138_10, q138_11, q138_12, q138_13, q138_14, q138_17, q138_20, q138_21, q138_22, q138_23, q138_26, q138_29, q138_30, q138_31, q138_34, q138_35, q138_38, q138_39, q138_40, q138_43, q138_44, q138_45, q138_48, q138_51, q138_52, q138_53, q138_56, q138_57, q138_58, q138_59, q138_60, q138_61, q138_62, k_27 hS, z_27, r_27_5 hS, k_32 hS, l_32 hS, z_32, r_27_6 hS, k_33 hS, l_33 hS, z_33, r_27_7 hS, k_34 hS, l_34 hS, z_34, r_27_1 hS, k_28 hS, l_28 hS, z_28, as_nil, as_i, as_r, Nat.reduceAdd, Nat.reduceLeDiff, z_eq0, z_eq1, z_or, z_em, Classical.not_not, not_false_eq_true, not_true_eq_false, true_and, and_true, false_and, and_false, and_self, true_implies, false_implies, implies_true, Option.toList_some, Option.toList_none, List.cons_append, List.nil_append, Nat.add_eq_zero_iff, a_nl_i, a_nl_r, a_nl_n, true_or, or_true, eq_self, a_isRA_22, a_isRA_24, a_isRA_32, a_isA_20, ok_4, ok_5, ok_6, ok_7, ok_9, ok_20, ok_21, ok_30, ok_50, ok_180, ok_192, ok_200, ui_ap, cc_ne, cc_n0, cc_0n, Nat.reduceEqDiff, reduceIte, if_true, if_false, ei, hi4]
    refine ⟨hi5, fun _ => ⟨hi, ?_⟩, fun _ => hp0⟩
    refine ck_worth hi hn hT (fun v => ?_)
    simp only [q138_65, q138_66, q138_68, q138_69, as_nil, as_i, as_r, Nat.reduceAdd, Nat.reduceLeDiff, z_eq0, z_eq1, z_or, z_em, Classical.not_not, not_false_eq_true, not_true_eq_false, true_and, and_true, false_and, and_false, and_self, true_implies, false_implies, implies_true, Option.toList_some, Option.toList_none, List.cons_append, List.nil_append, Nat.add_eq_zero_iff, a_nl_i, a_nl_r, a_nl_n, true_or, or_true, eq_self, a_isRA_22, a_isRA_24, a_isRA_32, a_isA_20, ok_4, ok_5, ok_6, ok_7, ok_9, ok_20, ok_21, ok_30, ok_50, ok_180, ok_192, ok_200, ui_ap, cc_ne, cc_n0, cc_0n, Nat.reduceEqDiff, reduceIte, if_true, if_false, er]
    exact hl _ _ _
end ZMM
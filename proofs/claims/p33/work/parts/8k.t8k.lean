/-! the class: the best: collect -/
section ZKK
variable {d n t C c : Nat} {K L : Nat → Nat} {I I0 J J0 J1 J2 : Nat → Nat → Int32} {R : Nat → Nat → Nat} {P : Option Value → AH → Prop}
variable {Y Z W : Nat → Nat → Int32} {R' R1 R2 : Nat → Nat → Nat} {g : Nat → Int32}
theorem cy_lift (hT : cT C K L I R) (hc : cpP C K L I R Y) (hse : seP C R Y) {a : Nat} {i : Int32} (ap : aaP C K I Y i a) (haa : (R (C + 15) i.toNatClampNeg) = a) (pa : 0 ≤ Y 20 i.toNatClampNeg) (hP : ∀ J, dL C K L R I J → cpP C K L J R (unY Y i) → (∀ x j, ¬ (x = a ∧ (j = 13 ∨ j = 14)) → J x j = lfI I (R (C + 16) (Y 20 i.toNatClampNeg).toNatClampNeg) (Y 21 i.toNatClampNeg) (Y 10 i.toNatClampNeg) x j) → P none (n, t, K, L, J, R)) : a_does (d + 4) 51 [a_rf (C + 14), a_rf a] (n, t, K, L, I, R) P := by
  have hS := hT.s
  obtain ⟨ai, ⟨ha, an0, a4n⟩, am, al⟩ := id ap
  obtain ⟨a1, a2, a4, a3⟩ := hT.g_ask a ha
  have a0 : (a = 0) = False := eq_false an0
  have gA := hT.g_asksR
  have gB := hT.g_benchesR
  have gX := hT.g_textsR
  have hy := hc.2.2.2.2
  have y10 := hy.2.1 i.toNatClampNeg
  have e13 : I a 13 = Y 20 i.toNatClampNeg := al.2.2.2.1.1
  have e14 : I a 14 = Y 21 i.toNatClampNeg := al.2.2.2.1.2
  have i30 : i.toNatClampNeg < 30 := a_lt30 ⟨ai.1, Int32.lt_of_lt_of_le ai.2 hy.2.2.2.2.1.2⟩
  obtain ⟨⟨p21, p200, psl⟩, p5⟩ := hy.2.2.2.2.2.2.1 _ i30 pa
  have p6 : Y 20 i.toNatClampNeg < Y 0 6 := (hc.2.1.2.2.2.1 i ai.1 ai.2 pa).1
  have s200 : 0 ≤ Y 21 i.toNatClampNeg ∧ Y 21 i.toNatClampNeg ≤ 200 := ⟨p21, p200⟩
  obtain ⟨kb, kb0, kb5, kb6⟩ := hc.2.1.2.2.1 _ pa p6
  obtain ⟨eB2, eB3, -⟩ := hse.1 _ pa p6
  obtain ⟨bB, ⟨w1, w2, w3⟩, ⟨s1, s2, s3⟩, -⟩ := hT.g_bnc _ kb
  have B1 : K ((R (C + 16) (Y 20 i.toNatClampNeg).toNatClampNeg) + 1) = 20 := by rw [← eB2]; exact w2
  have B2 : K ((R (C + 16) (Y 20 i.toNatClampNeg).toNatClampNeg) + 2) = 20 := by rw [← eB3]; exact s2
  have b6 : Y 20 i.toNatClampNeg < 6 := Int32.lt_of_lt_of_le p6 hy.2.2.2.2.2.1.2
  have hbc : 0 ≤ Y 20 i.toNatClampNeg ∧ Y 20 i.toNatClampNeg < I (C + 14) 5 ∧ Y 20 i.toNatClampNeg < 6 := ⟨pa, by rw [hc.2.1.1]; exact p6, b6⟩
  have rows : ∀ c : Int32, 0 ≤ c → c < Y 0 6 → R (R (C + 16) c.toNatClampNeg) 2 = R (C + 16) c.toNatClampNeg + 1 ∧ R (R (C + 16) c.toNatClampNeg) 3 = R (C + 16) c.toNatClampNeg + 2 ∧ ¬ R (C + 16) c.toNatClampNeg + 1 = a ∧ ¬ R (C + 16) c.toNatClampNeg + 2 = a := fun c c0 c1 => by
    obtain ⟨e1, e2, -⟩ := hse.1 c c0 c1
    have kc := (hc.2.1.2.2.1 c c0 c1).1
    obtain ⟨-, ⟨-, w1, -⟩, ⟨-, w2, -⟩, -⟩ := hT.g_bnc _ kc
    refine ⟨e1, e2, fun e => ?_, fun e => ?_⟩
    · rw [e1, e, ha] at w1
      cases w1
    · rw [e2, e, ha] at w2
      cases w2
  have hl := le_lift_14 (d := d) (n := n) (t := t) (P := P) hT ha kb eB2 eB3 s200 y10 psl e14 al.1.2.2.1 (fun J hJL hJ => by
    have hJa : ∀ x j, ¬ (x = a ∧ (j = 13 ∨ j = 14)) → a_ui (a_ui J a 13 (-9)) a 14 (-9) x j = lfI I (R (C + 16) (Y 20 i.toNatClampNeg).toNatClampNeg) (Y 21 i.toNatClampNeg) (Y 10 i.toNatClampNeg) x j := fun x j q => by
      rw [ui_ap, if_neg (by omega), ui_ap, if_neg (by omega), hJ]
    have f20 : ∀ x j, K x = 20 → ¬ x = (R (C + 16) (Y 20 i.toNatClampNeg).toNatClampNeg) + 1 → ¬ x = (R (C + 16) (Y 20 i.toNatClampNeg).toNatClampNeg) + 2 → a_ui (a_ui J a 13 (-9)) a 14 (-9) x j = I x j := fun x j kx n1 n2 => by
      rw [hJa x j (fun q => by rw [q.1, ha] at kx; cases kx)]
      unfold lfI
      rw [if_neg (fun q => n1 q.1), if_neg (fun q => n2 q.1)]
    have fk : ∀ x j, ¬ K x = 20 → ¬ (x = a ∧ (j = 13 ∨ j = 14)) → a_ui (a_ui J a 13 (-9)) a 14 (-9) x j = I x j := fun x j kx n1 => by
      rw [hJa x j n1]
      unfold lfI
      rw [if_neg (fun q => kx (by rw [q.1]; exact B1)), if_neg (fun q => kx (by rw [q.1]; exact B2))]
    have cin : ∀ k, k ≤ 43 → ∀ j, a_ui (a_ui J a 13 (-9)) a 14 (-9) (C + k) j = I (C + k) j := fun k hk j => by
      rw [hJa _ _ (by omega)]
      unfold lfI
      rw [if_neg (by omega), if_neg (by omega)]
    refine hP _ (dL_place hJL a1 ha (fun q => absurd q (by decide))) (cp_mk hT hc unY_b (inP_un hy.2.2.2.2.2.2.1) (fun _ _ => ⟨rfl, rfl⟩) (fun _ _ _ _ _ _ _ => rfl) (fun k j hk => cin k (by omega) j) (fun x j kx n1 n2 => fk x j (by rw [kx]; decide) (by omega)) (fun x j kx _ => fk x j (by rw [kx]; decide) (fun q => by rw [q.1, ha] at kx; cases kx)) (fun x j kx => fk x j (by rw [kx]; decide) (fun q => by rw [q.1, ha] at kx; cases kx)) (fun k k0 k1 j => ?_) (fun o o0 o1 => ?_) ?_) hJa
    · have hk := (hc.2.2.2.1.2 k k0 k1).1
      obtain ⟨q, -⟩ := hse.2.2.1 k _ k0 k1 pa p6
      exact f20 _ _ (hT.g_txt _ hk).2.2.1 (by omega) (by omega)
    · have ao := hc.2.2.1.2.1 o o0 o1
      by_cases e : o = i
      · have ea : R (C + 15) o.toNatClampNeg = a := by rw [e]; exact haa
        rw [ea, e, un_a (Or.inl rfl), un_a (Or.inr rfl), ui_ap, ui_ap, if_neg (by omega), if_pos ⟨rfl, rfl⟩, ui_ap, if_pos ⟨rfl, rfl⟩]
        exact ⟨rfl, rfl⟩
      · have ea : ¬ R (C + 15) o.toNatClampNeg = a := fun q => e (by rw [← ao.2.2, q]; exact a4n)
        have hne : ¬ o.toNatClampNeg = i.toNatClampNeg := fun q => e (cl_inj o0 ai.1 q)
        rw [fk _ _ (by rw [ao.1]; decide) (fun q => ea q.1), fk _ _ (by rw [ao.1]; decide) (fun q => ea q.1), un_o (Or.inr hne), un_o (Or.inr hne)]
        exact (hc.2.2.1.2.2.2 o o0 o1).2.2.2.1
    · refine pl_un hc.2.1.2.2.2 hy.2.1 ai pa (fun c c0 c1 j => ?_) (fun c c0 c1 j => ?_)
      · obtain ⟨e1, e2, n1, n2⟩ := rows c c0 c1
        unfold whC
        rw [e1, hJa _ _ (fun q => n1 q.1)]
        unfold lfI
        by_cases e : c = Y 20 i.toNatClampNeg
        · subst e
          by_cases q : (Y 21 i.toNatClampNeg).toNatClampNeg ≤ j ∧ j < (Y 21 i.toNatClampNeg).toNatClampNeg + (Y 10 i.toNatClampNeg).toNatClampNeg
          · rw [if_pos ⟨rfl, q⟩, if_pos ⟨rfl, q⟩]
          · rw [if_neg (fun w => q w.2), if_neg (by omega), if_neg (fun w => q w.2)]
        · have := se_ne hT hc hse ⟨c0, c1⟩ ⟨pa, p6⟩ e
          rw [if_neg (by omega), if_neg (by omega), if_neg (fun w => e w.1)]
      · obtain ⟨e1, e2, n1, n2⟩ := rows c c0 c1
        unfold snC
        rw [e2, hJa _ _ (fun q => n2 q.1)]
        unfold lfI
        by_cases e : c = Y 20 i.toNatClampNeg
        · subst e
          by_cases q : (Y 21 i.toNatClampNeg).toNatClampNeg ≤ j ∧ j < (Y 21 i.toNatClampNeg).toNatClampNeg + (Y 10 i.toNatClampNeg).toNatClampNeg
          · rw [if_neg (by omega), if_pos ⟨rfl, q⟩, if_pos ⟨rfl, q⟩]
          · rw [if_neg (by omega), if_neg (fun w => q w.2), if_neg (fun w => q w.2)]
        · have := se_ne hT hc hse ⟨c0, c1⟩ ⟨pa, p6⟩ e
          rw [if_neg (by omega), if_neg (by omega), if_neg (fun w => e w.1)]) 0 (by decide) I (Y 21 i.toNatClampNeg) (by decide) y10.1 (Int32.add_zero _).symm (dL_refl hT) (fun y j => by
    unfold lfI
    rw [show (0 : Int32).toNatClampNeg = 0 from rfl, if_neg (by omega), if_neg (by omega)])
  clear hP rows
  rw [a_enter1 (M := a_m51) rfl (a_cat_rf (a_cat_rf a_cat_nil)) (show 2 ≤ 4 by decide)]
  show a_at _ (a_xm a_m51) 0 [some (a_rf (C + 14)), some (a_rf a), none, none] [] _ _
  simp only [q51_0, q51_1, q51_2, q51_5, q51_8, q51_9, q51_10, q51_13, k_14 hS, z_14, sp_benchAt hS gB, as_nil, as_i, as_r, Nat.reduceAdd, Nat.reduceLeDiff, z_eq0, z_eq1, z_or, z_em, Classical.not_not, not_false_eq_true, not_true_eq_false, true_and, and_true, false_and, and_false, and_self, true_implies, false_implies, implies_true, Option.toList_some, Option.toList_none, List.cons_append, List.nil_append, Nat.add_eq_zero_iff, a_nl_i, a_nl_r, a_nl_n, true_or, or_true, eq_self, a_isRA_22, a_isRA_24, a_isRA_32, a_isA_20, ok_4, ok_5, ok_6, ok_7, ok_9, ok_20, ok_21, ok_30, ok_50, ok_180, ok_192, ok_200, ha, a0, hbc, kb, kb0, e13, e14]
  try simp only [true_and, and_true, true_implies, false_implies, implies_true, not_true_eq_false, not_false_eq_true]
  exact hl
theorem le_collect_47 (hT0 : cT C K L I R) (hc : cpP C K L I R Y) {i p q r w : Int32} (hi : 0 ≤ i ∧ i < 4) (ai : 0 ≤ g i.toNatClampNeg ∧ g i.toNatClampNeg < Y 0 17) (er : R (C + 28) i.toNatClampNeg = R (C + 15) (g i.toNatClampNeg).toNatClampNeg) (hq : q ≤ 199) (hP : ∀ J, cT C K L J R → fcP C I J → spP C Y g (i.toNatClampNeg + 1) J → P none (n, t, K, L, J, R)) : ∀ s : Int32, s ≤ 210 → ∀ J, 0 ≤ s → cT C K L J R → fcP C I J → spP C Y g (i.toNatClampNeg + 1) J → a_at (d + 7) (a_xm a_m133) 47 [some (a_rf (C + 27)), some (.int i), some (.int p), some (.int q), some (.int r), some (a_rf (R (C + 15) (g i.toNatClampNeg).toNatClampNeg)), some (.int w), some (.int s)] [] (n, t, K, L, J, R) P := by
  have l1 := hc.2.2.2.2.2.2.1 _ ai.1 ai.2
  have l4 := hc.2.2.2.2.2.1 (g i.toNatClampNeg).toNatClampNeg
  refine up_ind 210 (fun s hk ih => ?_)
  intro J q0 hT hf sp
  have hS := hT.s
  have hcJ := fc_cp hT0 hc hf
  have apJ := aa_of hcJ ai.1 ai.2
  obtain ⟨-, ⟨ha, an0, -⟩, -, al⟩ := id apJ
  have e2 : J (R (C + 15) (g i.toNatClampNeg).toNatClampNeg) 2 = Y 10 (g i.toNatClampNeg).toNatClampNeg := al.1.2.2.1
  rw [q133_47]
  by_cases ci : q < s + Y 10 (g i.toNatClampNeg).toNatClampNeg - 1
  · have hp := hP J hT hf sp
    clear ih hP hc hcJ apJ al sp hf
    simp only [q133_49, q133_51, q133_54, q133_55, q133_56, q133_57, q133_58, q133_93, k_27 hS, z_27, as_nil, as_i, as_r, Nat.reduceAdd, Nat.reduceLeDiff, z_eq0, z_eq1, z_or, z_em, Classical.not_not, not_false_eq_true, not_true_eq_false, true_and, and_true, false_and, and_false, and_self, true_implies, false_implies, implies_true, Option.toList_some, Option.toList_none, List.cons_append, List.nil_append, Nat.add_eq_zero_iff, a_nl_i, a_nl_r, a_nl_n, true_or, or_true, eq_self, a_isRA_22, a_isRA_24, a_isRA_32, a_isA_20, ok_4, ok_5, ok_6, ok_7, ok_9, ok_20, ok_21, ok_30, ok_50, ok_180, ok_192, ok_200, ha, an0, e2, ci]
    try simp only [true_and, and_true, true_implies, false_implies, implies_true, not_true_eq_false, not_false_eq_true]
    first
      | exact hp
      | grind
  · obtain ⟨g1, g2⟩ := pf_next q0 hk ⟨l1, l4.2⟩ hq ci
    have hs : 0 ≤ s ∧ s ≤ 199 := ⟨q0, by clear ih hP hc hcJ apJ al sp hf; grind⟩
    have hsl : s + Y 10 (g i.toNatClampNeg).toNatClampNeg ≤ 200 := by clear ih hP hc hcJ apJ al sp hf; grind
    have hnext : ∀ J, cT C K L J R → fcP C I J → spP C Y g (i.toNatClampNeg + 1) J → a_at (d + 7) (a_xm a_m133) 87 [some (a_rf (C + 27)), some (.int i), some (.int p), some (.int q), some (.int r), some (a_rf (R (C + 15) (g i.toNatClampNeg).toNatClampNeg)), some (.int w), some (.int s)] [] (n, t, K, L, J, R) P := fun J hT hf sp => by
      have hS := hT.s
      have hg := ih g1 J g2 hT hf sp
      clear ih hP hc hcJ
      simp only [q133_87, q133_90, as_nil, as_i, as_r, Nat.reduceAdd, Nat.reduceLeDiff, z_eq0, z_eq1, z_or, z_em, Classical.not_not, not_false_eq_true, not_true_eq_false, true_and, and_true, false_and, and_false, and_self, true_implies, false_implies, implies_true, Option.toList_some, Option.toList_none, List.cons_append, List.nil_append, Nat.add_eq_zero_iff, a_nl_i, a_nl_r, a_nl_n, true_or, or_true, eq_self, a_isRA_22, a_isRA_24, a_isRA_32, a_isA_20, ok_4, ok_5, ok_6, ok_7, ok_9, ok_20, ok_21, ok_30, ok_50, ok_180, ok_192, ok_200]
      exact hg
    have hcol : a_at (d + 7) (a_xm a_m133) 80 [some (a_rf (C + 27)), some (.int i), some (.int p), some (.int q), some (.int r), some (a_rf (R (C + 15) (g i.toNatClampNeg).toNatClampNeg)), some (.int w), some (.int s)] [] (n, t, K, L, J, R) P := by
      have hg := ce_collectIn (d := d) (n := n) (t := t) (P := fun r' h' => a_at (d + 7) (a_xm a_m133) 87 [some (a_rf (C + 27)), some (.int i), some (.int p), some (.int q), some (.int r), some (a_rf (R (C + 15) (g i.toNatClampNeg).toNatClampNeg)), some (.int w), some (.int s)] (r'.toList ++ []) h' P) hT0 hc hi ai er hs hsl hT hf sp hnext
      clear ih hP hc hcJ hnext
      simp only [q133_80, q133_81, q133_82, q133_84, k_27 hS, z_27, as_nil, as_i, as_r, Nat.reduceAdd, Nat.reduceLeDiff, z_eq0, z_eq1, z_or, z_em, Classical.not_not, not_false_eq_true, not_true_eq_false, true_and, and_true, false_and, and_false, and_self, true_implies, false_implies, implies_true, Option.toList_some, Option.toList_none, List.cons_append, List.nil_append, Nat.add_eq_zero_iff, a_nl_i, a_nl_r, a_nl_n, true_or, or_true, eq_self, a_isRA_22, a_isRA_24, a_isRA_32, a_isA_20, ok_4, ok_5, ok_6, ok_7, ok_9, ok_20, ok_21, ok_30, ok_50, ok_180, ok_192, ok_200]
      exact hg
    have hsame := hnext J hT hf sp
    clear ih hP hc hcJ apJ al sp hf hnext
    simp only [q133_49, q133_51, q133_54, q133_55, q133_56, q133_57, q133_58, q133_61, q133_63, q133_66, q133_67, q133_70, q133_72, q133_74, k_27 hS, z_27, r_27_0 hS, k_14 hS, z_14, as_nil, as_i, as_r, Nat.reduceAdd, Nat.reduceLeDiff, z_eq0, z_eq1, z_or, z_em, Classical.not_not, not_false_eq_true, not_true_eq_false, true_and, and_true, false_and, and_false, and_self, true_implies, false_implies, implies_true, Option.toList_some, Option.toList_none, List.cons_append, List.nil_append, Nat.add_eq_zero_iff, a_nl_i, a_nl_r, a_nl_n, true_or, or_true, eq_self, a_isRA_22, a_isRA_24, a_isRA_32, a_isA_20, ok_4, ok_5, ok_6, ok_7, ok_9, ok_20, ok_21, ok_30, ok_50, ok_180, ok_192, ok_200, ha, an0, e2, ci]
    try simp only [true_and, and_true, true_implies, false_implies, implies_true, not_true_eq_false, not_false_eq_true]
    refine ⟨fun _ => hcol, fun _ => ck_isTooNear ha hT (fun v => ?_)⟩
    simp only [q133_77, as_nil, as_i, as_r, Nat.reduceAdd, Nat.reduceLeDiff, z_eq0, z_eq1, z_or, z_em, Classical.not_not, not_false_eq_true, not_true_eq_false, true_and, and_true, false_and, and_false, and_self, true_implies, false_implies, implies_true, Option.toList_some, Option.toList_none, List.cons_append, List.nil_append, Nat.add_eq_zero_iff, a_nl_i, a_nl_r, a_nl_n, true_or, or_true, eq_self, a_isRA_22, a_isRA_24, a_isRA_32, a_isA_20, ok_4, ok_5, ok_6, ok_7, ok_9, ok_20, ok_21, ok_30, ok_50, ok_180, ok_192, ok_200]
    exact ⟨fun _ => hsame, fun _ => hcol⟩
theorem ce_collect (hT0 : cT C K L I R) (hc : cpP C K L I R Y) {i p q r : Int32} (hi : 0 ≤ i ∧ i < 4) (ai : 0 ≤ g i.toNatClampNeg ∧ g i.toNatClampNeg < Y 0 17) (er : R (C + 28) i.toNatClampNeg = R (C + 15) (g i.toNatClampNeg).toNatClampNeg) (hp : 0 ≤ p ∧ p ≤ 210) (hq : q ≤ 199) (hT : cT C K L J R) (hf : fcP C I J) (sp : spP C Y g i.toNatClampNeg J) (hP : ∀ J, cT C K L J R → fcP C I J → spP C Y g (i.toNatClampNeg + 1) J → P none (n, t, K, L, J, R)) : a_does (d + 8) 133 [a_rf (C + 27), .int i, .int p, .int q, .int r] (n, t, K, L, J, R) P := by
  have hS := hT.s
  have hcJ := fc_cp hT0 hc hf
  have apJ := aa_of hcJ ai.1 ai.2
  obtain ⟨-, ⟨ha, hn, -⟩, -, al⟩ := id apJ
  have hx96 := (hT.g_ask _ ha).1
  have na : ¬ (R (C + 15) (g i.toNatClampNeg).toNatClampNeg) = C + 31 := by omega
  have hl := fun w => le_collect_47 (d := d) (n := n) (t := t) (P := P) hT0 hc (p := p) (r := r) (w := w) hi ai er hq hP p hp.2 (a_ui J (C + 31) i.toNatClampNeg 0) hp.1 (sT_Best_spotCounts hT (by decide)) (fc_ui hf (by omega)) (fun k hk => by
    by_cases e : k = i.toNatClampNeg
    · rw [e, ui_ap, if_pos ⟨rfl, rfl⟩]
      exact ⟨by decide, fun y hy => absurd hy (Nat.not_lt_zero y)⟩
    · rw [ui_ap, if_neg (fun q => e q.2)]
      refine ⟨(sp k (by omega)).1, fun y hy => ?_⟩
      rw [ui_ap, if_neg (by omega), ui_ap, if_neg (by omega)]
      exact (sp k (by omega)).2 y hy)
  clear hP hc hcJ apJ al sp hf
  rw [a_enter1 (M := a_m133) rfl (a_cat_rf (a_cat_int (a_cat_int (a_cat_int (a_cat_int a_cat_nil))))) (show 5 ≤ 8 by decide)]
  show a_at _ (a_xm a_m133) 0 [some (a_rf (C + 27)), some (.int i), some (.int p), some (.int q), some (.int r), none, none, none] [] _ _
  simp only [q133_0, q133_1, q133_4, q133_5, q133_6, q133_8, q133_9, q133_12, q133_13, q133_14, q133_15, q133_17, q133_20, q133_21, q133_24, q133_26, q133_28, q133_31, k_27 hS, z_27, r_27_1 hS, k_28 hS, l_28 hS, z_28, r_27_4 hS, k_31 hS, l_31 hS, z_31, as_nil, as_i, as_r, Nat.reduceAdd, Nat.reduceLeDiff, z_eq0, z_eq1, z_or, z_em, Classical.not_not, not_false_eq_true, not_true_eq_false, true_and, and_true, false_and, and_false, and_self, true_implies, false_implies, implies_true, Option.toList_some, Option.toList_none, List.cons_append, List.nil_append, Nat.add_eq_zero_iff, a_nl_i, a_nl_r, a_nl_n, true_or, or_true, eq_self, a_isRA_22, a_isRA_24, a_isRA_32, a_isA_20, ok_4, ok_5, ok_6, ok_7, ok_9, ok_20, ok_21, ok_30, ok_50, ok_180, ok_192, ok_200, ui_ap, cc_ne, cc_n0, cc_0n, Nat.reduceEqDiff, reduceIte, if_true, if_false, er, ha, hn, na]
  try simp only [true_and, and_true, true_implies, false_implies, implies_true, not_true_eq_false, not_false_eq_true]
  refine ⟨hi, ?_⟩
  have hl2 : ∀ v : Int32, a_at (d + 7) (a_xm a_m133) 42 [some (a_rf (C + 27)), some (.int i), some (.int p), some (.int q), some (.int r), some (a_rf (R (C + 15) (g i.toNatClampNeg).toNatClampNeg)), none, none] [.int v] (n, t, K, L, (a_ui J (C + 31) i.toNatClampNeg 0), R) P := fun v => by
    simp only [q133_42, q133_44, q133_45, as_nil, as_i, as_r, Nat.reduceAdd, Nat.reduceLeDiff, z_eq0, z_eq1, z_or, z_em, Classical.not_not, not_false_eq_true, not_true_eq_false, true_and, and_true, false_and, and_false, and_self, true_implies, false_implies, implies_true, Option.toList_some, Option.toList_none, List.cons_append, List.nil_append, Nat.add_eq_zero_iff, a_nl_i, a_nl_r, a_nl_n, true_or, or_true, eq_self, a_isRA_22, a_isRA_24, a_isRA_32, a_isA_20, ok_4, ok_5, ok_6, ok_7, ok_9, ok_20, ok_21, ok_30, ok_50, ok_180, ok_192, ok_200]
    exact hl v
  repeat' first
    | with_reducible apply And.intro
    | with_reducible intro _
    | exact hi.1
    | exact hi.2
    | exact hl2 _
    | (simp only [q133_34, q133_37, q133_38, q133_41, as_nil, as_i, as_r, Nat.reduceAdd, Nat.reduceLeDiff, z_eq0, z_eq1, z_or, z_em, Classical.not_not, not_false_eq_true, not_true_eq_false, true_and, and_true, false_and, and_false, and_self, true_implies, false_implies, implies_true, Option.toList_some, Option.toList_none, List.cons_append, List.nil_append, Nat.add_eq_zero_iff, a_nl_i, a_nl_r, a_nl_n, true_or, or_true, eq_self, a_isRA_22, a_isRA_24, a_isRA_32, a_isA_20, ok_4, ok_5, ok_6, ok_7, ok_9, ok_20, ok_21, ok_30, ok_50, ok_180, ok_192, ok_200]; exact hl2 _)
    | (refine ck_isIn (fun v => ?_); simp only [q133_34, q133_37, q133_38, q133_41, as_nil, as_i, as_r, Nat.reduceAdd, Nat.reduceLeDiff, z_eq0, z_eq1, z_or, z_em, Classical.not_not, not_false_eq_true, not_true_eq_false, true_and, and_true, false_and, and_false, and_self, true_implies, false_implies, implies_true, Option.toList_some, Option.toList_none, List.cons_append, List.nil_append, Nat.add_eq_zero_iff, a_nl_i, a_nl_r, a_nl_n, true_or, or_true, eq_self, a_isRA_22, a_isRA_24, a_isRA_32, a_isA_20, ok_4, ok_5, ok_6, ok_7, ok_9, ok_20, ok_21, ok_30, ok_50, ok_180, ok_192, ok_200]; exact ⟨fun _ => hl2 _, fun _ => hl2 _⟩)
    | (simp only [q133_34, q133_37, q133_38, q133_41, as_nil, as_i, as_r, Nat.reduceAdd, Nat.reduceLeDiff, z_eq0, z_eq1, z_or, z_em, Classical.not_not, not_false_eq_true, not_true_eq_false, true_and, and_true, false_and, and_false, and_self, true_implies, false_implies, implies_true, Option.toList_some, Option.toList_none, List.cons_append, List.nil_append, Nat.add_eq_zero_iff, a_nl_i, a_nl_r, a_nl_n, true_or, or_true, eq_self, a_isRA_22, a_isRA_24, a_isRA_32, a_isA_20, ok_4, ok_5, ok_6, ok_7, ok_9, ok_20, ok_21, ok_30, ok_50, ok_180, ok_192, ok_200])
/-- what trying may change -/
def xfP (C : Nat) (I J : Nat → Nat → Int32) : Prop := ∀ x j, ¬ x = C + 9 → ¬ x = C + 10 → ¬ (x = C + 27 ∧ j = 9) → ¬ x = C + 33 → ¬ x = C + 34 → J x j = I x j
theorem xf_refl : xfP C I I := fun _ _ _ _ _ _ _ => rfl
theorem xf_tr (h : xfP C I J) (h2 : xfP C J J2) : xfP C I J2 := fun x j a b c d e => (h2 x j a b c d e).trans (h x j a b c d e)
theorem xf_cp (hT : cT C K L I R) (hc : cpP C K L I R Y) (h : xfP C I J) : cpP C K L J R Y := cp_fr hT hc (fun k j hk => h _ _ (by omega) (by omega) (by omega) (by omega) (by omega)) (fun x j kx => by
  have := (hT.g_ask x kx).1
  exact h _ _ (by omega) (by omega) (by omega) (by omega) (by omega)) (fun x j kx _ => by
  have := (hT.g_bnc x kx).1
  exact h _ _ (by omega) (by omega) (by omega) (by omega) (by omega)) (fun x j kx => by
  have := (hT.g_txt x kx).1
  exact h _ _ (by omega) (by omega) (by omega) (by omega) (by omega)) (fun k k0 k1 j => by
  have := (hT.g_txt _ (hc.2.2.2.1.2 k k0 k1).1).2.1
  exact h _ _ (by omega) (by omega) (by omega) (by omega) (by omega)) (fun b b0 b1 j => by
  obtain ⟨-, ⟨w1, -⟩, ⟨s1, -⟩, -⟩ := hT.g_bnc _ (hc.2.1.2.2.1 b b0 b1).1
  exact ⟨h _ _ (by omega) (by omega) (by omega) (by omega) (by omega), h _ _ (by omega) (by omega) (by omega) (by omega) (by omega)⟩)
theorem sp_x {p : Nat} (h : spP C Y g p I) (h2 : xfP C I J) : spP C Y g p J := fun i hi => by
  have e : ∀ k j, (k = 29 ∨ k = 30 ∨ k = 31) → J (C + k) j = I (C + k) j := fun k j hk => h2 _ _ (by omega) (by omega) (by omega) (by omega) (by omega)
  rw [e 31 _ (by omega)]
  refine ⟨(h i hi).1, fun k hk => ?_⟩
  rw [e 29 _ (by omega), e 30 _ (by omega)]
  exact (h i hi).2 k hk
theorem op_hg {a b s w : Int32} : ∀ (k : Nat) (x : Int32), opI Y a b s w k x = true → ∀ z : Nat, z < k → hgI Y a b (s + (x + Int32.ofNat z)) (Y 0 17).toNatClampNeg 0 0 = 0 := by
  intro k
  induction k with
  | zero => intro x _ z hz; omega
  | succ k ih =>
    intro x h z hz
    unfold opI at h
    by_cases c1 : s + x ≤ 199 ∧ hgI Y a b (s + x) (Y 0 17).toNatClampNeg 0 0 = 0 ∧ ¬ bcf (fhY Y a b (s + x)) < (if (w >>> (x &&& 31)) &&& 1 = 0 then 1 else 2)
    · rw [if_pos c1] at h
      by_cases e : z = 0
      · rw [e, show Int32.ofNat 0 = 0 from rfl, Int32.add_zero]
        exact c1.2.1
      · have := ih (x + 1) h (z - 1) (by omega)
        rw [show x + Int32.ofNat z = x + 1 + Int32.ofNat (z - 1) by
          rw [Int32.add_assoc]
          congr 1
          rw [show z = (z - 1) + 1 by omega, Int32.ofNat_add, show z - 1 + 1 - 1 = z - 1 by omega, Int32.add_comm]
          rfl]
        exact this
    · rw [if_neg c1] at h
      exact absurd h Bool.false_ne_true
/-- 8 * s + b, taken apart -/
theorem sp_div {b s : Int32} (hb : 0 ≤ b ∧ b < 6) (hs : 0 ≤ s ∧ s ≤ 199) : (8 * s + b) / 8 = s ∧ 8 * s + b - (8 * s + b) / 8 * 8 = b := by
  have c0 : (0 : Int32).toInt = 0 := rfl
  have c6 : (6 : Int32).toInt = 6 := rfl
  have c8 : (8 : Int32).toInt = 8 := rfl
  have c199 : (199 : Int32).toInt = 199 := rfl
  have b0 := Int32.le_iff_toInt_le.mp hb.1
  have b1 := Int32.lt_iff_toInt_lt.mp hb.2
  have s0 := Int32.le_iff_toInt_le.mp hs.1
  have s1 := Int32.le_iff_toInt_le.mp hs.2
  have em : (8 * s).toInt = 8 * s.toInt := by
    rw [Int32.toInt_mul, c8]
    simp only [Int.bmod_def]
    omega
  have e : (8 * s + b).toInt = 8 * s.toInt + b.toInt := by rw [ti_add (by omega), em]
  have h0 : 0 ≤ 8 * s + b := by rw [Int32.le_iff_toInt_le]; omega
  have ed : ((8 * s + b) / 8).toInt = s.toInt := by
    rw [ti_div h0 (by decide), e, c8]
    omega
  have e1 : (8 * s + b) / 8 = s := Int32.toInt_inj.mp ed
  refine ⟨e1, ?_⟩
  rw [e1]
  clear e1 ed h0 e em
  grind
end ZKK
section
/-! the class: the best: collect -/
section ZKK
variable {d n t C c : Nat} {K L : Nat → Nat} {I I0 J J0 J1 J2 : Nat → Nat → Int32} {R : Nat → Nat → Nat} {P : Option Value → AH → Prop}
variable {Y Z W : Nat → Nat → Int32} {R' R1 R2 : Nat → Nat → Nat} {g : Nat → Int32}
theorem cy_lift (hT : cT C K L I R) (hc : cpP C K L I R Y) (hse : seP C R Y) {a : Nat} {i : Int32} (ap : aaP C K I Y i a) (haa : (R (C + 15) i.toNatClampNeg) = a) (pa : 0 ≤ Y 20 i.toNatClampNeg) (hP : ∀ J, dL C K L R I J → cpP C K L J R (unY Y i) → (∀ x j, ¬ (x = a ∧ (j = 13 ∨ j = 14)) → J x j = lfI I (R (C + 16) (Y 20 i.toNatClampNeg).toNatClampNeg) (Y 21 i.toNatClampNeg) (Y 10 i.toNatClampNeg) x j) → P none (n, t, K, L, J, R)) : a_does (d + 4) 51 [a_rf (C + 14), a_rf a] (n, t, K, L, I, R) P := by
  have hS := hT.s
  obtain ⟨ai, ⟨ha, an0, a4n⟩, am, al⟩ := id ap
  obtain ⟨a1, a2, a4, a3⟩ := hT.g_ask a ha
  have a0 : (a = 0) = False := eq_false an0
  have gA := hT.g_asksR
  have gB := hT.g_benchesR
  have gX := hT.g_textsR
  have hy := hc.2.2.2.2
  have y10 := hy.2.1 i.toNatClampNeg
  have e13 : I a 13 = Y 20 i.toNatClampNeg := al.2.2.2.1.1
  have e14 : I a 14 = Y 21 i.toNatClampNeg := al.2.2.2.1.2
  have i30 : i.toNatClampNeg < 30 := a_lt30 ⟨ai.1, Int32.lt_of_lt_of_le ai.2 hy.2.2.2.2.1.2⟩
  obtain ⟨⟨p21, p200, psl⟩, p5⟩ := hy.2.2.2.2.2.2.1 _ i30 pa
  have p6 : Y 20 i.toNatClampNeg < Y 0 6 := (hc.2.1.2.2.2.1 i ai.1 ai.2 pa).1
  have s200 : 0 ≤ Y 21 i.toNatClampNeg ∧ Y 21 i.toNatClampNeg ≤ 200 := ⟨p21, p200⟩
  obtain ⟨kb, kb0, kb5, kb6⟩ := hc.2.1.2.2.1 _ pa p6
  obtain ⟨eB2, eB3, -⟩ := hse.1 _ pa p6
  obtain ⟨bB, ⟨w1, w2, w3⟩, ⟨s1, s2, s3⟩, -⟩ := hT.g_bnc _ kb
  have B1 : K ((R (C + 16) (Y 20 i.toNatClampNeg).toNatClampNeg) + 1) = 20 := by rw [← eB2]; exact w2
  have B2 : K ((R (C + 16) (Y 20 i.toNatClampNeg).toNatClampNeg) + 2) = 20 := by rw [← eB3]; exact s2
  have b6 : Y 20 i.toNatClampNeg < 6 := Int32.lt_of_lt_of_le p6 hy.2.2.2.2.2.1.2
  have hbc : 0 ≤ Y 20 i.toNatClampNeg ∧ Y 20 i.toNatClampNeg < I (C + 14) 5 ∧ Y 20 i.toNatClampNeg < 6 := ⟨pa, by rw [hc.2.1.1]; exact p6, b6⟩
  have rows : ∀ c : Int32, 0 ≤ c → c < Y 0 6 → R (R (C + 16) c.toNatClampNeg) 2 = R (C + 16) c.toNatClampNeg + 1 ∧ R (R (C + 16) c.toNatClampNeg) 3 = R (C + 16) c.toNatClampNeg + 2 ∧ ¬ R (C + 16) c.toNatClampNeg + 1 = a ∧ ¬ R (C + 16) c.toNatClampNeg + 2 = a := fun c c0 c1 => by
    obtain ⟨e1, e2, -⟩ := hse.1 c c0 c1
    have kc := (hc.2.1.2.2.1 c c0 c1).1
    obtain ⟨-, ⟨-, w1, -⟩, ⟨-, w2, -⟩, -⟩ := hT.g_bnc _ kc
    refine ⟨e1, e2, fun e => ?_, fun e => ?_⟩
    · rw [e1, e, ha] at w1
      cases w1
    · rw [e2, e, ha] at w2
      cases w2
  have hl := le_lift_14 (d := d) (n := n) (t := t) (P := P) hT ha kb eB2 eB3 s200 y10 psl e14 al.1.2.2.1 (fun J hJL hJ => by
    have hJa : ∀ x j, ¬ (x = a ∧ (j = 13 ∨ j = 14)) → a_ui (a_ui J a 13 (-9)) a 14 (-9) x j = lfI I (R (C + 16) (Y 20 i.toNatClampNeg).toNatClampNeg) (Y 21 i.toNatClampNeg) (Y 10 i.toNatClampNeg) x j := fun x j q => by
      rw [ui_ap, if_neg (by omega), ui_ap, if_neg (by omega), hJ]
    have f20 : ∀ x j, K x = 20 → ¬ x = (R (C + 16) (Y 20 i.toNatClampNeg).toNatClampNeg) + 1 → ¬ x = (R (C + 16) (Y 20 i.toNatClampNeg).toNatClampNeg) + 2 → a_ui (a_ui J a 13 (-9)) a 14 (-9) x j = I x j := fun x j kx n1 n2 => by
      rw [hJa x j (fun q => by rw [q.1, ha] at kx; cases kx)]
      unfold lfI
      rw [if_neg (fun q => n1 q.1), if_neg (fun q => n2 q.1)]
    have fk : ∀ x j, ¬ K x = 20 → ¬ (x = a ∧ (j = 13 ∨ j = 14)) → a_ui (a_ui J a 13 (-9)) a 14 (-9) x j = I x j := fun x j kx n1 => by
      rw [hJa x j n1]
      unfold lfI
      rw [if_neg (fun q => kx (by rw [q.1]; exact B1)), if_neg (fun q => kx (by rw [q.1]; exact B2))]
    have cin : ∀ k, k ≤ 43 → ∀ j, a_ui (a_ui J a 13 (-9)) a 14 (-9) (C + k) j = I (C + k) j := fun k hk j => by
      rw [hJa _ _ (by omega)]
      unfold lfI
      rw [if_neg (by omega), if_neg (by omega)]
    refine hP _ (dL_place hJL a1 ha (fun q => absurd q (by decide))) (cp_mk hT hc unY_b (inP_un hy.2.2.2.2.2.2.1) (fun _ _ => ⟨rfl, rfl⟩) (fun _ _ _ _ _ _ _ => rfl) (fun k j hk => cin k (by omega) j) (fun x j kx n1 n2 => fk x j (by rw [kx]; decide) (by omega)) (fun x j kx _ => fk x j (by rw [kx]; decide) (fun q => by rw [q.1, ha] at kx; cases kx)) (fun x j kx => fk x j (by rw [kx]; decide) (fun q => by rw [q.1, ha] at kx; cases kx)) (fun k k0 k1 j => ?_) (fun o o0 o1 => ?_) ?_) hJa
    · have hk := (hc.2.2.2.1.2 k k0 k1).1
      obtain ⟨q, -⟩ := hse.2.2.1 k _ k0 k1 pa p6
      exact f20 _ _ (hT.g_txt _ hk).2.2.1 (by omega) (by omega)
    · have ao := hc.2.2.1.2.1 o o0 o1
      by_cases e : o = i
      · have ea : R (C + 15) o.toNatClampNeg = a := by rw [e]; exact haa
        rw [ea, e, un_a (Or.inl rfl), un_a (Or.inr rfl), ui_ap, ui_ap, if_neg (by omega), if_pos ⟨rfl, rfl⟩, ui_ap, if_pos ⟨rfl, rfl⟩]
        exact ⟨rfl, rfl⟩
      · have ea : ¬ R (C + 15) o.toNatClampNeg = a := fun q => e (by rw [← ao.2.2, q]; exact a4n)
        have hne : ¬ o.toNatClampNeg = i.toNatClampNeg := fun q => e (cl_inj o0 ai.1 q)
        rw [fk _ _ (by rw [ao.1]; decide) (fun q => ea q.1), fk _ _ (by rw [ao.1]; decide) (fun q => ea q.1), un_o (Or.inr hne), un_o (Or.inr hne)]
        exact (hc.2.2.1.2.2.2 o o0 o1).2.2.2.1
    · refine pl_un hc.2.1.2.2.2 hy.2.1 ai pa (fun c c0 c1 j => ?_) (fun c c0 c1 j => ?_)
      · obtain ⟨e1, e2, n1, n2⟩ := rows c c0 c1
        unfold whC
        rw [e1, hJa _ _ (fun q => n1 q.1)]
        unfold lfI
        by_cases e : c = Y 20 i.toNatClampNeg
        · subst e
          by_cases q : (Y 21 i.toNatClampNeg).toNatClampNeg ≤ j ∧ j < (Y 21 i.toNatClampNeg).toNatClampNeg + (Y 10 i.toNatClampNeg).toNatClampNeg
          · rw [if_pos ⟨rfl, q⟩, if_pos ⟨rfl, q⟩]
          · rw [if_neg (fun w => q w.2), if_neg (by omega), if_neg (fun w => q w.2)]
        · have := se_ne hT hc hse ⟨c0, c1⟩ ⟨pa, p6⟩ e
          rw [if_neg (by omega), if_neg (by omega), if_neg (fun w => e w.1)]
      · obtain ⟨e1, e2, n1, n2⟩ := rows c c0 c1
        unfold snC
        rw [e2, hJa _ _ (fun q => n2 q.1)]
        unfold lfI
        by_cases e : c = Y 20 i.toNatClampNeg
        · subst e
          by_cases q : (Y 21 i.toNatClampNeg).toNatClampNeg ≤ j ∧ j < (Y 21 i.toNatClampNeg).toNatClampNeg + (Y 10 i.toNatClampNeg).toNatClampNeg
          · rw [if_neg (by omega), if_pos ⟨rfl, q⟩, if_pos ⟨rfl, q⟩]
          · rw [if_neg (by omega), if_neg (fun w => q w.2), if_neg (fun w => q w.2)]
        · have := se_ne hT hc hse ⟨c0, c1⟩ ⟨pa, p6⟩ e
          rw [if_neg (by omega), if_neg (by omega), if_neg (fun w => e w.1)]) 0 (by decide) I (Y 21 i.toNatClampNeg) (by decide) y10.1 (Int32.add_zero _).symm (dL_refl hT) (fun y j => by
    unfold lfI
    rw [show (0 : Int32).toNatClampNeg = 0 from rfl, if_neg (by omega), if_neg (by omega)])
  clear hP rows
  rw [a_enter1 (M := a_m51) rfl (a_cat_rf (a_cat_rf a_cat_nil)) (show 2 ≤ 4 by decide)]
  show a_at _ (a_xm a_m51) 0 [some (a_rf (C + 14)), some (a_rf a), none, none] [] _ _
  simp only [q51_0, q51_1, q51_2, q51_5, q51_8, q51_9, q51_10, q51_13, k_14 hS, z_14, sp_benchAt hS gB, as_nil, as_i, as_r, Nat.reduceAdd, Nat.reduceLeDiff, z_eq0, z_eq1, z_or, z_em, Classical.not_not, not_false_eq_true, not_true_eq_false, true_and, and_true, false_and, and_false, and_self, true_implies, false_implies, implies_true, Option.toList_some, Option.toList_none, List.cons_append, List.nil_append, Nat.add_eq_zero_iff, a_nl_i, a_nl_r, a_nl_n, true_or, or_true, eq_self, a_isRA_22, a_isRA_24, a_isRA_32, a_isA_20, ok_4, ok_5, ok_6, ok_7, ok_9, ok_20, ok_21, ok_30, ok_50, ok_180, ok_192, ok_200, ha, a0, hbc, kb, kb0, e13, e14]
  try simp only [true_and, and_true, true_implies, false_implies, implies_true, not_true_eq_false, not_false_eq_true]
  exact hl
theorem le_collect_47 (hT0 : cT C K L I R) (hc : cpP C K L I R Y) {i p q r w : Int32} (hi : 0 ≤ i ∧ i < 4) (ai : 0 ≤ g i.toNatClampNeg ∧ g i.toNatClampNeg < Y 0 17) (er : R (C + 28) i.toNatClampNeg = R (C + 15) (g i.toNatClampNeg).toNatClampNeg) (hq : q ≤ 199) (hP : ∀ J, cT C K L J R → fcP C I J → spP C Y g (i.toNatClampNeg + 1) J → P none (n, t, K, L, J, R)) : ∀ s : Int32, s ≤ 210 → ∀ J, 0 ≤ s → cT C K L J R → fcP C I J → spP C Y g (i.toNatClampNeg + 1) J → a_at (d + 7) (a_xm a_m133) 47 [some (a_rf (C + 27)), some (.int i), some (.int p), some (.int q), some (.int r), some (a_rf (R (C + 15) (g i.toNatClampNeg).toNatClampNeg)), some (.int w), some (.int s)] [] (n, t, K, L, J, R) P := by
  have l1 := hc.2.2.2.2.2.2.1 _ ai.1 ai.2
  have l4 := hc.2.2.2.2.2.1 (g i.toNatClampNeg).toNatClampNeg
  refine up_ind 210 (fun s hk ih => ?_)
  intro J q0 hT hf sp
  have hS := hT.s
  have hcJ := fc_cp hT0 hc hf
  have apJ := aa_of hcJ ai.1 ai.2
  obtain ⟨-, ⟨ha, an0, -⟩, -, al⟩ := id apJ
  have e2 : J (R (C + 15) (g i.toNatClampNeg).toNatClampNeg) 2 = Y 10 (g i.toNatClampNeg).toNatClampNeg := al.1.2.2.1
  rw [q133_47]
  by_cases ci : q < s + Y 10 (g i.toNatClampNeg).toNatClampNeg - 1
  · have hp := hP J hT hf sp
    clear ih hP hc hcJ apJ al sp hf
    simp only [q133_49, q133_51, q133_54, q133_55, q133_56, q133_57, q133_58, q133_93, k_27 hS, z_27, as_nil, as_i, as_r, Nat.reduceAdd, Nat.reduceLeDiff, z_eq0, z_eq1, z_or, z_em, Classical.not_not, not_false_eq_true, not_true_eq_false, true_and, and_true, false_and, and_false, and_self, true_implies, false_implies, implies_true, Option.toList_some, Option.toList_none, List.cons_append, List.nil_append, Nat.add_eq_zero_iff, a_nl_i, a_nl_r, a_nl_n, true_or, or_true, eq_self, a_isRA_22, a_isRA_24, a_isRA_32, a_isA_20, ok_4, ok_5, ok_6, ok_7, ok_9, ok_20, ok_21, ok_30, ok_50, ok_180, ok_192, ok_200, ha, an0, e2, ci]
    try simp only [true_and, and_true, true_implies, false_implies, implies_true, not_true_eq_false, not_false_eq_true]
    first
      | exact hp
      | grind
  · obtain ⟨g1, g2⟩ := pf_next q0 hk ⟨l1, l4.2⟩ hq ci
    have hs : 0 ≤ s ∧ s ≤ 199 := ⟨q0, by clear ih hP hc hcJ apJ al sp hf; grind⟩
    have hsl : s + Y 10 (g i.toNatClampNeg).toNatClampNeg ≤ 200 := by clear ih hP hc hcJ apJ al sp hf; grind
    have hnext : ∀ J, cT C K L J R → fcP C I J → spP C Y g (i.toNatClampNeg + 1) J → a_at (d + 7) (a_xm a_m133) 87 [some (a_rf (C + 27)), some (.int i), some (.int p), some (.int q), some (.int r), some (a_rf (R (C + 15) (g i.toNatClampNeg).toNatClampNeg)), some (.int w), some (.int s)] [] (n, t, K, L, J, R) P := fun J hT hf sp => by
      have hS := hT.s
      have hg := ih g1 J g2 hT hf sp
      clear ih hP hc hcJ
      simp only [q133_87, q133_90, as_nil, as_i, as_r, Nat.reduceAdd, Nat.reduceLeDiff, z_eq0, z_eq1, z_or, z_em, Classical.not_not, not_false_eq_true, not_true_eq_false, true_and, and_true, false_and, and_false, and_self, true_implies, false_implies, implies_true, Option.toList_some, Option.toList_none, List.cons_append, List.nil_append, Nat.add_eq_zero_iff, a_nl_i, a_nl_r, a_nl_n, true_or, or_true, eq_self, a_isRA_22, a_isRA_24, a_isRA_32, a_isA_20, ok_4, ok_5, ok_6, ok_7, ok_9, ok_20, ok_21, ok_30, ok_50, ok_180, ok_192, ok_200]
      exact hg
    have hcol : a_at (d + 7) (a_xm a_m133) 80 [some (a_rf (C + 27)), some (.int i), some (.int p), some (.int q), some (.int r), some (a_rf (R (C + 15) (g i.toNatClampNeg).toNatClampNeg)), some (.int w), some (.int s)] [] (n, t, K, L, J, R) P := by
      have hg := ce_collectIn (d := d) (n := n) (t := t) (P := fun r' h' => a_at (d + 7) (a_xm a_m133) 87 [some (a_rf (C + 27)), some (.int i), some (.int p), some (.int q), some (.int r), some (a_rf (R (C + 15) (g i.toNatClampNeg).toNatClampNeg)), some (.int w), some (.int s)] (r'.toList ++ []) h' P) hT0 hc hi ai er hs hsl hT hf sp hnext
      clear ih hP hc hcJ hnext
      simp only [q133_80, q133_81, q133_82, q133_84, k_27 hS, z_27, as_nil, as_i, as_r, Nat.reduceAdd, Nat.reduceLeDiff, z_eq0, z_eq1, z_or, z_em, Classical.not_not, not_false_eq_true, not_true_eq_false, true_and, and_true, false_and, and_false, and_self, true_implies, false_implies, implies_true, Option.toList_some, Option.toList_none, List.cons_append, List.nil_append, Nat.add_eq_zero_iff, a_nl_i, a_nl_r, a_nl_n, true_or, or_true, eq_self, a_isRA_22, a_isRA_24, a_isRA_32, a_isA_20, ok_4, ok_5, ok_6, ok_7, ok_9, ok_20, ok_21, ok_30, ok_50, ok_180, ok_192, ok_200]
      exact hg
    have hsame := hnext J hT hf sp
    clear ih hP hc hcJ apJ al sp hf hnext
    simp only [q133_49, q133_51, q133_54, q133_55, q133_56, q133_57, q133_58, q133_61, q133_63, q133_66, q133_67, q133_70, q133_72, q133_74, k_27 hS, z_27, r_27_0 hS, k_14 hS, z_14, as_nil, as_i, as_r, Nat.reduceAdd, Nat.reduceLeDiff, z_eq0, z_eq1, z_or, z_em, Classical.not_not, not_false_eq_true, not_true_eq_false, true_and, and_true, false_and, and_false, and_self, true_implies, false_implies, implies_true, Option.toList_some, Option.toList_none, List.cons_append, List.nil_append, Nat.add_eq_zero_iff, a_nl_i, a_nl_r, a_nl_n, true_or, or_true, eq_self, a_isRA_22, a_isRA_24, a_isRA_32, a_isA_20, ok_4, ok_5, ok_6, ok_7, ok_9, ok_20, ok_21, ok_30, ok_50, ok_180, ok_192, ok_200, ha, an0, e2, ci]
    try simp only [true_and, and_true, true_implies, false_implies, implies_true, not_true_eq_false, not_false_eq_true]
    refine ⟨fun _ => hcol, fun _ => ck_isTooNear ha hT (fun v => ?_)⟩
    simp only [q133_77, as_nil, as_i, as_r, Nat.reduceAdd, Nat.reduceLeDiff, z_eq0, z_eq1, z_or, z_em, Classical.not_not, not_false_eq_true, not_true_eq_false, true_and, and_true, false_and, and_false, and_self, true_implies, false_implies, implies_true, Option.toList_some, Option.toList_none, List.cons_append, List.nil_append, Nat.add_eq_zero_iff, a_nl_i, a_nl_r, a_nl_n, true_or, or_true, eq_self, a_isRA_22, a_isRA_24, a_isRA_32, a_isA_20, ok_4, ok_5, ok_6, ok_7, ok_9, ok_20, ok_21, ok_30, ok_50, ok_180, ok_192, ok_200]
    exact ⟨fun _ => hsame, fun _ => hcol⟩
theorem ce_collect (hT0 : cT C K L I R) (hc : cpP C K L I R Y) {i p q r : Int32} (hi : 0 ≤ i ∧ i < 4) (ai : 0 ≤ g i.toNatClampNeg ∧ g i.toNatClampNeg < Y 0 17) (er : R (C + 28) i.toNatClampNeg = R (C + 15) (g i.toNatClampNeg).toNatClampNeg) (hp : 0 ≤ p ∧ p ≤ 210) (hq : q ≤ 199) (hT : cT C K L J R) (hf : fcP C I J) (sp : spP C Y g i.toNatClampNeg J) (hP : ∀ J, cT C K L J R → fcP C I J → spP C Y g (i.toNatClampNeg + 1) J → P none (n, t, K, L, J, R)) : a_does (d + 8) 133 [a_rf (C + 27), .int i, .int p, .int q, .int r] (n, t, K, L, J, R) P := by
  have hS := hT.s
  have hcJ := fc_cp hT0 hc hf
  have apJ := aa_of hcJ ai.1 ai.2
  obtain ⟨-, ⟨ha, hn, -⟩, -, al⟩ := id apJ
  have hx96 := (hT.g_ask _ ha).1
  have na : ¬ (R (C + 15) (g i.toNatClampNeg).toNatClampNeg) = C + 31 := by omega
  have hl := fun w => le_collect_47 (d := d) (n := n) (t := t) (P := P) hT0 hc (p := p) (r := r) (w := w) hi ai er hq hP p hp.2 (a_ui J (C + 31) i.toNatClampNeg 0) hp.1 (sT_Best_spotCounts hT (by decide)) (fc_ui hf (by omega)) (fun k hk => by
    by_cases e : k = i.toNatClampNeg
    · rw [e, ui_ap, if_pos ⟨rfl, rfl⟩]
      exact ⟨by decide, fun y hy => absurd hy (Nat.not_lt_zero y)⟩
    · rw [ui_ap, if_neg (fun q => e q.2)]
      refine ⟨(sp k (by omega)).1, fun y hy => ?_⟩
      rw [ui_ap, if_neg (by omega), ui_ap, if_neg (by omega)]
      exact (sp k (by omega)).2 y hy)
  clear hP hc hcJ apJ al sp hf
  rw [a_enter1 (M := a_m133) rfl (a_cat_rf (a_cat_int (a_cat_int (a_cat_int (a_cat_int a_cat_nil))))) (show 5 ≤ 8 by decide)]
  show a_at _ (a_xm a_m133) 0 [some (a_rf (C + 27)), some (.int i), some (.int p), some (.int q), some (.int r), none, none, none] [] _ _
  simp only [q133_0, q133_1, q133_4, q133_5, q133_6, q133_8, q133_9, q133_12, q133_13, q133_14, q133_15, q133_17, q133_20, q133_21, q133_24, q133_26, q133_28, q133_31, k_27 hS, z_27, r_27_1 hS, k_28 hS, l_28 hS, z_28, r_27_4 hS, k_31 hS, l_31 hS, z_31, as_nil, as_i, as_r, Nat.reduceAdd, Nat.reduceLeDiff, z_eq0, z_eq1, z_or, z_em, Classical.not_not, not_false_eq_true, not_true_eq_false, true_and, and_true, false_and, and_false, and_self, true_implies, false_implies, implies_true, Option.toList_some, Option.toList_none, List.cons_append, List.nil_append, Nat.add_eq_zero_iff, a_nl_i, a_nl_r, a_nl_n, true_or, or_true, eq_self, a_isRA_22, a_isRA_24, a_isRA_32, a_isA_20, ok_4, ok_5, ok_6, ok_7, ok_9, ok_20, ok_21, ok_30, ok_50, ok_180, ok_192, ok_200, ui_ap, cc_ne, cc_n0, cc_0n, Nat.reduceEqDiff, reduceIte, if_true, if_false, er, ha, hn, na]
  try simp only [true_and, and_true, true_implies, false_implies, implies_true, not_true_eq_false, not_false_eq_true]
  refine ⟨hi, ?_⟩
  have hl2 : ∀ v : Int32, a_at (d + 7) (a_xm a_m133) 42 [some (a_rf (C + 27)), some (.int i), some (.int p), some (.int q), some (.int r), some (a_rf (R (C + 15) (g i.toNatClampNeg).toNatClampNeg)), none, none] [.int v] (n, t, K, L, (a_ui J (C + 31) i.toNatClampNeg 0), R) P := fun v => by
    simp only [q133_42, q133_44, q133_45, as_nil, as_i, as_r, Nat.reduceAdd, Nat.reduceLeDiff, z_eq0, z_eq1, z_or, z_em, Classical.not_not, not_false_eq_true, not_true_eq_false, true_and, and_true, false_and, and_false, and_self, true_implies, false_implies, implies_true, Option.toList_some, Option.toList_none, List.cons_append, List.nil_append, Nat.add_eq_zero_iff, a_nl_i, a_nl_r, a_nl_n, true_or, or_true, eq_self, a_isRA_22, a_isRA_24, a_isRA_32, a_isA_20, ok_4, ok_5, ok_6, ok_7, ok_9, ok_20, ok_21, ok_30, ok_50, ok_180, ok_192, ok_200]
    exact hl v
  repeat' first
    | with_reducible apply And.intro
    | with_reducible intro _
    | exact hi.1
    | exact hi.2
    | exact hl2 _
    | (simp only [q133_34, q133_37, q133_38, q133_41, as_nil, as_i, as_r, Nat.reduceAdd, Nat.reduceLeDiff, z_eq0, z_eq1, z_or, z_em, Classical.not_not, not_false_eq_true, not_true_eq_false, true_and, and_true, false_and, and_false, and_self, true_implies, false_implies, implies_true, Option.toList_some, Option.toList_none, List.cons_append, List.nil_append, Nat.add_eq_zero_iff, a_nl_i, a_nl_r, a_nl_n, true_or, or_true, eq_self, a_isRA_22, a_isRA_24, a_isRA_32, a_isA_20, ok_4, ok_5, ok_6, ok_7, ok_9, ok_20, ok_21, ok_30, ok_50, ok_180, ok_192, ok_200]; exact hl2 _)
    | (refine ck_isIn (fun v => ?_); simp only [q133_34, q133_37, q133_38, q133_41, as_nil, as_i, as_r, Nat.reduceAdd, Nat.reduceLeDiff, z_eq0, z_eq1, z_or, z_em, Classical.not_not, not_false_eq_true, not_true_eq_false, true_and, and_true, false_and, and_false, and_self, true_implies, false_implies, implies_true, Option.toList_some, Option.toList_none, List.cons_append, List.nil_append, Nat.add_eq_zero_iff, a_nl_i, a_nl_r, a_nl_n, true_or, or_true, eq_self, a_isRA_22, a_isRA_24, a_isRA_32, a_isA_20, ok_4, ok_5, ok_6, ok_7, ok_9, ok_20, ok_21, ok_30, ok_50, ok_180, ok_192, ok_200]; exact ⟨fun _ => hl2 _, fun _ => hl2 _⟩)
    | (simp only [q133_34, q133_37, q133_38, q133_41, as_nil, as_i, as_r, Nat.reduceAdd, Nat.reduceLeDiff, z_eq0, z_eq1, z_or, z_em, Classical.not_not, not_false_eq_true, not_true_eq_false, true_and, and_true, false_and, and_false, and_self, true_implies, false_implies, implies_true, Option.toList_some, Option.toList_none, List.cons_append, List.nil_append, Nat.add_eq_zero_iff, a_nl_i, a_nl_r, a_nl_n, true_or, or_true, eq_self, a_isRA_22, a_isRA_24, a_isRA_32, a_isA_20, ok_4, ok_5, ok_6, ok_7, ok_9, ok_20, ok_21, ok_30, ok_50, ok_180, ok_192, ok_200])
/-- what trying may change -/
def xfP (C : Nat) (I J : Nat → Nat → Int32) : Prop := ∀ x j, ¬ x = C + 9 → ¬ x = C + 10 → ¬ (x = C + 27 ∧ j = 9) → ¬ x = C + 33 → ¬ x = C + 34 → J x j = I x j
theorem xf_refl : xfP C I I := fun _ _ _ _ _ _ _ => rfl
theorem xf_tr (h : xfP C I J) (h2 : xfP C J J2) : xfP C I J2 := fun x j a b c d e => (h2 x j a b c d e).trans (h x j a b c d e)
theorem xf_cp (hT : cT C K L I R) (hc : cpP C K L I R Y) (h : xfP C I J) : cpP C K L J R Y := cp_fr hT hc (fun k j hk => h _ _ (by omega) (by omega) (by omega) (by omega) (by omega)) (fun x j kx => by
  have := (hT.g_ask x kx).1
  exact h _ _ (by omega) (by omega) (by omega) (by omega) (by omega)) (fun x j kx _ => by
  have := (hT.g_bnc x kx).1
  exact h _ _ (by omega) (by omega) (by omega) (by omega) (by omega)) (fun x j kx => by
  have := (hT.g_txt x kx).1
  exact h _ _ (by omega) (by omega) (by omega) (by omega) (by omega)) (fun k k0 k1 j => by
  have := (hT.g_txt _ (hc.2.2.2.1.2 k k0 k1).1).2.1
  exact h _ _ (by omega) (by omega) (by omega) (by omega) (by omega)) (fun b b0 b1 j => by
  obtain ⟨-, ⟨w1, -⟩, ⟨s1, -⟩, -⟩ := hT.g_bnc _ (hc.2.1.2.2.1 b b0 b1).1
  exact ⟨h _ _ (by omega) (by omega) (by omega) (by omega) (by omega), h _ _ (by omega) (by omega) (by omega) (by omega) (by omega)⟩)
theorem sp_x {p : Nat} (h : spP C Y g p I) (h2 : xfP C I J) : spP C Y g p J := fun i hi => by
  have e : ∀ k j, (k = 29 ∨ k = 30 ∨ k = 31) → J (C + k) j = I (C + k) j := fun k j hk => h2 _ _ (by omega) (by omega) (by omega) (by omega) (by omega)
  rw [e 31 _ (by omega)]
  refine ⟨(h i hi).1, fun k hk => ?_⟩
  rw [e 29 _ (by omega), e 30 _ (by omega)]
  exact (h i hi).2 k hk
theorem op_hg {a b s w : Int32} : ∀ (k : Nat) (x : Int32), opI Y a b s w k x = true → ∀ z : Nat, z < k → hgI Y a b (s + (x + Int32.ofNat z)) (Y 0 17).toNatClampNeg 0 0 = 0 := by
  intro k
  induction k with
  | zero => intro x _ z hz; omega
  | succ k ih =>
    intro x h z hz
    unfold opI at h
    by_cases c1 : s + x ≤ 199 ∧ hgI Y a b (s + x) (Y 0 17).toNatClampNeg 0 0 = 0 ∧ ¬ bcf (fhY Y a b (s + x)) < (if (w >>> (x &&& 31)) &&& 1 = 0 then 1 else 2)
    · rw [if_pos c1] at h
      by_cases e : z = 0
      · rw [e, show Int32.ofNat 0 = 0 from rfl, Int32.add_zero]
        exact c1.2.1
      · have := ih (x + 1) h (z - 1) (by omega)
        rw [show x + Int32.ofNat z = x + 1 + Int32.ofNat (z - 1) by
          rw [Int32.add_assoc]
          congr 1
          rw [show z = (z - 1) + 1 by omega, Int32.ofNat_add, show z - 1 + 1 - 1 = z - 1 by omega, Int32.add_comm]
          rfl]
        exact this
    · rw [if_neg c1] at h
      exact absurd h Bool.false_ne_true
/-- 8 * s + b, taken apart -/
theorem sp_div {b s : Int32} (hb : 0 ≤ b ∧ b < 6) (hs : 0 ≤ s ∧ s ≤ 199) : (8 * s + b) / 8 = s ∧ 8 * s + b - (8 * s + b) / 8 * 8 = b := by
  have c0 : (0 : Int32).toInt = 0 := rfl
  have c6 : (6 : Int32).toInt = 6 := rfl
  have c8 : (8 : Int32).toInt = 8 := rfl
  have c199 : (199 : Int32).toInt = 199 := rfl
  have b0 := Int32.le_iff_toInt_le.mp hb.1
  have b1 := Int32.lt_iff_toInt_lt.mp hb.2
  have s0 := Int32.le_iff_toInt_le.mp hs.1
  have s1 := Int32.le_iff_toInt_le.mp hs.2
  have em : (8 * s).toInt = 8 * s.toInt := by
    rw [Int32.toInt_mul, c8]
    simp only [Int.bmod_def]
    omega
  have e : (8 * s + b).toInt = 8 * s.toInt + b.toInt := by rw [ti_add (by omega), em]
  have h0 : 0 ≤ 8 * s + b := by rw [Int32.le_iff_toInt_le]; omega
  have ed : ((8 * s + b) / 8).toInt = s.toInt := by
    rw [ti_div h0 (by decide), e, c8]
    omega
  have e1 : (8 * s + b) / 8 = s := Int32.toInt_inj.mp ed
  refine ⟨e1, ?_⟩
  rw [e1]
  clear e1 ed h0 e em
  grind
end ZKK
end
section
/-! the class: the best: extend -/
section ZLL
variable {d n t C c : Nat} {K L : Nat → Nat} {I I0 J J0 J1 J2 : Nat → Nat → Int32} {R : Nat → Nat → Nat} {P : Option Value → AH → Prop}
variable {Y Z W : Nat → Nat → Int32} {R' R1 R2 : Nat → Nat → Nat} {g : Nat → Int32}
def kxP (C n t : Nat) (K L : Nat → Nat) (R : Nat → Nat → Nat) (Y : Nat → Nat → Int32) (g : Nat → Int32) (m : Int32) (z : Nat) : Prop := ∀ (a sf : Int32) (J : Nat → Nat → Int32) (W : Nat → Nat → Int32) (D : Nat) (P : Option Value → AH → Prop), 0 ≤ a → a.toInt + z = m.toInt → z + 20 ≤ D → cT C K L J R → cpP C K L J R W → sbE Y W → noP W → J (C + 27) 8 = m → spP C Y g m.toNatClampNeg J → (∀ k, a.toNatClampNeg ≤ k → k < m.toNatClampNeg → ¬ 0 ≤ W 20 (g k).toNatClampNeg) → (∀ J2, cT C K L J2 R → xfP C J J2 → P none (n, t, K, L, J2, R)) → a_does D 138 [a_rf (C + 27), .int a, .int sf] (n, t, K, L, J, R) P
theorem le_try (hse : seP C R Y) {m i : Int32} (bm : ∀ k, k < m.toNatClampNeg → (0 ≤ g k ∧ g k < Y 0 17) ∧ R (C + 28) k = R (C + 15) (g k).toNatClampNeg) (bd : ∀ k j, k < j → j < m.toNatClampNeg → ¬ (g k).toNatClampNeg = (g j).toNatClampNeg) (hi : 0 ≤ i ∧ i < 4) (him : i.toNatClampNeg < m.toNatClampNeg) {E : Nat} {sf' b s v w : Int32} (hr : ∀ (sf : Int32) (J W : Nat → Nat → Int32) (P : Option Value → AH → Prop), cT C K L J R → cpP C K L J R W → sbE Y W → noP W → J (C + 27) 8 = m → spP C Y g m.toNatClampNeg J → (∀ k, (i + 1).toNatClampNeg ≤ k → k < m.toNatClampNeg → ¬ 0 ≤ W 20 (g k).toNatClampNeg) → (∀ J2, cT C K L J2 R → xfP C J J2 → P none (n, t, K, L, J2, R)) → a_does (E + 19) 138 [a_rf (C + 27), .int (i + 1), .int sf] (n, t, K, L, J, R) P) (eup : (i + 1).toNatClampNeg = i.toNatClampNeg + 1) (hT : cT C K L I R) (hc : cpP C K L I R W) (hb0 : sbE Y W) (hno : noP W) (hm : I (C + 27) 8 = m) (sp : spP C Y g m.toNatClampNeg I) (hun : (∀ k, i.toNatClampNeg ≤ k → k < m.toNatClampNeg → ¬ 0 ≤ W 20 (g k).toNatClampNeg)) (hb : 0 ≤ b ∧ b < Y 0 6) (hs : 0 ≤ s ∧ s ≤ 199) (hsl : s + Y 10 (g i.toNatClampNeg).toNatClampNeg ≤ 200) (hw : ∀ z : Int32, 0 ≤ z → z < Y 10 (g i.toNatClampNeg).toNatClampNeg → ((w >>> (z &&& 31)) &&& 1 = 0 ↔ ¬ 0 ≤ wtA Y 87 (g i.toNatClampNeg) b (s + z))) (hop : opB W (g i.toNatClampNeg) b s w = true) {x2 x3 x5 : Option Value} (hP : ∀ J, cT C K L J R → xfP C I J → a_at (E + 19) (a_xm a_m138) 212 [some (a_rf (C + 27)), some (.int i), x2, some (a_rf (R (C + 15) (g i.toNatClampNeg).toNatClampNeg)), x3, x5, some (.int v), some (.int w)] [] (n, t, K, L, J, R) P) (hx3 : x3 = some (.int sf')) : a_does (E + 19) 115 [a_rf (C + 14), a_rf (R (C + 15) (g i.toNatClampNeg).toNatClampNeg), .int b, .int s, .int w] (n, t, K, L, I, R) (fun r h' => a_at (E + 19) (a_xm a_m138) 187 [some (a_rf (C + 27)), some (.int i), x2, some (a_rf (R (C + 15) (g i.toNatClampNeg).toNatClampNeg)), x3, x5, some (.int v), some (.int w)] (r.toList ++ []) h' P) := by
  have hS := hT.s
  obtain ⟨⟨a0, a1⟩, -⟩ := bm _ him
  have e17 : W 0 17 = Y 0 17 := hb0 0 17 (by unfold sb; omega)
  have e06 : W 0 6 = Y 0 6 := hb0 0 6 (by unfold sb; omega)
  have o10 : W 10 = Y 10 := sbE_r hb0 (by omega)
  have ag : 0 ≤ g i.toNatClampNeg ∧ g i.toNatClampNeg < W 0 17 := ⟨a0, by rw [e17]; exact a1⟩
  have ap := aa_of hc ag.1 ag.2
  obtain ⟨-, ⟨ha, an0, -⟩, -, al⟩ := id ap
  have hseW := se_b hse hb0
  have hbW : 0 ≤ b ∧ b < W 0 6 := by rw [e06]; exact hb
  have hslW : s + W 10 (g i.toNatClampNeg).toNatClampNeg ≤ 200 := by rw [o10]; exact hsl
  have un := hun _ (Nat.le_refl _) him
  have i30 : (g i.toNatClampNeg).toNatClampNeg < 30 := a_lt30 ⟨a0, Int32.lt_of_lt_of_le ag.2 hc.2.2.2.2.2.2.2.2.1.2⟩
  have hnoi := hno _ i30 un
  have l4 := hc.2.2.2.2.2.1 (g i.toNatClampNeg).toNatClampNeg
  have l4n : (W 10 (g i.toNatClampNeg).toNatClampNeg).toNatClampNeg < 5 := cl_lt (j := 5) l4.1 (Int32.lt_of_le_of_lt l4.2 (by decide))
  have s200 : 0 ≤ s ∧ s ≤ 200 := ⟨hs.1, Int32.le_trans hs.2 (by decide)⟩
  obtain ⟨kb, kb0, -⟩ := hc.2.1.2.2.1 b hbW.1 hbW.2
  obtain ⟨eB2, eB3, -⟩ := hseW.1 b hbW.1 hbW.2
  obtain ⟨bB, ⟨w1, w2, w3⟩, ⟨s1, s2, s3⟩, -⟩ := hT.g_bnc _ kb
  have hx96 := (hT.g_ask _ ha).1
  -- the cells are free
  have fr : ∀ y : Int32, 0 ≤ y → y < W 10 (g i.toNatClampNeg).toNatClampNeg → whC C I R b (s + y).toNatClampNeg = -9 := fun y y0 y1 => by
    have hsz := (sh_lt (i := y) s200 l4 hslW ⟨y0, Int32.le_of_lt y1⟩).1 y1
    refine hg_free hc ag hbW hsz.1 un ?_
    have := op_hg _ 0 hop y.toNatClampNeg (cl_lt y0 y1)
    rw [← on_cl y0, Int32.zero_add] at this
    exact this
  have cell : ∀ j, s.toNatClampNeg ≤ j → j < s.toNatClampNeg + (W 10 (g i.toNatClampNeg).toNatClampNeg).toNatClampNeg → I (R (C + 16) b.toNatClampNeg + 1) j = -9 ∧ I (R (C + 16) b.toNatClampNeg + 2) j = 0 := fun j j0 j1 => by
    have hy0 : 0 ≤ Int32.ofNat (j - s.toNatClampNeg) := (on_ok (p := j - s.toNatClampNeg) (by omega)).1
    have hyn : (Int32.ofNat (j - s.toNatClampNeg)).toNatClampNeg = j - s.toNatClampNeg := (on_p (p := j - s.toNatClampNeg) (by omega)).2.2.1
    have hy1 : Int32.ofNat (j - s.toNatClampNeg) < W 10 (g i.toNatClampNeg).toNatClampNeg := cl_lt2 hy0 l4.1 (by rw [hyn]; omega)
    have hf := fr _ hy0 hy1
    obtain ⟨es, -⟩ := sh_at (i := Int32.ofNat (j - s.toNatClampNeg)) s200.1 s200.2 ⟨hy0, Int32.le_of_lt (Int32.lt_of_lt_of_le hy1 l4.2)⟩
    have hsz := (sh_lt (i := Int32.ofNat (j - s.toNatClampNeg)) s200 l4 hslW ⟨hy0, Int32.le_of_lt hy1⟩).1 hy1
    have ej : (s + Int32.ofNat (j - s.toNatClampNeg)).toNatClampNeg = j := by rw [es, hyn]; omega
    have h2 := hc.2.1.2.2.2.2 b _ hbW.1 hbW.2 hsz.1.1 hsz.1.2
    rw [ej] at hf h2
    have hst : snC C I R b j = 0 := by
      rcases h2 with h2 | ⟨o, x, o0, o1, o2, x0, x1, o3⟩
      · exact h2.2
      · have h3 := (hc.2.1.2.2.2.1 o o0 o1 (by rw [o2]; exact hbW.1)).2.2.2 x x0 x1
        rw [o2, ← o3, ej, hf] at h3
        exact absurd h3.1 (fun q => by rw [← q] at o0; exact absurd o0 (by decide))
    unfold whC at hf
    unfold snC at hst
    rw [eB2] at hf
    rw [eB3] at hst
    exact ⟨hf, hst⟩
  refine cx_lay (d := E + 15) hT hc hseW ap rfl hbW hs hslW un fr (fun z z0 z1 => by
    rw [o10] at z1
    rw [wtA_b hb0]
    exact hw z z0 z1) (fun J1 j1 c1 f1 => ?_)
  have hT1 := j1.1
  have hS1 := hT1.s
  have hT1' : cT C K L (a_ui J1 (C + 33) i.toNatClampNeg v) R := sT_Best_tried hT1
  have sp1 : spP C Y g m.toNatClampNeg (a_ui J1 (C + 33) i.toNatClampNeg v) := fun k hk => by
    have e : ∀ q j, (q = 29 ∨ q = 30 ∨ q = 31) → a_ui J1 (C + 33) i.toNatClampNeg v (C + q) j = I (C + q) j := fun q j hq => by
      rw [ui_ap, if_neg (by omega)]
      exact f1 _ _ (by omega) (by omega)
    rw [e 31 _ (by omega)]
    refine ⟨(sp k hk).1, fun y hy => ?_⟩
    rw [e 29 _ (by omega), e 30 _ (by omega)]
    exact (sp k hk).2 y hy
  have c1' : cpP C K L (a_ui J1 (C + 33) i.toNatClampNeg v) R (puY W (g i.toNatClampNeg) b s) := cp_sc hT1 c1 (k := 33) (by omega) (by omega)
  have bW1 : sbE Y (puY W (g i.toNatClampNeg) b s) := sb_tr hb0 puY_b
  have hcall := hr sf' (a_ui J1 (C + 33) i.toNatClampNeg v) (puY W (g i.toNatClampNeg) b s) (fun r' h' => a_at (E + 19) (a_xm a_m138) 204 [some (a_rf (C + 27)), some (.int i), x2, some (a_rf (R (C + 15) (g i.toNatClampNeg).toNatClampNeg)), x3, x5, some (.int v), some (.int w)] (r'.toList ++ []) h' P) hT1' c1' bW1 (no_pu hb.1 hno) (by rw [ui_ap, if_neg (by omega), f1 _ _ (by omega) (by omega)]; exact hm) sp1 (fun k k0 k1 => by
    rw [eup] at k0
    have hne : ¬ (g k).toNatClampNeg = (g i.toNatClampNeg).toNatClampNeg := fun e => bd _ _ (by omega : i.toNatClampNeg < k) k1 e.symm
    rw [pu_pp, pp_o (Or.inr ⟨hne, by omega⟩)]
    exact hun k (by omega) k1) (fun J2 T2 x2f => by
    have hS2 := T2.s
    have c2 := xf_cp hT1' c1' x2f
    have ag2 : 0 ≤ g i.toNatClampNeg ∧ g i.toNatClampNeg < puY W (g i.toNatClampNeg) b s 0 17 := by rw [pu_pp, pp_o (Or.inl (by omega))]; exact ag
    have ap2 := aa_of c2 ag2.1 ag2.2
    have e20 : puY W (g i.toNatClampNeg) b s 20 (g i.toNatClampNeg).toNatClampNeg = b := by rw [pu_pp, pp_20]
    have e21 : puY W (g i.toNatClampNeg) b s 21 (g i.toNatClampNeg).toNatClampNeg = s := by rw [pu_pp, pp_21]
    have e10 : puY W (g i.toNatClampNeg) b s 10 (g i.toNatClampNeg).toNatClampNeg = W 10 (g i.toNatClampNeg).toNatClampNeg := by rw [pu_pp, pp_10]
    have hl := cy_lift (d := E + 15) (n := n) (t := t) T2 c2 (se_b hse bW1) ap2 rfl (by rw [e20]; exact hb.1) (P := fun r' h' => a_at (E + 19) (a_xm a_m138) 212 [some (a_rf (C + 27)), some (.int i), x2, some (a_rf (R (C + 15) (g i.toNatClampNeg).toNatClampNeg)), x3, x5, some (.int v), some (.int w)] (r'.toList ++ []) h' P) (fun J4 j4 c4 f4 => by
      rw [e20, e21, e10] at f4
      refine hP J4 j4.1 (fun x j q1 q2 q3 q4 q5 => ?_)
      by_cases ca : x = (R (C + 15) (g i.toNatClampNeg).toNatClampNeg) ∧ (j = 13 ∨ j = 14)
      · have a4 := (c4.2.2.1.2.2.2 (g i.toNatClampNeg) ag.1 (by rw [un_o (Or.inl (by omega))]; exact ag2.2)).2.2.2.1
        rw [un_a (Or.inl rfl), un_a (Or.inr rfl)] at a4
        have b4 := al.2.2.2.1
        rw [hnoi.1, hnoi.2] at b4
        rcases ca with ⟨ca, cj | cj⟩
        · rw [ca, cj, a4.1, b4.1]
        · rw [ca, cj, a4.2, b4.2]
      · rw [f4 x j ca]
        unfold lfI
        by_cases c1 : x = R (C + 16) b.toNatClampNeg + 1 ∧ s.toNatClampNeg ≤ j ∧ j < s.toNatClampNeg + (W 10 (g i.toNatClampNeg).toNatClampNeg).toNatClampNeg
        · rw [if_pos c1, c1.1]
          exact (cell j c1.2.1 c1.2.2).1.symm
        · rw [if_neg c1]
          by_cases c2 : x = R (C + 16) b.toNatClampNeg + 2 ∧ s.toNatClampNeg ≤ j ∧ j < s.toNatClampNeg + (W 10 (g i.toNatClampNeg).toNatClampNeg).toNatClampNeg
          · rw [if_pos c2, c2.1]
            exact (cell j c2.2.1 c2.2.2).2.symm
          · rw [if_neg c2, x2f x j q1 q2 q3 q4 q5, ui_ap, if_neg (fun e => q4 e.1)]
            exact f1 x j (fun q => q.1.elim (fun e => c1 ⟨e, q.2⟩) (fun e => c2 ⟨e, q.2⟩)) ca)
    clear hP hr hc c1 c1' c2 ap2 cell fr sp sp1 bm bd hun
    simp only [q138_204, q138_205, q138_208, q138_209, k_27 hS, z_27, r_27_0 hS, k_14 hS, z_14, as_nil, as_i, as_r, Nat.reduceAdd, Nat.reduceLeDiff, z_eq0, z_eq1, z_or, z_em, Classical.not_not, not_false_eq_true, not_true_eq_false, true_and, and_true, false_and, and_false, and_self, true_implies, false_implies, implies_true, Option.toList_some, Option.toList_none, List.cons_append, List.nil_append, Nat.add_eq_zero_iff, a_nl_i, a_nl_r, a_nl_n, true_or, or_true, eq_self, a_isRA_22, a_isRA_24, a_isRA_32, a_isA_20, ok_4, ok_5, ok_6, ok_7, ok_9, ok_20, ok_21, ok_30, ok_50, ok_180, ok_192, ok_200]
    exact hl)
  clear hP hr hc c1 c1' cell fr sp sp1 bm bd hun
  subst hx3
  simp only [q138_187, q138_188, q138_191, q138_192, q138_194, q138_195, q138_196, q138_197, q138_198, q138_199, q138_201, k_27 hS, z_27, r_27_6 hS, k_33 hS, l_33 hS, z_33, as_nil, as_i, as_r, Nat.reduceAdd, Nat.reduceLeDiff, z_eq0, z_eq1, z_or, z_em, Classical.not_not, not_false_eq_true, not_true_eq_false, true_and, and_true, false_and, and_false, and_self, true_implies, false_implies, implies_true, Option.toList_some, Option.toList_none, List.cons_append, List.nil_append, Nat.add_eq_zero_iff, a_nl_i, a_nl_r, a_nl_n, true_or, or_true, eq_self, a_isRA_22, a_isRA_24, a_isRA_32, a_isA_20, ok_4, ok_5, ok_6, ok_7, ok_9, ok_20, ok_21, ok_30, ok_50, ok_180, ok_192, ok_200]
  try simp only [true_and, and_true, true_implies, false_implies, implies_true, not_true_eq_false, not_false_eq_true]
  first
    | exact ⟨hi, hcall⟩
    | exact hcall
    | grind
end ZLL
end
section
/-! the class: the best: extend, whole -/
section ZMM
variable {d n t C c : Nat} {K L : Nat → Nat} {I I0 J J0 J1 J2 : Nat → Nat → Int32} {R : Nat → Nat → Nat} {P : Option Value → AH → Prop}
variable {Y Z W : Nat → Nat → Int32} {R' R1 R2 : Nat → Nat → Nat} {g : Nat → Int32}
theorem le_extend_71 (hse : seP C R Y) {m i : Int32} (bm : ∀ k, k < m.toNatClampNeg → (0 ≤ g k ∧ g k < Y 0 17) ∧ R (C + 28) k = R (C + 15) (g k).toNatClampNeg) (bd : ∀ k j, k < j → j < m.toNatClampNeg → ¬ (g k).toNatClampNeg = (g j).toNatClampNeg) (y6 : Y 0 6 ≤ 6) (hi : 0 ≤ i ∧ i < 4) (him : i.toNatClampNeg < m.toNatClampNeg) {E : Nat} {sf w : Int32} (hr : ∀ (sf : Int32) (J W : Nat → Nat → Int32) (P : Option Value → AH → Prop), cT C K L J R → cpP C K L J R W → sbE Y W → noP W → J (C + 27) 8 = m → spP C Y g m.toNatClampNeg J → (∀ k, (i + 1).toNatClampNeg ≤ k → k < m.toNatClampNeg → ¬ 0 ≤ W 20 (g k).toNatClampNeg) → (∀ J2, cT C K L J2 R → xfP C J J2 → P none (n, t, K, L, J2, R)) → a_does (E + 19) 138 [a_rf (C + 27), .int (i + 1), .int sf] (n, t, K, L, J, R) P) (eup : (i + 1).toNatClampNeg = i.toNatClampNeg + 1) (hT0 : cT C K L I R) (hc0 : cpP C K L I R W) (hb0 : sbE Y W) (hno : noP W) (hm0 : I (C + 27) 8 = m) (sp0 : spP C Y g m.toNatClampNeg I) (hun : (∀ k, i.toNatClampNeg ≤ k → k < m.toNatClampNeg → ¬ 0 ≤ W 20 (g k).toNatClampNeg)) (hP : ∀ J, cT C K L J R → xfP C I J → P none (n, t, K, L, J, R)) : ∀ k : Int32, k ≤ 48 → ∀ J u1 u2, 0 ≤ k → cT C K L J R → xfP C I J → a_at (E + 19) (a_xm a_m138) 71 [some (a_rf (C + 27)), some (.int i), some (.int sf), some (a_rf (R (C + 15) (g i.toNatClampNeg).toNatClampNeg)), some (.int w), some (.int k), u1, u2] [] (n, t, K, L, J, R) P := by
  refine up_ind 48 (fun k hk ih => ?_)
  intro J u1 u2 q0 hT hx
  have hS := hT.s
  have hc := xf_cp hT0 hc0 hx
  have sp := sp_x sp0 hx
  have hm : J (C + 27) 8 = m := (hx _ _ (by omega) (by omega) (by omega) (by omega) (by omega)).trans hm0
  obtain ⟨⟨a0, a1⟩, er⟩ := bm _ him
  have e17 : W 0 17 = Y 0 17 := hb0 0 17 (by unfold sb; omega)
  have e06 : W 0 6 = Y 0 6 := hb0 0 6 (by unfold sb; omega)
  have ag : 0 ≤ g i.toNatClampNeg ∧ g i.toNatClampNeg < W 0 17 := ⟨a0, by rw [e17]; exact a1⟩
  have ap := aa_of hc ag.1 ag.2
  obtain ⟨-, ⟨ha, an0, -⟩, -, al⟩ := id ap
  obtain ⟨⟨g0, g48⟩, gsp⟩ := sp _ him
  have n8 : ¬ (8 : Int32) = 0 := by decide
  have hi5 : 0 ≤ i + 1 ∧ i + 1 < 5 := by clear hr hP ih sp gsp hun hc hc0 sp0 hx; grind
  have hend : ∀ u1 u2, a_at (E + 19) (a_xm a_m138) 218 [some (a_rf (C + 27)), some (.int i), some (.int sf), some (a_rf (R (C + 15) (g i.toNatClampNeg).toNatClampNeg)), some (.int w), some (.int k), u1, u2] [] (n, t, K, L, J, R) P := fun u1 u2 => by
    have hT2 : cT C K L (a_ui J (C + 33) i.toNatClampNeg (-9)) R := sT_Best_tried hT
    have hg := hr sf (a_ui J (C + 33) i.toNatClampNeg (-9)) W (fun r' h' => a_at (E + 19) (a_xm a_m138) 234 [some (a_rf (C + 27)), some (.int i), some (.int sf), some (a_rf (R (C + 15) (g i.toNatClampNeg).toNatClampNeg)), some (.int w), some (.int k), u1, u2] (r'.toList ++ []) h' P) hT2 (cp_sc hT hc (k := 33) (by omega) (by omega)) hb0 hno (by rw [ui_ap, if_neg (by omega)]; exact hm) (sp_x sp (fun x j _ _ _ e4 _ => by rw [ui_ap, if_neg (fun e => e4 e.1)])) (fun k k0 k1 => hun k (by omega) k1) (fun J2 T2 x2 => by
      have hS2 := T2.s
      have hp := hP J2 T2 (fun x j q1 q2 q3 q4 q5 => by
        rw [x2 x j q1 q2 q3 q4 q5, ui_ap, if_neg (fun e => q4 e.1)]
        exact hx x j q1 q2 q3 q4 q5)
      clear hr hP ih sp gsp hun hc hc0 sp0 hx x2 ap al bm bd
      simp only [q138_234, as_nil, as_i, as_r, Nat.reduceAdd, Nat.reduceLeDiff, z_eq0, z_eq1, z_or, z_em, Classical.not_not, not_false_eq_true, not_true_eq_false, true_and, and_true, false_and, and_false, and_self, true_implies, false_implies, implies_true, Option.toList_some, Option.toList_none, List.cons_append, List.nil_append, Nat.add_eq_zero_iff, a_nl_i, a_nl_r, a_nl_n, true_or, or_true, eq_self, a_isRA_22, a_isRA_24, a_isRA_32, a_isA_20, ok_4, ok_5, ok_6, ok_7, ok_9, ok_20, ok_21, ok_30, ok_50, ok_180, ok_192, ok_200, ui_ap, cc_ne, cc_n0, cc_0n, Nat.reduceEqDiff, reduceIte, if_true, if_false]
      exact hp)
    clear hr hP ih sp gsp hun hc hc0 sp0 hx ap al bm bd
    simp only [q138_218, q138_219, q138_222, q138_223, q138_225, q138_226, q138_227, q138_228, q138_229, q138_230, q138_231, k_27 hS, z_27, r_27_6 hS, k_33 hS, l_33 hS, z_33, as_nil, as_i, as_r, Nat.reduceAdd, Nat.reduceLeDiff, z_eq0, z_eq1, z_or, z_em, Classical.not_not, not_false_eq_true, not_true_eq_false, true_and, and_true, false_and, and_false, and_self, true_implies, false_implies, implies_true, Option.toList_some, Option.toList_none, List.cons_append, List.nil_append, Nat.add_eq_zero_iff, a_nl_i, a_nl_r, a_nl_n, true_or, or_true, eq_self, a_isRA_22, a_isRA_24, a_isRA_32, a_isA_20, ok_4, ok_5, ok_6, ok_7, ok_9, ok_20, ok_21, ok_30, ok_50, ok_180, ok_192, ok_200, ui_ap, cc_ne, cc_n0, cc_0n, Nat.reduceEqDiff, reduceIte, if_true, if_false]
    exact ⟨hi, hg⟩
  have hnext : k < 48 → ∀ J u1 u2, cT C K L J R → xfP C I J → a_at (E + 19) (a_xm a_m138) 212 [some (a_rf (C + 27)), some (.int i), some (.int sf), some (a_rf (R (C + 15) (g i.toNatClampNeg).toNatClampNeg)), some (.int w), some (.int k), u1, u2] [] (n, t, K, L, J, R) P := fun h J u1 u2 hT hx => by
    have hS := hT.s
    have hg := ih h J u1 u2 (by clear hr hP ih sp gsp hun hc hc0 sp0 hx hend; grind) hT hx
    clear hr hP ih sp gsp hun hc hc0 sp0 hx ap al bm bd hend
    simp only [q138_212, q138_215, as_nil, as_i, as_r, Nat.reduceAdd, Nat.reduceLeDiff, z_eq0, z_eq1, z_or, z_em, Classical.not_not, not_false_eq_true, not_true_eq_false, true_and, and_true, false_and, and_false, and_self, true_implies, false_implies, implies_true, Option.toList_some, Option.toList_none, List.cons_append, List.nil_append, Nat.add_eq_zero_iff, a_nl_i, a_nl_r, a_nl_n, true_or, or_true, eq_self, a_isRA_22, a_isRA_24, a_isRA_32, a_isA_20, ok_4, ok_5, ok_6, ok_7, ok_9, ok_20, ok_21, ok_30, ok_50, ok_180, ok_192, ok_200]
    exact hg
  rw [q138_71]
  by_cases c1 : J (C + 31) i.toNatClampNeg ≤ k
  · have he := hend u1 u2
    clear hr hP ih sp gsp hun hc hc0 sp0 hx ap al bm bd hend hnext
    simp only [q138_73, q138_74, q138_77, q138_78, q138_79, q138_82, q138_84, q138_85, q138_88, q138_89, q138_90, q138_91, q138_92, q138_93, q138_94, q138_97, k_27 hS, z_27, r_27_4 hS, k_31 hS, l_31 hS, z_31, r_27_5 hS, k_32 hS, l_32 hS, z_32, as_nil, as_i, as_r, Nat.reduceAdd, Nat.reduceLeDiff, z_eq0, z_eq1, z_or, z_em, Classical.not_not, not_false_eq_true, not_true_eq_false, true_and, and_true, false_and, and_false, and_self, true_implies, false_implies, implies_true, Option.toList_some, Option.toList_none, List.cons_append, List.nil_append, Nat.add_eq_zero_iff, a_nl_i, a_nl_r, a_nl_n, true_or, or_true, eq_self, a_isRA_22, a_isRA_24, a_isRA_32, a_isA_20, ok_4, ok_5, ok_6, ok_7, ok_9, ok_20, ok_21, ok_30, ok_50, ok_180, ok_192, ok_200, c1]
    try simp only [true_and, and_true, true_implies, false_implies, implies_true, not_true_eq_false, not_false_eq_true]
    first
      | exact ⟨hi, he⟩
      | exact ⟨hi, fun _ => he, fun h => absurd c1 h⟩
      | grind
  · have c1k := Int32.not_le.mp c1
    have hk8 : k < 48 := Int32.lt_of_lt_of_le c1k g48
    have hxk := ix48 hi (c := k) ⟨q0, hk8⟩
    have exn := ix_192 hi (c := k) ⟨q0, hk8⟩
    have hnext := hnext hk8
    obtain ⟨b, s, ev, hb, hs, hsl, hw⟩ := gsp k.toNatClampNeg (cl_lt q0 c1k)
    rw [← exn] at ev hw
    have b6 : 0 ≤ b ∧ b < 6 := ⟨hb.1, Int32.lt_of_lt_of_le hb.2 y6⟩
    obtain ⟨d1, d2⟩ := sp_div b6 hs
    have d3 : 8 * s + b - s * 8 = b := by rw [d1] at d2; exact d2
    have hbW : 0 ≤ b ∧ b < W 0 6 := by rw [e06]; exact hb
    have hlast : ∀ u1 u2, a_at (E + 19) (a_xm a_m138) 212 [some (a_rf (C + 27)), some (.int i), some (.int sf), some (a_rf (R (C + 15) (g i.toNatClampNeg).toNatClampNeg)), some (.int w), some (.int k), u1, u2] [] (n, t, K, L, J, R) P := fun u1 u2 => hnext J u1 u2 hT hx
    have hgo : a_does (E + 19) 110 [a_rf (C + 14), a_rf (R (C + 15) (g i.toNatClampNeg).toNatClampNeg), .int s] (n, t, K, L, J, R) (fun r h' => a_at (E + 19) (a_xm a_m138) 141 [some (a_rf (C + 27)), some (.int i), some (.int sf), some (a_rf (R (C + 15) (g i.toNatClampNeg).toNatClampNeg)), some (.int w), some (.int k), some (.int (8 * s + b)), some (.int (J (C + 30) (i * 48 + k).toNatClampNeg))] (r.toList ++ []) h' P) := by
      refine ck_isTooNear ha hT (fun v => ?_)
      have hopen : a_does (E + 19) 136 [a_rf (C + 14), a_rf (R (C + 15) (g i.toNatClampNeg).toNatClampNeg), .int b, .int s, .int (J (C + 30) (i * 48 + k).toNatClampNeg)] (n, t, K, L, J, R) (fun r h' => a_at (E + 19) (a_xm a_m138) 164 [some (a_rf (C + 27)), some (.int i), some (.int sf), some (a_rf (R (C + 15) (g i.toNatClampNeg).toNatClampNeg)), some (.int w), some (.int k), some (.int (8 * s + b)), some (.int (J (C + 30) (i * 48 + k).toNatClampNeg))] (r.toList ++ []) h' P) := by
        refine ce_isOpen (d := E + 15) hT hc ap hbW hs ?_
        by_cases co : opB W (g i.toNatClampNeg) b s (J (C + 30) (i * 48 + k).toNatClampNeg) = true
        · rw [if_pos co]
          have ht := le_try (n := n) (t := t) (P := P) (sf' := w) (v := 8 * s + b) (x2 := some (.int sf)) (x3 := some (.int w)) (x5 := some (.int k)) hse bm bd hi him hr eup hT hc hb0 hno hm sp hun hb hs hsl hw co (fun J2 T2 x2 => hnext J2 _ _ T2 (xf_tr hx x2)) rfl
          clear hr hP ih sp gsp hun hc hc0 sp0 hx ap al bm bd hend hnext hw hlast
          simp only [q138_164, q138_167, q138_168, q138_171, q138_172, q138_174, q138_176, q138_177, q138_179, q138_181, q138_182, q138_184, k_27 hS, z_27, r_27_0 hS, k_14 hS, z_14, as_nil, as_i, as_r, Nat.reduceAdd, Nat.reduceLeDiff, z_eq0, z_eq1, z_or, z_em, Classical.not_not, not_false_eq_true, not_true_eq_false, true_and, and_true, false_and, and_false, and_self, true_implies, false_implies, implies_true, Option.toList_some, Option.toList_none, List.cons_append, List.nil_append, Nat.add_eq_zero_iff, a_nl_i, a_nl_r, a_nl_n, true_or, or_true, eq_self, a_isRA_22, a_isRA_24, a_isRA_32, a_isA_20, ok_4, ok_5, ok_6, ok_7, ok_9, ok_20, ok_21, ok_30, ok_50, ok_180, ok_192, ok_200, ha, an0, n8, d1, d3]
          try simp only [true_and, and_true, true_implies, false_implies, implies_true, not_true_eq_false, not_false_eq_true]
          first
            | exact ht
            | exact ⟨fun h => absurd h (by decide), fun _ => ht⟩
            | grind
        · rw [if_neg co]
          have ht := hlast (some (.int (8 * s + b))) (some (.int (J (C + 30) (i * 48 + k).toNatClampNeg)))
          clear hr hP ih sp gsp hun hc hc0 sp0 hx ap al bm bd hend hnext hw hlast
          simp only [q138_164, as_nil, as_i, as_r, Nat.reduceAdd, Nat.reduceLeDiff, z_eq0, z_eq1, z_or, z_em, Classical.not_not, not_false_eq_true, not_true_eq_false, true_and, and_true, false_and, and_false, and_self, true_implies, false_implies, implies_true, Option.toList_some, Option.toList_none, List.cons_append, List.nil_append, Nat.add_eq_zero_iff, a_nl_i, a_nl_r, a_nl_n, true_or, or_true, eq_self, a_isRA_22, a_isRA_24, a_isRA_32, a_isA_20, ok_4, ok_5, ok_6, ok_7, ok_9, ok_20, ok_21, ok_30, ok_50, ok_180, ok_192, ok_200]
          try simp only [true_and, and_true, true_implies, false_implies, implies_true, not_true_eq_false, not_false_eq_true]
          first
            | exact ht
            | exact ⟨fun _ => ht, fun h => absurd rfl h⟩
            | grind
      have ht := hlast (some (.int (8 * s + b))) (some (.int (J (C + 30) (i * 48 + k).toNatClampNeg)))
      clear hr hP ih sp gsp hun hc hc0 sp0 hx ap al bm bd hend hnext hw hlast
      simp only [q138_141, q138_144, q138_145, q138_148, q138_149, q138_151, q138_153, q138_154, q138_156, q138_158, q138_159, q138_161, k_27 hS, z_27, r_27_0 hS, k_14 hS, z_14, as_nil, as_i, as_r, Nat.reduceAdd, Nat.reduceLeDiff, z_eq0, z_eq1, z_or, z_em, Classical.not_not, not_false_eq_true, not_true_eq_false, true_and, and_true, false_and, and_false, and_self, true_implies, false_implies, implies_true, Option.toList_some, Option.toList_none, List.cons_append, List.nil_append, Nat.add_eq_zero_iff, a_nl_i, a_nl_r, a_nl_n, true_or, or_true, eq_self, a_isRA_22, a_isRA_24, a_isRA_32, a_isA_20, ok_4, ok_5, ok_6, ok_7, ok_9, ok_20, ok_21, ok_30, ok_50, ok_180, ok_192, ok_200, ha, an0, n8, d1, d3]
      try simp only [true_and, and_true, true_implies, false_implies, implies_true, not_true_eq_false, not_false_eq_true]
      first
        | exact ⟨fun _ => ht, fun _ => hopen⟩
        | grind
    have he := hend u1 u2
    clear hr hP ih sp gsp hun hc hc0 sp0 hx ap al bm bd hend hnext hw hlast
    simp only [q138_73, q138_74, q138_77, q138_78, q138_79, q138_82, q138_84, q138_85, q138_88, q138_89, q138_90, q138_91, q138_92, q138_93, q138_94, q138_97, q138_100, q138_101, q138_104, q138_105, q138_107, q138_108, q138_110, q138_111, q138_112, q138_114, q138_115, q138_118, q138_119, q138_121, q138_122, q138_124, q138_125, q138_126, q138_128, q138_129, q138_132, q138_133, q138_135, q138_137, q138_138, k_27 hS, z_27, r_27_4 hS, k_31 hS, l_31 hS, z_31, r_27_5 hS, k_32 hS, l_32 hS, z_32, r_27_2 hS, k_29 hS, l_29 hS, z_29, r_27_3 hS, k_30 hS, l_30 hS, z_30, r_27_0 hS, k_14 hS, z_14, as_nil, as_i, as_r, Nat.reduceAdd, Nat.reduceLeDiff, z_eq0, z_eq1, z_or, z_em, Classical.not_not, not_false_eq_true, not_true_eq_false, true_and, and_true, false_and, and_false, and_self, true_implies, false_implies, implies_true, Option.toList_some, Option.toList_none, List.cons_append, List.nil_append, Nat.add_eq_zero_iff, a_nl_i, a_nl_r, a_nl_n, true_or, or_true, eq_self, a_isRA_22, a_isRA_24, a_isRA_32, a_isA_20, ok_4, ok_5, ok_6, ok_7, ok_9, ok_20, ok_21, ok_30, ok_50, ok_180, ok_192, ok_200, c1, ha, an0, n8, ev, d1]
    try simp only [true_and, and_true, true_implies, false_implies, implies_true, not_true_eq_false, not_false_eq_true]
    refine ⟨hi, ?_⟩
    repeat' first
      | with_reducible apply And.intro
      | with_reducible intro _
      | exact he
      | exact hgo
      | exact hi5.1
      | exact hi5.2
      | exact hxk.1
      | exact hxk.2
theorem kx_all (hse : seP C R Y) {m : Int32} (hm4 : 0 ≤ m ∧ m ≤ 4) (bm : ∀ k, k < m.toNatClampNeg → (0 ≤ g k ∧ g k < Y 0 17) ∧ R (C + 28) k = R (C + 15) (g k).toNatClampNeg) (bd : ∀ k j, k < j → j < m.toNatClampNeg → ¬ (g k).toNatClampNeg = (g j).toNatClampNeg) (y6 : Y 0 6 ≤ 6) : ∀ z, kxP C n t K L R Y g m z := by
  intro z
  have s0 := Int32.le_iff_toInt_le.mp hm4.1
  have s1 := Int32.le_iff_toInt_le.mp hm4.2
  have c0 : (0 : Int32).toInt = 0 := rfl
  have c1 : (1 : Int32).toInt = 1 := rfl
  have c4 : (4 : Int32).toInt = 4 := rfl
  induction z with
  | zero =>
    intro i sf I W D P h0 h1 h2 hT hc hb0 hno hm sp hun hP
    obtain ⟨E, rfl⟩ : ∃ E, D = E + 20 := ⟨D - 20, by omega⟩
    have hS := hT.s
    have ei : i = I (C + 27) 8 := by rw [hm]; exact Int32.toInt_inj.mp (by omega)
    have gi := hT.g_best
    rw [← ei] at gi
    have hi4 : ¬ 4 < i := Int32.not_lt.mpr gi.2
    have hi5 : 0 ≤ i ∧ i < 5 := ⟨gi.1, by clear hT hS hP hc sp hun; grind⟩
    have m5 : i.toNatClampNeg ≤ 4 := by
      have e0 := Int32.le_iff_toInt_le.mp gi.1
      have e1 := Int32.le_iff_toInt_le.mp gi.2
      show i.toInt.toNat ≤ 4
      omega
    have n0 : ¬ i < 0 := Int32.not_lt.mpr gi.1
    have hB : dB C K L R I I := dB_refl hT
    have f1 : dB C K L R I (a_ci (a_ui I (C + 27) 9 sf) (C + 33) (C + 34) 0 0 i.toNatClampNeg) := dB_34 (dB_sum hB)
    have hp0 := hP I hT xf_refl
    have hp1 := hP _ f1.1.1 (fun x j _ _ e3 _ e5 => by rw [ci_ne e5, ui_ap, if_neg e3])
    clear hP hc sp hun
    rw [a_enter1 (M := a_m138) rfl (a_cat_rf (a_cat_int (a_cat_int a_cat_nil))) (show 3 ≤ 8 by decide)]
    show a_at _ (a_xm a_m138) 0 [some (a_rf (C + 27)), some (.int i), some (.int sf), none, none, none, none, none] [] _ _
    simp only [q138_0, q138_1, q138_2, q138_5, q138_6, q138_7, q138_10, q138_11, q138_12, q138_13, q138_14, q138_17, q138_20, q138_21, q138_22, q138_23, q138_26, q138_29, q138_30, q138_31, q138_34, q138_35, q138_38, q138_39, q138_40, q138_43, q138_44, q138_45, q138_48, q138_51, k_27 hS, z_27, r_27_5 hS, k_32 hS, l_32 hS, z_32, r_27_6 hS, k_33 hS, l_33 hS, z_33, r_27_7 hS, k_34 hS, l_34 hS, z_34, as_nil, as_i, as_r, Nat.reduceAdd, Nat.reduceLeDiff, z_eq0, z_eq1, z_or, z_em, Classical.not_not, not_false_eq_true, not_true_eq_false, true_and, and_true, false_and, and_false, and_self, true_implies, false_implies, implies_true, Option.toList_some, Option.toList_none, List.cons_append, List.nil_append, Nat.add_eq_zero_iff, a_nl_i, a_nl_r, a_nl_n, true_or, or_true, eq_self, a_isRA_22, a_isRA_24, a_isRA_32, a_isA_20, ok_4, ok_5, ok_6, ok_7, ok_9, ok_20, ok_21, ok_30, ok_50, ok_180, ok_192, ok_200, ui_ap, cc_ne, cc_n0, cc_0n, Nat.reduceEqDiff, reduceIte, if_true, if_false, ← ei, hi4, a_copy_eq, a_kd_eq, a_ln_eq, cn00, lt00, Nat.zero_add, n0, m5]
    refine ⟨hi5, fun _ => hp1, fun _ => hp0⟩
  | succ z ih =>
    intro i sf I W D P h0 h1 h2 hT hc hb0 hno hm sp hun hP
    obtain ⟨E, rfl⟩ : ∃ E, D = E + 20 := ⟨D - 20, by omega⟩
    have hS := hT.s
    have e0 := Int32.le_iff_toInt_le.mp h0
    have hi : 0 ≤ i ∧ i < 4 := ⟨h0, by rw [Int32.lt_iff_toInt_lt]; omega⟩
    have iml : i < m := by rw [Int32.lt_iff_toInt_lt]; omega
    have him : i.toNatClampNeg < m.toNatClampNeg := cl_lt h0 iml
    have ei : ¬ i = I (C + 27) 8 := by
      rw [hm]
      intro e
      rw [e] at h1
      omega
    have hi4 : ¬ 4 < i := by clear hT hS hP hc sp hun ih bm; grind
    have hi5 : 0 ≤ i ∧ i < 5 := ⟨h0, by clear hT hS hP hc sp hun ih bm; grind⟩
    obtain ⟨⟨a0, a1⟩, er⟩ := bm _ him
    have e17 : W 0 17 = Y 0 17 := hb0 0 17 (by unfold sb; omega)
    obtain ⟨-, ⟨ha, an0, -⟩, -⟩ := aa_of hc a0 (by rw [e17]; exact a1)
    have ei1 : (i + 1).toInt = i.toInt + 1 := by rw [ti_add (by omega)]; omega
    obtain ⟨t1, t2, t3, t4⟩ := lp_st h0 iml
    have hl := fun w u1 u2 => le_extend_71 (n := n) (t := t) (P := P) (E := E) (sf := sf) (w := w) hse bm bd y6 hi him (fun sf J W P q1 q2 q3 q4 q5 q6 q7 hP => ih (i + 1) sf J W (E + 19) P t2 (by omega) (by omega) q1 q2 q3 q4 q5 q6 q7 hP) t4 hT hc hb0 hno hm sp hun hP 0 (by decide) I u1 u2 (by decide) hT xf_refl
    have hp0 := hP I hT xf_refl
    have hn : ¬ R (C + 28) i.toNatClampNeg = 0 := by rw [er]; exact an0
    clear hP hc sp hun ih bm
    rw [a_enter1 (M := a_m138) rfl (a_cat_rf (a_cat_int (a_cat_int a_cat_nil))) (show 3 ≤ 8 by decide)]
    show a_at _ (a_xm a_m138) 0 [some (a_rf (C + 27)), some (.int i), some (.int sf), none, none, none, none, none] [] _ _
    simp only [q138_0, q138_1, q138_2, q138_5, q138_6, q138_7, q138_10, q138_11, q138_12, q138_13, q138_14, q138_17, q138_20, q138_21, q138_22, q138_23, q138_26, q138_29, q138_30, q138_31, q138_34, q138_35, q138_38, q138_39, q138_40, q138_43, q138_44, q138_45, q138_48, q138_51, q138_52, q138_53, q138_56, q138_57, q138_58, q138_59, q138_60, q138_61, q138_62, k_27 hS, z_27, r_27_5 hS, k_32 hS, l_32 hS, z_32, r_27_6 hS, k_33 hS, l_33 hS, z_33, r_27_7 hS, k_34 hS, l_34 hS, z_34, r_27_1 hS, k_28 hS, l_28 hS, z_28, as_nil, as_i, as_r, Nat.reduceAdd, Nat.reduceLeDiff, z_eq0, z_eq1, z_or, z_em, Classical.not_not, not_false_eq_true, not_true_eq_false, true_and, and_true, false_and, and_false, and_self, true_implies, false_implies, implies_true, Option.toList_some, Option.toList_none, List.cons_append, List.nil_append, Nat.add_eq_zero_iff, a_nl_i, a_nl_r, a_nl_n, true_or, or_true, eq_self, a_isRA_22, a_isRA_24, a_isRA_32, a_isA_20, ok_4, ok_5, ok_6, ok_7, ok_9, ok_20, ok_21, ok_30, ok_50, ok_180, ok_192, ok_200, ui_ap, cc_ne, cc_n0, cc_0n, Nat.reduceEqDiff, reduceIte, if_true, if_false, ei, hi4]
    refine ⟨hi5, fun _ => ⟨hi, ?_⟩, fun _ => hp0⟩
    refine ck_worth hi hn hT (fun v => ?_)
    simp only [q138_65, q138_66, q138_68, q138_69, as_nil, as_i, as_r, Nat.reduceAdd, Nat.reduceLeDiff, z_eq0, z_eq1, z_or, z_em, Classical.not_not, not_false_eq_true, not_true_eq_false, true_and, and_true, false_and, and_false, and_self, true_implies, false_implies, implies_true, Option.toList_some, Option.toList_none, List.cons_append, List.nil_append, Nat.add_eq_zero_iff, a_nl_i, a_nl_r, a_nl_n, true_or, or_true, eq_self, a_isRA_22, a_isRA_24, a_isRA_32, a_isA_20, ok_4, ok_5, ok_6, ok_7, ok_9, ok_20, ok_21, ok_30, ok_50, ok_180, ok_192, ok_200, ui_ap, cc_ne, cc_n0, cc_0n, Nat.reduceEqDiff, reduceIte, if_true, if_false, er]
    exact hl _ _ _
end ZMM
end
section
/-! the class: the best leaves all as it was -/
section ZNN
variable {d n t C c : Nat} {K L : Nat → Nat} {I I0 J J0 J1 J2 : Nat → Nat → Int32} {R : Nat → Nat → Nat} {P : Option Value → AH → Prop}
variable {Y Z W : Nat → Nat → Int32} {R' R1 R2 : Nat → Nat → Nat} {g : Nat → Int32}
def fbP (C c n t : Nat) (K L : Nat → Nat) (I : Nat → Nat → Int32) (R : Nat → Nat → Nat) (J : Nat → Nat → Int32) (R' : Nat → Nat → Nat) : Prop := cH C c n t K L J R' ∧ rfP C R R' ∧ ∀ x j, ¬ x = C + 9 → ¬ x = C + 10 → ¬ (C + 27 ≤ x ∧ x ≤ C + 34) → J x j = I x j
theorem fb_cp (hT : cT C K L I R) (hc : cpP C K L I R Y) (h : fbP C c n t K L I R J R1) : cpP C K L J R1 Y := by
  have fr : ∀ x j, ¬ (C + 9 ≤ x ∧ x ≤ C + 10) → ¬ (C + 27 ≤ x ∧ x ≤ C + 34) → J x j = I x j := fun x j a b => h.2.2 x j (by omega) (by omega) (by omega)
  have r16 : ∀ j, R1 (C + 16) j = R (C + 16) j := fun j => h.2.1 _ _ (by omega) (by omega) (by omega)
  have rb : ∀ b : Int32, 0 ≤ b → b < Y 0 6 → C + 96 < R (C + 16) b.toNatClampNeg ∧ C + 96 < R (R (C + 16) b.toNatClampNeg) 2 ∧ C + 96 < R (R (C + 16) b.toNatClampNeg) 3 := fun b b0 b1 => by
    obtain ⟨w0, ⟨w1, -⟩, ⟨s1, -⟩, -⟩ := hT.g_bnc _ (hc.2.1.2.2.1 b b0 b1).1
    exact ⟨w0, w1, s1⟩
  refine cp_mk hT hc (fun _ _ _ => rfl) hc.2.2.2.2.2.2.2.2.2.2.1 (fun _ _ => ⟨rfl, rfl⟩) (fun x j _ _ h1 h2 h3 => h.2.1 x j h1 h2 h3) (fun k j hk => fr _ _ (by omega) (by omega)) (fun x j kx _ _ => ?_) (fun x j kx _ => ?_) (fun x j kx => ?_) (fun k k0 k1 j => ?_) (fun o o0 o1 => ?_) (plP_eq hc.2.1.2.2.2 (fun b b0 b1 => ?_) (fun b b0 b1 => ?_))
  · have := (hT.g_ask x kx).1
    exact fr _ _ (by omega) (by omega)
  · have := (hT.g_bnc x kx).1
    exact fr _ _ (by omega) (by omega)
  · have := (hT.g_txt x kx).1
    exact fr _ _ (by omega) (by omega)
  · have := (hT.g_txt _ (hc.2.2.2.1.2 k k0 k1).1).2.1
    exact fr _ _ (by omega) (by omega)
  · have ao := hc.2.2.1.2.1 o o0 o1
    have := (hT.g_ask _ ao.1).1
    rw [fr _ _ (by omega) (by omega), fr _ _ (by omega) (by omega)]
    exact (hc.2.2.1.2.2.2 o o0 o1).2.2.2.1
  · have := rb b b0 b1
    funext j
    unfold whC
    rw [fr _ _ (by omega) (by omega)]
  · have := rb b b0 b1
    funext j
    unfold snC
    rw [fr _ _ (by omega) (by omega)]
theorem fb_se (hT : cT C K L I R) (hc : cpP C K L I R Y) (hse : seP C R Y) (h : fbP C c n t K L I R J R1) : seP C R1 Y := se_rf hT hc hse h.2.1
theorem fb_cu (hH : cH C c n t K L I R) (hu : cuP C K L I R Y) (h : fbP C c n t K L I R J R1) : cuP C K L J R1 Y := by
  have hT := hH.1
  have hz : fZ C n K (noA C R Y) I R n K J R1 := ⟨⟨hH.2.2.1, Nat.le_refl _⟩, hH.2.1, fun _ _ => rfl, fun x j hx => by
    have : ¬ (C + 9 ≤ x ∧ x ≤ C + 10) ∧ ¬ (C + 27 ≤ x ∧ x ≤ C + 34) := by
      have := sz_K hT (x := x)
      unfold siX at hx
      omega
    exact h.2.2 x j (by omega) (by omega) (by omega), fun x j _ _ a1 a2 a3 => h.2.1 x j a1 a2 a3⟩
  exact ⟨fb_cp hT hu.1 h, fb_se hT hu.1 hu.2.1 h, siP_z hT hu.2.2.1 hz, hu.2.2.2.1, stP_z hT hu.1 hu.2.2.2.2 hz⟩
theorem le_areAllFree_2 (hT : cT C K L I R) (hc : cpP C K L I R Y) {r : Int32} (hP : ∀ v : Int32, (¬ v = 0 → ∀ k : Int32, 0 ≤ k → k < Y 0 17 → bq r k.toNatClampNeg = true → ¬ 0 ≤ Y 20 k.toNatClampNeg) → P (some (.int v)) (n, t, K, L, I, R)) : ∀ i : Int32, i ≤ 30 → ∀ u, 0 ≤ i → i ≤ Y 0 17 → (∀ k : Int32, 0 ≤ k → k < i → bq r k.toNatClampNeg = true → ¬ 0 ≤ Y 20 k.toNatClampNeg) → a_at (d + 1) (a_xm a_m131) 2 [some (a_rf (C + 14)), some (.int r), some (.int i), u] [] (n, t, K, L, I, R) P := by
  have y17 := hc.2.2.2.2.2.2.2.2.1
  have hS := hT.s
  have gA := hT.g_asksR
  have gB := hT.g_benchesR
  have gX := hT.g_textsR
  refine up_ind 30 (fun i hk ih => ?_)
  intro u h0 h1 hn
  have e4 : I (C + 14) 4 = Y 0 17 := hc.2.2.1.1
  rw [q131_2]
  by_cases ci : i < Y 0 17
  · obtain ⟨t1, t2, t3, t4⟩ := lp_st h0 ci
    have hi30 : 0 ≤ i ∧ i < 30 := ⟨h0, Int32.lt_of_lt_of_le ci y17.2⟩
    have hia : 0 ≤ i ∧ i < Y 0 17 ∧ i < 30 := ⟨h0, ci, hi30.2⟩
    obtain ⟨-, ⟨ha, an0, -⟩, -, al⟩ := aa_of hc h0 ci
    have f13 : I (R (C + 15) i.toNatClampNeg) 13 = Y 20 i.toNatClampNeg := al.2.2.2.1.1
    have nc : ¬ Y 0 17 ≤ i := Int32.not_le.mpr ci
    have hnext : (bq r i.toNatClampNeg = true → ¬ 0 ≤ Y 20 i.toNatClampNeg) → ∀ u, a_at (d + 1) (a_xm a_m131) 44 [some (a_rf (C + 14)), some (.int r), some (.int i), u] [] (n, t, K, L, I, R) P := fun q u => by
      have hg := ih hi30.2 u t2 t3 (fun k k0 k1 => by
        by_cases e : k = i
        · rw [e]; exact q
        · exact hn k k0 (by clear ih hP hc hn; grind))
      clear ih hP hc hn
      simp only [q131_44, q131_47, as_nil, as_i, as_r, Nat.reduceAdd, Nat.reduceLeDiff, z_eq0, z_eq1, z_or, z_em, Classical.not_not, not_false_eq_true, not_true_eq_false, true_and, and_true, false_and, and_false, and_self, true_implies, false_implies, implies_true, Option.toList_some, Option.toList_none, List.cons_append, List.nil_append, Nat.add_eq_zero_iff, a_nl_i, a_nl_r, a_nl_n, true_or, or_true, eq_self, a_isRA_22, a_isRA_24, a_isRA_32, a_isA_20, ok_4, ok_5, ok_6, ok_7, ok_9, ok_20, ok_21, ok_30, ok_50, ok_180, ok_192, ok_200]
      exact hg
    have h0v := hP 0 (fun q => absurd rfl q)
    have hcall : a_does (d + 1) 130 [.int r, .int i] (n, t, K, L, I, R) (fun r' h' => a_at (d + 1) (a_xm a_m131) 21 [some (a_rf (C + 14)), some (.int r), some (.int i), some (a_rf (R (C + 15) i.toNatClampNeg))] (r'.toList ++ []) h' P) := by
      refine ce_isIn (d := d) hi30 ?_
      by_cases cb : bq r i.toNatClampNeg = true
      · rw [if_pos cb]
        by_cases cp : 0 ≤ Y 20 i.toNatClampNeg
        · clear ih hP hc hn hnext
          simp only [q131_21, q131_24, q131_25, q131_28, q131_29, q131_32, q131_35, q131_36, q131_39, q131_42, q131_43, k_14 hS, z_14, sp_isPlaced, as_nil, as_i, as_r, Nat.reduceAdd, Nat.reduceLeDiff, z_eq0, z_eq1, z_or, z_em, Classical.not_not, not_false_eq_true, not_true_eq_false, true_and, and_true, false_and, and_false, and_self, true_implies, false_implies, implies_true, Option.toList_some, Option.toList_none, List.cons_append, List.nil_append, Nat.add_eq_zero_iff, a_nl_i, a_nl_r, a_nl_n, true_or, or_true, eq_self, a_isRA_22, a_isRA_24, a_isRA_32, a_isA_20, ok_4, ok_5, ok_6, ok_7, ok_9, ok_20, ok_21, ok_30, ok_50, ok_180, ok_192, ok_200, ha, an0, f13, cp]
          try simp only [true_and, and_true, true_implies, false_implies, implies_true, not_true_eq_false, not_false_eq_true]
          first
            | exact h0v
            | grind
        · have hg := hnext (fun _ => cp)
          clear ih hP hc hn hnext
          simp only [q131_21, q131_24, q131_25, q131_28, q131_29, q131_32, q131_35, q131_36, q131_39, q131_42, q131_43, k_14 hS, z_14, sp_isPlaced, as_nil, as_i, as_r, Nat.reduceAdd, Nat.reduceLeDiff, z_eq0, z_eq1, z_or, z_em, Classical.not_not, not_false_eq_true, not_true_eq_false, true_and, and_true, false_and, and_false, and_self, true_implies, false_implies, implies_true, Option.toList_some, Option.toList_none, List.cons_append, List.nil_append, Nat.add_eq_zero_iff, a_nl_i, a_nl_r, a_nl_n, true_or, or_true, eq_self, a_isRA_22, a_isRA_24, a_isRA_32, a_isA_20, ok_4, ok_5, ok_6, ok_7, ok_9, ok_20, ok_21, ok_30, ok_50, ok_180, ok_192, ok_200, ha, an0, f13, cp]
          try simp only [true_and, and_true, true_implies, false_implies, implies_true, not_true_eq_false, not_false_eq_true]
          grind
      · rw [if_neg cb]
        have hg := hnext (fun q => absurd q cb)
        clear ih hP hc hn hnext
        simp only [q131_21, as_nil, as_i, as_r, Nat.reduceAdd, Nat.reduceLeDiff, z_eq0, z_eq1, z_or, z_em, Classical.not_not, not_false_eq_true, not_true_eq_false, true_and, and_true, false_and, and_false, and_self, true_implies, false_implies, implies_true, Option.toList_some, Option.toList_none, List.cons_append, List.nil_append, Nat.add_eq_zero_iff, a_nl_i, a_nl_r, a_nl_n, true_or, or_true, eq_self, a_isRA_22, a_isRA_24, a_isRA_32, a_isA_20, ok_4, ok_5, ok_6, ok_7, ok_9, ok_20, ok_21, ok_30, ok_50, ok_180, ok_192, ok_200]
        try simp only [true_and, and_true, true_implies, false_implies, implies_true, not_true_eq_false, not_false_eq_true]
        first
          | exact hg _
          | grind
    clear ih hP hc hn hnext
    simp only [q131_3, q131_4, q131_7, q131_10, q131_11, q131_12, q131_15, q131_16, q131_17, q131_18, k_14 hS, z_14, sp_askAt hS gA, as_nil, as_i, as_r, Nat.reduceAdd, Nat.reduceLeDiff, z_eq0, z_eq1, z_or, z_em, Classical.not_not, not_false_eq_true, not_true_eq_false, true_and, and_true, false_and, and_false, and_self, true_implies, false_implies, implies_true, Option.toList_some, Option.toList_none, List.cons_append, List.nil_append, Nat.add_eq_zero_iff, a_nl_i, a_nl_r, a_nl_n, true_or, or_true, eq_self, a_isRA_22, a_isRA_24, a_isRA_32, a_isA_20, ok_4, ok_5, ok_6, ok_7, ok_9, ok_20, ok_21, ok_30, ok_50, ok_180, ok_192, ok_200, e4, hia, nc]
    try simp only [true_and, and_true, true_implies, false_implies, implies_true, not_true_eq_false, not_false_eq_true]
    first
      | exact hcall
      | grind
  · have e := (lp_end h1 ci).2
    have hp := hP 1 (fun _ => by rw [e] at hn; exact hn)
    have nc : Y 0 17 ≤ i := Int32.not_lt.mp ci
    clear ih hP hc hn
    simp only [q131_3, q131_4, q131_7, q131_50, q131_51, k_14 hS, z_14, as_nil, as_i, as_r, Nat.reduceAdd, Nat.reduceLeDiff, z_eq0, z_eq1, z_or, z_em, Classical.not_not, not_false_eq_true, not_true_eq_false, true_and, and_true, false_and, and_false, and_self, true_implies, false_implies, implies_true, Option.toList_some, Option.toList_none, List.cons_append, List.nil_append, Nat.add_eq_zero_iff, a_nl_i, a_nl_r, a_nl_n, true_or, or_true, eq_self, a_isRA_22, a_isRA_24, a_isRA_32, a_isA_20, ok_4, ok_5, ok_6, ok_7, ok_9, ok_20, ok_21, ok_30, ok_50, ok_180, ok_192, ok_200, e4, nc]
    try simp only [true_and, and_true, true_implies, false_implies, implies_true, not_true_eq_false, not_false_eq_true]
    first
      | exact hp
      | grind
theorem ce_areAllFree (hT : cT C K L I R) (hc : cpP C K L I R Y) {r : Int32} (hP : ∀ v : Int32, (¬ v = 0 → ∀ k : Int32, 0 ≤ k → k < Y 0 17 → bq r k.toNatClampNeg = true → ¬ 0 ≤ Y 20 k.toNatClampNeg) → P (some (.int v)) (n, t, K, L, I, R)) : a_does (d + 2) 131 [a_rf (C + 14), .int r] (n, t, K, L, I, R) P := by
  have hS := hT.s
  have hl := fun u => le_areAllFree_2 (d := d) (n := n) (t := t) hT hc hP 0 (by decide) u (by decide) hc.2.2.2.2.2.2.2.2.1.1 (fun k k0 k1 => absurd k1 (Int32.not_lt.mpr k0))
  clear hP hc
  rw [a_enter1 (M := a_m131) rfl (a_cat_rf (a_cat_int a_cat_nil)) (show 2 ≤ 4 by decide)]
  show a_at _ (a_xm a_m131) 0 [some (a_rf (C + 14)), some (.int r), none, none] [] _ _
  simp only [q131_0, q131_1, as_nil, as_i, as_r, Nat.reduceAdd, Nat.reduceLeDiff, z_eq0, z_eq1, z_or, z_em, Classical.not_not, not_false_eq_true, not_true_eq_false, true_and, and_true, false_and, and_false, and_self, true_implies, false_implies, implies_true, Option.toList_some, Option.toList_none, List.cons_append, List.nil_append, Nat.add_eq_zero_iff, a_nl_i, a_nl_r, a_nl_n, true_or, or_true, eq_self, a_isRA_22, a_isRA_24, a_isRA_32, a_isA_20, ok_4, ok_5, ok_6, ok_7, ok_9, ok_20, ok_21, ok_30, ok_50, ok_180, ok_192, ok_200]
  exact hl _
theorem fb_T (h : fbP C c n t K L I R J R1) (hT : cT C K L J2 R1) (f : ∀ x j, ¬ x = C + 9 → ¬ x = C + 10 → ¬ (C + 27 ≤ x ∧ x ≤ C + 34) → J2 x j = J x j) : fbP C c n t K L I R J2 R1 := ⟨cH_J h.1 hT, h.2.1, fun x j a1 a2 a3 => (f x j a1 a2 a3).trans (h.2.2 x j a1 a2 a3)⟩
theorem fb_R (h : fbP C c n t K L I R J R1) {j v : Nat} (hv : v = 0 ∨ K v = 1) : fbP C c n t K L I R J (a_ur R1 (C + 28) j v) := ⟨(cZ_R28 (cZ_refl h.1) hv).2.1, fun x y a1 a2 a3 => by rw [ur_ap, if_neg (fun e => a2 e.1)]; exact h.2.1 x y a1 a2 a3, h.2.2⟩
theorem le_search_125 {m : Int32} (hm4 : 0 ≤ m ∧ m ≤ 4) (bm : ∀ k, k < m.toNatClampNeg → (0 ≤ g k ∧ g k < Y 0 17) ∧ R (C + 28) k = R (C + 15) (g k).toNatClampNeg) (hT0 : cT C K L I R) (hc : cpP C K L I R Y) (hm : I (C + 27) 8 = m) {p q r : Int32} (hN : ∀ J u i, cT C K L J R → (∀ x j, ¬ x = C + 32 → J x j = I x j) → a_at (d + 30) (a_xm a_m132) 173 [some (a_rf (C + 27)), some (.int p), some (.int q), some (.int r), some (.int i), u] [] (n, t, K, L, J, R) P) : ∀ i : Int32, -1 ≤ i → ∀ J u, i < m → cT C K L J R → (∀ x j, ¬ x = C + 32 → J x j = I x j) → a_at (d + 30) (a_xm a_m132) 125 [some (a_rf (C + 27)), some (.int p), some (.int q), some (.int r), some (.int i), u] [] (n, t, K, L, J, R) P := by
  refine dn_ind (-1) (fun i hk ih => ?_)
  intro J u q0 hT hf
  have hS := hT.s
  have hi5 : ¬ i < 0 → (0 ≤ i + 1 ∧ i + 1 < 5) ∧ (0 ≤ i ∧ i < 5) ∧ (0 ≤ i ∧ i < 4) := fun h => by clear hN ih hc bm; grind
  have hex := hN J u i hT hf
  rw [q132_125]
  simp only [q132_127, q132_130, q132_131, q132_134, q132_136, q132_137, q132_140, q132_142, q132_143, q132_144, q132_145, q132_146, q132_149, q132_151, q132_152, q132_155, q132_156, q132_158, k_27 hS, z_27, r_27_5 hS, k_32 hS, l_32 hS, z_32, r_27_4 hS, k_31 hS, l_31 hS, z_31, as_nil, as_i, as_r, Nat.reduceAdd, Nat.reduceLeDiff, z_eq0, z_eq1, z_or, z_em, Classical.not_not, not_false_eq_true, not_true_eq_false, true_and, and_true, false_and, and_false, and_self, true_implies, false_implies, implies_true, Option.toList_some, Option.toList_none, List.cons_append, List.nil_append, Nat.add_eq_zero_iff, a_nl_i, a_nl_r, a_nl_n, true_or, or_true, eq_self, a_isRA_22, a_isRA_24, a_isRA_32, a_isA_20, ok_4, ok_5, ok_6, ok_7, ok_9, ok_20, ok_21, ok_30, ok_50, ok_180, ok_192, ok_200]
  refine ⟨fun _ => hex, fun h1 => ?_⟩
  obtain ⟨x1, x2, x3⟩ := hi5 h1
  obtain ⟨⟨a0, a1⟩, er⟩ := bm i.toNatClampNeg (cl_lt x3.1 q0)
  have hn : ¬ R (C + 28) i.toNatClampNeg = 0 := by rw [er]; exact (hc.2.2.1.2.1 _ a0 a1).2.1
  have ih := ih (by clear hN ih hc bm hex; grind)
  have hs : ∀ v, a_at (d + 30) (a_xm a_m132) 165 [some (a_rf (C + 27)), some (.int p), some (.int q), some (.int r), some (.int i), u] [.int v, .int (J (C + 32) (i + 1).toNatClampNeg), .int i, a_rf (C + 32)] (n, t, K, L, J, R) P := fun v => by
    have hi := ih (a_ui J (C + 32) i.toNatClampNeg (J (C + 32) (i + 1).toNatClampNeg + v)) u (by clear hN ih hc bm hex; grind) (sT_Best_reach hT) (fun x j e => by rw [ui_ap, if_neg (fun q => e q.1)]; exact hf x j e)
    clear hN ih hc bm hex
    simp only [q132_165, q132_166, q132_167, q132_170, as_nil, as_i, as_r, Nat.reduceAdd, Nat.reduceLeDiff, z_eq0, z_eq1, z_or, z_em, Classical.not_not, not_false_eq_true, not_true_eq_false, true_and, and_true, false_and, and_false, and_self, true_implies, false_implies, implies_true, Option.toList_some, Option.toList_none, List.cons_append, List.nil_append, Nat.add_eq_zero_iff, a_nl_i, a_nl_r, a_nl_n, true_or, or_true, eq_self, a_isRA_22, a_isRA_24, a_isRA_32, a_isA_20, ok_4, ok_5, ok_6, ok_7, ok_9, ok_20, ok_21, ok_30, ok_50, ok_180, ok_192, ok_200, ui_ap, cc_ne, cc_n0, cc_0n, Nat.reduceEqDiff, reduceIte, if_true, if_false, k_32 hS, l_32 hS, z_32]
    exact ⟨x2, hi⟩
  refine ⟨x1, x3, fun _ => ?_, fun _ => ?_⟩
  · simp only [q132_164, as_nil, as_i, as_r, Nat.reduceAdd, Nat.reduceLeDiff, z_eq0, z_eq1, z_or, z_em, Classical.not_not, not_false_eq_true, not_true_eq_false, true_and, and_true, false_and, and_false, and_self, true_implies, false_implies, implies_true, Option.toList_some, Option.toList_none, List.cons_append, List.nil_append, Nat.add_eq_zero_iff, a_nl_i, a_nl_r, a_nl_n, true_or, or_true, eq_self, a_isRA_22, a_isRA_24, a_isRA_32, a_isA_20, ok_4, ok_5, ok_6, ok_7, ok_9, ok_20, ok_21, ok_30, ok_50, ok_180, ok_192, ok_200, ui_ap, cc_ne, cc_n0, cc_0n, Nat.reduceEqDiff, reduceIte, if_true, if_false]
    exact hs _
  · refine ck_worth x3 hn hT (fun v => ?_)
    simp only [q132_161, as_nil, as_i, as_r, Nat.reduceAdd, Nat.reduceLeDiff, z_eq0, z_eq1, z_or, z_em, Classical.not_not, not_false_eq_true, not_true_eq_false, true_and, and_true, false_and, and_false, and_self, true_implies, false_implies, implies_true, Option.toList_some, Option.toList_none, List.cons_append, List.nil_append, Nat.add_eq_zero_iff, a_nl_i, a_nl_r, a_nl_n, true_or, or_true, eq_self, a_isRA_22, a_isRA_24, a_isRA_32, a_isA_20, ok_4, ok_5, ok_6, ok_7, ok_9, ok_20, ok_21, ok_30, ok_50, ok_180, ok_192, ok_200, ui_ap, cc_ne, cc_n0, cc_0n, Nat.reduceEqDiff, reduceIte, if_true, if_false]
    exact hs _
theorem le_search_83 (hH : cH C c n t K L I R) (hc : cpP C K L I R Y) (hse : seP C R Y) (hno : noP Y) {m : Int32} (hm4 : 0 ≤ m ∧ m ≤ 4) (bm : ∀ k, k < m.toNatClampNeg → (0 ≤ g k ∧ g k < Y 0 17) ∧ R (C + 28) k = R (C + 15) (g k).toNatClampNeg) (bd : ∀ k j, k < j → j < m.toNatClampNeg → ¬ (g k).toNatClampNeg = (g j).toNatClampNeg) (bu : ∀ k, k < m.toNatClampNeg → ¬ 0 ≤ Y 20 (g k).toNatClampNeg) (hm : I (C + 27) 8 = m) {p q r : Int32} (hp : 0 ≤ p ∧ p ≤ 210) (hq : q ≤ 199) (hP : ∀ J, cT C K L J R → (∀ x j, ¬ x = C + 9 → ¬ x = C + 10 → ¬ (C + 27 ≤ x ∧ x ≤ C + 34) → J x j = I x j) → J (C + 27) 8 = m → P none (n, t, K, L, J, R)) : ∀ i : Int32, i ≤ 4 → ∀ J u, 0 ≤ i → i ≤ m → cT C K L J R → fcP C I J → spP C Y g i.toNatClampNeg J → a_at (d + 30) (a_xm a_m132) 83 [some (a_rf (C + 27)), some (.int p), some (.int q), some (.int r), some (.int i), u] [] (n, t, K, L, J, R) P := by
  refine up_ind 4 (fun i hk ih => ?_)
  intro J u q0 q1 hT hf sp
  have hS := hT.s
  have e8 : J (C + 27) 8 = m := (hf _ _ (by omega) (by omega) (by omega) (by omega) (by omega)).trans hm
  rw [q132_83]
  by_cases ci : i < m
  · obtain ⟨t1, t2, t3, t4⟩ := lp_st q0 ci
    have hi : 0 ≤ i ∧ i < 4 := ⟨q0, Int32.lt_of_lt_of_le ci hm4.2⟩
    obtain ⟨ai, er⟩ := bm i.toNatClampNeg (cl_lt q0 ci)
    have c' : ¬ m ≤ i := Int32.not_le.mpr ci
    have hcall := ce_collect (d := d + 22) (n := n) (t := t) hH.1 hc (r := r) hi ai er hp hq hT hf sp (P := fun r' h' => a_at (d + 30) (a_xm a_m132) 101 [some (a_rf (C + 27)), some (.int p), some (.int q), some (.int r), some (.int i), u] (r'.toList ++ []) h' P) (fun J2 T2 f2 s2 => by
      have hS2 := T2.s
      have hg := ih hi.2 J2 u t2 t3 T2 f2 (by rw [t4]; exact s2)
      clear ih hP hc bm bd bu
      simp only [q132_101, q132_104, as_nil, as_i, as_r, Nat.reduceAdd, Nat.reduceLeDiff, z_eq0, z_eq1, z_or, z_em, Classical.not_not, not_false_eq_true, not_true_eq_false, true_and, and_true, false_and, and_false, and_self, true_implies, false_implies, implies_true, Option.toList_some, Option.toList_none, List.cons_append, List.nil_append, Nat.add_eq_zero_iff, a_nl_i, a_nl_r, a_nl_n, true_or, or_true, eq_self, a_isRA_22, a_isRA_24, a_isRA_32, a_isA_20, ok_4, ok_5, ok_6, ok_7, ok_9, ok_20, ok_21, ok_30, ok_50, ok_180, ok_192, ok_200, ui_ap, cc_ne, cc_n0, cc_0n, Nat.reduceEqDiff, reduceIte, if_true, if_false]
      exact hg)
    clear ih hP hc bm bd bu sp hf
    simp only [q132_85, q132_86, q132_89, q132_92, q132_93, q132_95, q132_96, q132_97, q132_98, k_27 hS, z_27, as_nil, as_i, as_r, Nat.reduceAdd, Nat.reduceLeDiff, z_eq0, z_eq1, z_or, z_em, Classical.not_not, not_false_eq_true, not_true_eq_false, true_and, and_true, false_and, and_false, and_self, true_implies, false_implies, implies_true, Option.toList_some, Option.toList_none, List.cons_append, List.nil_append, Nat.add_eq_zero_iff, a_nl_i, a_nl_r, a_nl_n, true_or, or_true, eq_self, a_isRA_22, a_isRA_24, a_isRA_32, a_isA_20, ok_4, ok_5, ok_6, ok_7, ok_9, ok_20, ok_21, ok_30, ok_50, ok_180, ok_192, ok_200, e8, c']
    try simp only [true_and, and_true, true_implies, false_implies, implies_true, not_true_eq_false, not_false_eq_true]
    first
      | exact hcall
      | grind
  · have e := (lp_end q1 ci).2
    have c' : m ≤ i := Int32.not_lt.mp ci
    have hs5 : 0 ≤ m ∧ m < 5 := ⟨hm4.1, Int32.lt_of_le_of_lt hm4.2 (by decide)⟩
    have hcJ := fc_cp hH.1 hc hf
    have hT1 : cT C K L (a_ui J (C + 32) m.toNatClampNeg 0) R := sT_Best_reach hT
    have hc1 := cp_sc hT hcJ (k := 32) (j := m.toNatClampNeg) (v := 0) (by omega) (by omega)
    have hl := le_search_125 (d := d) (n := n) (t := t) (P := P) (p := p) (q := q) (r := r) hm4 bm hT1 hc1 (by rw [ui_ap, if_neg (by omega)]; exact e8) (fun J2 u2 i2 T2 f2 => by
      have hS2 := T2.s
      have hT3 : cT C K L (a_ui J2 (C + 27) 9 (-1)) R := sT_Best_sum T2
      have s0 := Int32.le_iff_toInt_le.mp hm4.1
      have s1 := Int32.le_iff_toInt_le.mp hm4.2
      have c0 : (0 : Int32).toInt = 0 := rfl
      have c4 : (4 : Int32).toInt = 4 := rfl
      have fJ : ∀ x j, ¬ x = C + 32 → ¬ (x = C + 27 ∧ j = 9) → a_ui J2 (C + 27) 9 (-1) x j = J x j := fun x j e1 e2 => by
        rw [ui_ap, if_neg e2, f2 x j e1, ui_ap, if_neg (fun q => e1 q.1)]
      have xcp : cpP C K L (a_ui J2 (C + 27) 9 (-1)) R Y := cp_fr hT hcJ (fun k j hk => fJ _ _ (by omega) (by omega)) (fun x j kx => by
        have := (hT.g_ask x kx).1
        exact fJ _ _ (by omega) (by omega)) (fun x j kx _ => by
        have := (hT.g_bnc x kx).1
        exact fJ _ _ (by omega) (by omega)) (fun x j kx => by
        have := (hT.g_txt x kx).1
        exact fJ _ _ (by omega) (by omega)) (fun k k0 k1 j => by
        have := (hT.g_txt _ (hcJ.2.2.2.1.2 k k0 k1).1).2.1
        exact fJ _ _ (by omega) (by omega)) (fun b b0 b1 j => by
        obtain ⟨-, ⟨w1, -⟩, ⟨s1, -⟩, -⟩ := hT.g_bnc _ (hcJ.2.1.2.2.1 b b0 b1).1
        exact ⟨fJ _ _ (by omega) (by omega), fJ _ _ (by omega) (by omega)⟩)
      have hx := kx_all (n := n) (t := t) hse hm4 bm bd hc.2.2.2.2.2.2.2.2.2.1.2 m.toInt.toNat 0 0 (a_ui J2 (C + 27) 9 (-1)) Y (d + 30) (fun r' h' => a_at (d + 30) (a_xm a_m132) 184 [some (a_rf (C + 27)), some (.int p), some (.int q), some (.int r), some (.int i2), u2] (r'.toList ++ []) h' P) (by decide) (by omega) (by omega) hT3 xcp (fun _ _ _ => rfl) hno ((fJ _ _ (by omega) (by omega)).trans e8) (fun k hk => by
        rw [fJ (C + 31) _ (by omega) (by omega)]
        have := sp k (by rw [e]; exact hk)
        refine ⟨this.1, fun y hy => ?_⟩
        rw [fJ (C + 29) _ (by omega) (by omega), fJ (C + 30) _ (by omega) (by omega)]
        exact this.2 y hy) (fun k _ k1 => bu k k1) (fun J3 T3 x3 => by
        have hS3 := T3.s
        have hp := hP J3 T3 (fun x j a1 a2 a3 => by
          rw [x3 x j a1 a2 (by omega) (by omega) (by omega), fJ x j (by omega) (by omega)]
          exact hf x j a1 a2 (by omega) (by omega) (by omega)) (by rw [x3 _ _ (by omega) (by omega) (by omega) (by omega) (by omega), fJ _ _ (by omega) (by omega)]; exact e8)
        clear ih hP hc bm bd bu sp hf f2 hcJ hc1 fJ xcp x3
        simp only [q132_184, as_nil, as_i, as_r, Nat.reduceAdd, Nat.reduceLeDiff, z_eq0, z_eq1, z_or, z_em, Classical.not_not, not_false_eq_true, not_true_eq_false, true_and, and_true, false_and, and_false, and_self, true_implies, false_implies, implies_true, Option.toList_some, Option.toList_none, List.cons_append, List.nil_append, Nat.add_eq_zero_iff, a_nl_i, a_nl_r, a_nl_n, true_or, or_true, eq_self, a_isRA_22, a_isRA_24, a_isRA_32, a_isA_20, ok_4, ok_5, ok_6, ok_7, ok_9, ok_20, ok_21, ok_30, ok_50, ok_180, ok_192, ok_200, ui_ap, cc_ne, cc_n0, cc_0n, Nat.reduceEqDiff, reduceIte, if_true, if_false]
        exact hp)
      clear ih hP hc bm bd bu sp hf f2 hcJ hc1 fJ xcp
      simp only [q132_173, q132_174, q132_175, q132_178, q132_179, q132_180, q132_181, k_27 hS, z_27, as_nil, as_i, as_r, Nat.reduceAdd, Nat.reduceLeDiff, z_eq0, z_eq1, z_or, z_em, Classical.not_not, not_false_eq_true, not_true_eq_false, true_and, and_true, false_and, and_false, and_self, true_implies, false_implies, implies_true, Option.toList_some, Option.toList_none, List.cons_append, List.nil_append, Nat.add_eq_zero_iff, a_nl_i, a_nl_r, a_nl_n, true_or, or_true, eq_self, a_isRA_22, a_isRA_24, a_isRA_32, a_isA_20, ok_4, ok_5, ok_6, ok_7, ok_9, ok_20, ok_21, ok_30, ok_50, ok_180, ok_192, ok_200, ui_ap, cc_ne, cc_n0, cc_0n, Nat.reduceEqDiff, reduceIte, if_true, if_false]
      exact hx) (m - 1) (by clear ih hP hc bm bd bu sp hf hcJ hc1; grind) (a_ui J (C + 32) m.toNatClampNeg 0) u (by clear ih hP hc bm bd bu sp hf hcJ hc1; grind) hT1 (fun _ _ _ => rfl)
    clear ih hP hc bm bd bu sp hf hcJ hc1
    simp only [q132_85, q132_86, q132_89, q132_107, q132_108, q132_111, q132_112, q132_115, q132_116, q132_117, q132_118, q132_121, q132_122, q132_123, k_27 hS, z_27, r_27_5 hS, k_32 hS, l_32 hS, z_32, as_nil, as_i, as_r, Nat.reduceAdd, Nat.reduceLeDiff, z_eq0, z_eq1, z_or, z_em, Classical.not_not, not_false_eq_true, not_true_eq_false, true_and, and_true, false_and, and_false, and_self, true_implies, false_implies, implies_true, Option.toList_some, Option.toList_none, List.cons_append, List.nil_append, Nat.add_eq_zero_iff, a_nl_i, a_nl_r, a_nl_n, true_or, or_true, eq_self, a_isRA_22, a_isRA_24, a_isRA_32, a_isA_20, ok_4, ok_5, ok_6, ok_7, ok_9, ok_20, ok_21, ok_30, ok_50, ok_180, ok_192, ok_200, ui_ap, cc_ne, cc_n0, cc_0n, Nat.reduceEqDiff, reduceIte, if_true, if_false, e8, c']
    try simp only [true_and, and_true, true_implies, false_implies, implies_true, not_true_eq_false, not_false_eq_true]
    first
      | exact ⟨hs5, hl⟩
      | exact hl
      | grind
end ZNN
end
section
/-! the class: the best, the public call -/
section ZOO
variable {d n t C c : Nat} {K L : Nat → Nat} {I I0 J J0 J1 J2 : Nat → Nat → Int32} {R : Nat → Nat → Nat} {P : Option Value → AH → Prop}
variable {Y Z W : Nat → Nat → Int32} {R' R1 R2 : Nat → Nat → Nat}
theorem le_search_8 (hH0 : cH C c n t K L I R) (hc : cpP C K L I R Y) (hse : seP C R Y) (hno : noP Y) {p q r : Int32} (hfr : ∀ k : Int32, 0 ≤ k → k < Y 0 17 → bq r k.toNatClampNeg = true → ¬ 0 ≤ Y 20 k.toNatClampNeg) (hp : 0 ≤ p ∧ p ≤ 210) (hq : q ≤ 199) (hP : ∀ J R1, fbP C c n t K L I R J R1 → bnP C R1 (J (C + 27) 8) → P none (n, t, K, L, J, R1)) : ∀ i : Int32, i ≤ 30 → ∀ J R1 u (g : Nat → Int32), 0 ≤ i → i ≤ Y 0 17 → fbP C c n t K L I R J R1 → (0 ≤ (J (C + 27) 8) ∧ (J (C + 27) 8) ≤ 4) → ((∀ k, k < (J (C + 27) 8).toNatClampNeg → ((0 ≤ g k ∧ g k < Y 0 17) ∧ R1 (C + 28) k = R1 (C + 15) (g k).toNatClampNeg) ∧ (g k < i ∧ ¬ 0 ≤ Y 20 (g k).toNatClampNeg)) ∧ ∀ k j, k < j → j < (J (C + 27) 8).toNatClampNeg → g k < g j) → a_at (d + 30) (a_xm a_m132) 8 [some (a_rf (C + 27)), some (.int p), some (.int q), some (.int r), some (.int i), u] [] (n, t, K, L, J, R1) P := by
  have y17 := hc.2.2.2.2.2.2.2.2.1
  refine up_ind 30 (fun i hk ih => ?_)
  intro J R1 u g h0 h1 hq2 sz mb
  have hT := hq2.1.1
  have hS := hT.s
  have gA := hT.g_asksR
  have gB := hT.g_benchesR
  have gX := hT.g_textsR
  have hcJ := fb_cp hH0.1 hc hq2
  have e4 : J (C + 14) 4 = Y 0 17 := hcJ.2.2.1.1
  rw [q132_8]
  by_cases ci : i < Y 0 17
  · obtain ⟨t1, t2, t3, t4⟩ := lp_st h0 ci
    have hi30 : 0 ≤ i ∧ i < 30 := ⟨h0, Int32.lt_of_lt_of_le ci y17.2⟩
    have hia : 0 ≤ i ∧ i < Y 0 17 ∧ i < 30 := ⟨h0, ci, hi30.2⟩
    obtain ⟨-, ⟨ha, an0, -⟩, -, al⟩ := aa_of hcJ h0 ci
    have nc : ¬ Y 0 17 ≤ i := Int32.not_le.mpr ci
    have iup : i < i + 1 := by clear ih hP hc hcJ mb hq2; grind
    have hnext : ∀ J R1 u (g : Nat → Int32), fbP C c n t K L I R J R1 → (0 ≤ (J (C + 27) 8) ∧ (J (C + 27) 8) ≤ 4) → ((∀ k, k < (J (C + 27) 8).toNatClampNeg → ((0 ≤ g k ∧ g k < Y 0 17) ∧ R1 (C + 28) k = R1 (C + 15) (g k).toNatClampNeg) ∧ (g k < (i + 1) ∧ ¬ 0 ≤ Y 20 (g k).toNatClampNeg)) ∧ ∀ k j, k < j → j < (J (C + 27) 8).toNatClampNeg → g k < g j) → a_at (d + 30) (a_xm a_m132) 74 [some (a_rf (C + 27)), some (.int p), some (.int q), some (.int r), some (.int i), u] [] (n, t, K, L, J, R1) P := fun J R1 u g q s m => by
      have hS := q.1.1.s
      have hg := ih hi30.2 J R1 u g t2 t3 q s m
      clear ih hP hc hcJ mb
      simp only [q132_74, q132_77, as_nil, as_i, as_r, Nat.reduceAdd, Nat.reduceLeDiff, z_eq0, z_eq1, z_or, z_em, Classical.not_not, not_false_eq_true, not_true_eq_false, true_and, and_true, false_and, and_false, and_self, true_implies, false_implies, implies_true, Option.toList_some, Option.toList_none, List.cons_append, List.nil_append, Nat.add_eq_zero_iff, a_nl_i, a_nl_r, a_nl_n, true_or, or_true, eq_self, a_isRA_22, a_isRA_24, a_isRA_32, a_isA_20, ok_4, ok_5, ok_6, ok_7, ok_9, ok_20, ok_21, ok_30, ok_50, ok_180, ok_192, ok_200, ui_ap, cc_ne, cc_n0, cc_0n, Nat.reduceEqDiff, reduceIte, if_true, if_false]
      exact hg
    have hsame : ∀ u, a_at (d + 30) (a_xm a_m132) 74 [some (a_rf (C + 27)), some (.int p), some (.int q), some (.int r), some (.int i), u] [] (n, t, K, L, J, R1) P := fun u => hnext J R1 u g hq2 sz ⟨fun k hk => ⟨(mb.1 k hk).1, ⟨Int32.lt_trans (mb.1 k hk).2.1 iup, (mb.1 k hk).2.2⟩⟩, mb.2⟩
    have hcall : a_does (d + 30) 130 [.int r, .int i] (n, t, K, L, J, R1) (fun r' h' => a_at (d + 30) (a_xm a_m132) 42 [some (a_rf (C + 27)), some (.int p), some (.int q), some (.int r), some (.int i), some (a_rf (R1 (C + 15) i.toNatClampNeg))] (r'.toList ++ []) h' P) := by
      refine ce_isIn (d := d + 29) hi30 ?_
      by_cases cb : bq r i.toNatClampNeg = true
      · rw [if_pos cb]
        by_cases c4 : (J (C + 27) 8) < 4
        · obtain ⟨u1, u2, u3, u4⟩ := lp_st sz.1 c4
          obtain ⟨g', gA', gL⟩ : ∃ g' : Nat → Int32, g' ((J (C + 27) 8)).toNatClampNeg = i ∧ ∀ k, ¬ k = ((J (C + 27) 8)).toNatClampNeg → g' k = g k := ⟨fun k => if k = ((J (C + 27) 8)).toNatClampNeg then i else g k, if_pos rfl, fun k h => if_neg h⟩
          have hg := hnext (a_ui J (C + 27) 8 ((J (C + 27) 8) + 1)) (a_ur R1 (C + 28) ((J (C + 27) 8)).toNatClampNeg (R1 (C + 15) i.toNatClampNeg)) (some (a_rf (R1 (C + 15) i.toNatClampNeg))) g' (fb_T (fb_R hq2 (Or.inr ha)) (sT_Best_size (fb_R hq2 (j := ((J (C + 27) 8)).toNatClampNeg) (Or.inr ha)).1.1 ⟨u2, u3⟩) (fun x j _ _ a3 => by rw [ui_ap, if_neg (by omega)])) (by rw [ui_ap, if_pos ⟨rfl, rfl⟩]; exact ⟨u2, u3⟩) (by
            rw [ui_ap, if_pos ⟨rfl, rfl⟩, u4]
            refine ⟨fun k hk => ?_, fun k j hkj hj => ?_⟩
            · by_cases e : k = ((J (C + 27) 8)).toNatClampNeg
              · rw [e, gA', ur_ap, if_pos ⟨rfl, rfl⟩, ur_ap, if_neg (by omega)]
                exact ⟨⟨⟨h0, ci⟩, rfl⟩, ⟨iup, hfr i h0 ci cb⟩⟩
              · rw [gL k e, ur_ap, if_neg (fun q => e q.2), ur_ap, if_neg (by omega)]
                have := mb.1 k (by omega)
                exact ⟨this.1, ⟨Int32.lt_trans this.2.1 iup, this.2.2⟩⟩
            · by_cases e : j = ((J (C + 27) 8)).toNatClampNeg
              · rw [e, gA', gL k (by omega)]
                exact (mb.1 k (by omega)).2.1
              · rw [gL j e, gL k (by omega)]
                exact mb.2 k j hkj (by omega))
          have c4' : ¬ 4 ≤ (J (C + 27) 8) := Int32.not_le.mpr c4
          have sz4 : 0 ≤ (J (C + 27) 8) ∧ (J (C + 27) 8) < 4 := ⟨sz.1, c4⟩
          clear ih hP hc hcJ mb hq2 hnext hsame hfr
          simp only [q132_42, q132_45, q132_46, q132_49, q132_50, q132_53, q132_54, q132_57, q132_58, q132_61, q132_63, q132_64, q132_65, q132_66, q132_69, q132_70, q132_71, k_27 hS, z_27, r_27_1 hS, k_28 hS, l_28 hS, z_28, as_nil, as_i, as_r, Nat.reduceAdd, Nat.reduceLeDiff, z_eq0, z_eq1, z_or, z_em, Classical.not_not, not_false_eq_true, not_true_eq_false, true_and, and_true, false_and, and_false, and_self, true_implies, false_implies, implies_true, Option.toList_some, Option.toList_none, List.cons_append, List.nil_append, Nat.add_eq_zero_iff, a_nl_i, a_nl_r, a_nl_n, true_or, or_true, eq_self, a_isRA_22, a_isRA_24, a_isRA_32, a_isA_20, ok_4, ok_5, ok_6, ok_7, ok_9, ok_20, ok_21, ok_30, ok_50, ok_180, ok_192, ok_200, ui_ap, cc_ne, cc_n0, cc_0n, Nat.reduceEqDiff, reduceIte, if_true, if_false, ha, an0, c4']
          try simp only [true_and, and_true, true_implies, false_implies, implies_true, not_true_eq_false, not_false_eq_true]
          repeat' first
            | with_reducible apply And.intro
            | with_reducible intro _
            | exact hg
            | exact sz4.1
            | exact sz4.2
            | (right; rfl)
            | (exfalso; rename_i h9; exact absurd h9 (by decide))
            | decide
        · have hg := hsame (some (a_rf (R1 (C + 15) i.toNatClampNeg)))
          have c4' : 4 ≤ (J (C + 27) 8) := Int32.not_lt.mp c4
          clear ih hP hc hcJ mb hq2 hnext hsame hfr
          simp only [q132_42, q132_45, q132_46, q132_49, q132_50, k_27 hS, z_27, as_nil, as_i, as_r, Nat.reduceAdd, Nat.reduceLeDiff, z_eq0, z_eq1, z_or, z_em, Classical.not_not, not_false_eq_true, not_true_eq_false, true_and, and_true, false_and, and_false, and_self, true_implies, false_implies, implies_true, Option.toList_some, Option.toList_none, List.cons_append, List.nil_append, Nat.add_eq_zero_iff, a_nl_i, a_nl_r, a_nl_n, true_or, or_true, eq_self, a_isRA_22, a_isRA_24, a_isRA_32, a_isA_20, ok_4, ok_5, ok_6, ok_7, ok_9, ok_20, ok_21, ok_30, ok_50, ok_180, ok_192, ok_200, ui_ap, cc_ne, cc_n0, cc_0n, Nat.reduceEqDiff, reduceIte, if_true, if_false, c4']
          try simp only [true_and, and_true, true_implies, false_implies, implies_true, not_true_eq_false, not_false_eq_true]
          first
            | exact hg
            | grind
      · rw [if_neg cb]
        have hg := hsame (some (a_rf (R1 (C + 15) i.toNatClampNeg)))
        clear ih hP hc hcJ mb hq2 hnext hsame hfr
        simp only [q132_42, as_nil, as_i, as_r, Nat.reduceAdd, Nat.reduceLeDiff, z_eq0, z_eq1, z_or, z_em, Classical.not_not, not_false_eq_true, not_true_eq_false, true_and, and_true, false_and, and_false, and_self, true_implies, false_implies, implies_true, Option.toList_some, Option.toList_none, List.cons_append, List.nil_append, Nat.add_eq_zero_iff, a_nl_i, a_nl_r, a_nl_n, true_or, or_true, eq_self, a_isRA_22, a_isRA_24, a_isRA_32, a_isA_20, ok_4, ok_5, ok_6, ok_7, ok_9, ok_20, ok_21, ok_30, ok_50, ok_180, ok_192, ok_200, ui_ap, cc_ne, cc_n0, cc_0n, Nat.reduceEqDiff, reduceIte, if_true, if_false]
        try simp only [true_and, and_true, true_implies, false_implies, implies_true, not_true_eq_false, not_false_eq_true]
        first
          | exact hg
          | grind
    clear ih hP hc hcJ mb hq2 hnext hsame hfr
    simp only [q132_10, q132_11, q132_14, q132_17, q132_20, q132_21, q132_24, q132_26, q132_29, q132_31, q132_33, q132_36, q132_37, q132_39, k_27 hS, z_27, r_27_0 hS, k_14 hS, z_14, sp_askAt hS gA, as_nil, as_i, as_r, Nat.reduceAdd, Nat.reduceLeDiff, z_eq0, z_eq1, z_or, z_em, Classical.not_not, not_false_eq_true, not_true_eq_false, true_and, and_true, false_and, and_false, and_self, true_implies, false_implies, implies_true, Option.toList_some, Option.toList_none, List.cons_append, List.nil_append, Nat.add_eq_zero_iff, a_nl_i, a_nl_r, a_nl_n, true_or, or_true, eq_self, a_isRA_22, a_isRA_24, a_isRA_32, a_isA_20, ok_4, ok_5, ok_6, ok_7, ok_9, ok_20, ok_21, ok_30, ok_50, ok_180, ok_192, ok_200, e4, hia, ha, an0, nc]
    try simp only [true_and, and_true, true_implies, false_implies, implies_true, not_true_eq_false, not_false_eq_true]
    first
      | exact hcall
      | grind
  · have nc : Y 0 17 ≤ i := Int32.not_lt.mp ci
    have hl := le_search_83 (d := d) (n := n) (t := t) (P := P) (r := r) hq2.1 hcJ (fb_se hH0.1 hc hse hq2) hno sz (fun k hk => (mb.1 k hk).1) (fun k j hkj hj e => by
      have e2 := cl_inj (mb.1 k (by omega)).1.1.1 (mb.1 j hj).1.1.1 e
      exact absurd (mb.2 k j hkj hj) (by rw [e2]; exact Int32.lt_irrefl)) (fun k hk => (mb.1 k hk).2.2) rfl hp hq (fun J2 T2 f2 e2 => hP J2 R1 (fb_T hq2 T2 f2) (fun j j0 j1 => by
        rw [e2] at j1
        have := (mb.1 j.toNatClampNeg (cl_lt j0 j1)).1
        rw [this.2]
        exact (hcJ.2.2.1.2.1 _ this.1.1 this.1.2).2.1)) 0 (by decide) J u (by decide) sz.1 hT fc_refl (fun k hk => absurd hk (Nat.not_lt_zero k))
    clear ih hP hc hcJ mb hq2 hfr
    simp only [q132_10, q132_11, q132_14, q132_17, q132_80, q132_81, k_27 hS, z_27, r_27_0 hS, k_14 hS, z_14, as_nil, as_i, as_r, Nat.reduceAdd, Nat.reduceLeDiff, z_eq0, z_eq1, z_or, z_em, Classical.not_not, not_false_eq_true, not_true_eq_false, true_and, and_true, false_and, and_false, and_self, true_implies, false_implies, implies_true, Option.toList_some, Option.toList_none, List.cons_append, List.nil_append, Nat.add_eq_zero_iff, a_nl_i, a_nl_r, a_nl_n, true_or, or_true, eq_self, a_isRA_22, a_isRA_24, a_isRA_32, a_isA_20, ok_4, ok_5, ok_6, ok_7, ok_9, ok_20, ok_21, ok_30, ok_50, ok_180, ok_192, ok_200, e4, nc]
    try simp only [true_and, and_true, true_implies, false_implies, implies_true, not_true_eq_false, not_false_eq_true]
    first
      | exact hl
      | grind
theorem ce_search (hH : cH C c n t K L I R) (hc : cpP C K L I R Y) (hse : seP C R Y) (hno : noP Y) {p q r : Int32} (hfr : ∀ k : Int32, 0 ≤ k → k < Y 0 17 → bq r k.toNatClampNeg = true → ¬ 0 ≤ Y 20 k.toNatClampNeg) (hp : 0 ≤ p ∧ p ≤ 210) (hq : q ≤ 199) (hP : ∀ J R1, fbP C c n t K L I R J R1 → bnP C R1 (J (C + 27) 8) → P none (n, t, K, L, J, R1)) : a_does (d + 31) 132 [a_rf (C + 27), .int p, .int q, .int r] (n, t, K, L, I, R) P := by
  have hT := hH.1
  have hS := hT.s
  have hl := fun u => le_search_8 (d := d) (n := n) (t := t) (P := P) hH hc hse hno hfr hp hq hP 0 (by decide) (a_ui I (C + 27) 8 0) R u (fun _ => 0) (by decide) hc.2.2.2.2.2.2.2.2.1.1 ⟨cH_J hH (sT_Best_size hT (by decide)), fun _ _ _ _ _ => rfl, fun x j _ _ a3 => by rw [ui_ap, if_neg (by omega)]⟩ (by rw [ui_ap, if_pos ⟨rfl, rfl⟩]; decide) (by
    rw [ui_ap, if_pos ⟨rfl, rfl⟩]
    exact ⟨fun k hk => absurd hk (Nat.not_lt_zero k), fun k j _ hj => absurd hj (Nat.not_lt_zero j)⟩)
  clear hP hc hfr
  rw [a_enter1 (M := a_m132) rfl (a_cat_rf (a_cat_int (a_cat_int (a_cat_int a_cat_nil)))) (show 4 ≤ 6 by decide)]
  show a_at _ (a_xm a_m132) 0 [some (a_rf (C + 27)), some (.int p), some (.int q), some (.int r), none, none] [] _ _
  simp only [q132_0, q132_1, q132_2, q132_5, q132_6, k_27 hS, z_27, as_nil, as_i, as_r, Nat.reduceAdd, Nat.reduceLeDiff, z_eq0, z_eq1, z_or, z_em, Classical.not_not, not_false_eq_true, not_true_eq_false, true_and, and_true, false_and, and_false, and_self, true_implies, false_implies, implies_true, Option.toList_some, Option.toList_none, List.cons_append, List.nil_append, Nat.add_eq_zero_iff, a_nl_i, a_nl_r, a_nl_n, true_or, or_true, eq_self, a_isRA_22, a_isRA_24, a_isRA_32, a_isA_20, ok_4, ok_5, ok_6, ok_7, ok_9, ok_20, ok_21, ok_30, ok_50, ok_180, ok_192, ok_200, ui_ap, cc_ne, cc_n0, cc_0n, Nat.reduceEqDiff, reduceIte, if_true, if_false]
  exact hl _
theorem ge_best (hH : cH C c (n + 1) t K L I R) (hu : cuP C K L I R Y) {x y r w : Int32} (hP : ∀ v J R1, cH C c (n + 1) t K L J R1 → cuP C K L J R1 Y → P (some (.int v)) (n + 1, t, K, L, J, R1)) : a_does (d + 70) 128 [a_rf C, .int x, .int y, .int r, .int w] (n + 1, t, K, L, I, R) P := by
  have hT := hH.1
  have hS := hT.s
  have gA := hT.g_asksR
  have gB := hT.g_benchesR
  have gX := hT.g_textsR
  have hrf : ∀ v : Int32, a_does (d + 69) 10 [a_rf C, .int v] (n + 1, t, K, L, I, R) (fun r' h' => ∀ z : Int32, r' = some (.int z) → P (some (.int z)) h') := fun v => by
    refine ge_refuse (d := d + 68) hH hu (fun J z u2 => ?_)
    intro q hq
    cases hq
    exact hP _ J R z u2
  have hq0 : ∀ v, ∀ Q : Option Value → AH → Prop, (∀ J, cH C c (n + 1) t K L J R → cuP C K L J R Y → Q (some (.int v)) (n + 1, t, K, L, J, R)) → a_does (d + 69) 10 [a_rf C, .int v] (n + 1, t, K, L, I, R) Q := fun v Q hQ => ge_refuse (d := d + 68) hH hu hQ
  have h75 : (0 ≤ x ∧ x < 200) → (0 ≤ y ∧ y < 200) → a_at (d + 69) (a_xm a_m128) 75 [some (a_rf C), some (.int x), some (.int y), some (.int r), some (.int w)] [] (n + 1, t, K, L, I, R) P := fun hx hy => by
    have y199 : y ≤ 199 := by clear hP hu hrf hq0; grind
    have hp := hP
    have hfree := ce_areAllFree (d := d + 67) (n := n + 1) (t := t) hT hu.1 (r := r) (P := fun r' h' => a_at (d + 69) (a_xm a_m128) 83 [some (a_rf C), some (.int x), some (.int y), some (.int r), some (.int w)] (r'.toList ++ []) h' P) (fun v hv => by
      by_cases cv : v = 0
      · have hr := hq0 (-3) (fun r' h' => a_at (d + 69) (a_xm a_m128) 92 [some (a_rf C), some (.int x), some (.int y), some (.int r), some (.int w)] (r'.toList ++ []) h' P) (fun J z u2 => by
          have hS := z.1.s
          have hp := hP (-3) J R z u2
          clear hP hu hrf hq0
          simp only [q128_92, as_nil, as_i, as_r, Nat.reduceAdd, Nat.reduceLeDiff, z_eq0, z_eq1, z_or, z_em, Classical.not_not, not_false_eq_true, not_true_eq_false, true_and, and_true, false_and, and_false, and_self, true_implies, false_implies, implies_true, Option.toList_some, Option.toList_none, List.cons_append, List.nil_append, Nat.add_eq_zero_iff, a_nl_i, a_nl_r, a_nl_n, true_or, or_true, eq_self, a_isRA_22, a_isRA_24, a_isRA_32, a_isA_20, ok_4, ok_5, ok_6, ok_7, ok_9, ok_20, ok_21, ok_30, ok_50, ok_180, ok_192, ok_200]
          exact hp)
        clear hP hu hrf hq0 hv
        simp only [q128_83, q128_86, q128_87, q128_89, k_0 hS, z_C hS, as_nil, as_i, as_r, Nat.reduceAdd, Nat.reduceLeDiff, z_eq0, z_eq1, z_or, z_em, Classical.not_not, not_false_eq_true, not_true_eq_false, true_and, and_true, false_and, and_false, and_self, true_implies, false_implies, implies_true, Option.toList_some, Option.toList_none, List.cons_append, List.nil_append, Nat.add_eq_zero_iff, a_nl_i, a_nl_r, a_nl_n, true_or, or_true, eq_self, a_isRA_22, a_isRA_24, a_isRA_32, a_isA_20, ok_4, ok_5, ok_6, ok_7, ok_9, ok_20, ok_21, ok_30, ok_50, ok_180, ok_192, ok_200, cv]
        try simp only [true_and, and_true, true_implies, false_implies, implies_true, not_true_eq_false, not_false_eq_true]
        first
          | exact hr
          | grind
      · have hs := ce_search (d := d + 38) (n := n + 1) hH hu.1 hu.2.1 hu.2.2.2.1 (hv cv) (p := x) (q := y) (r := r) ⟨hx.1, by clear hP hu hrf hq0 hv; grind⟩ y199 (P := fun r' h' => a_at (d + 69) (a_xm a_m128) 103 [some (a_rf C), some (.int x), some (.int y), some (.int r), some (.int w)] (r'.toList ++ []) h' P) (fun J R1 fb bn => by
          have hS := fb.1.1.s
          have hu2 := fb_cu hH hu fb
          have hp := fun v => hP v J R1 fb.1 hu2
          have hT2 := fb.1.1
          clear hP hu hrf hq0 hv hu2 fb
          simp only [q128_103, q128_105, q128_106, q128_109, q128_110, q128_113, q128_116, q128_119, q128_120, q128_123, q128_125, q128_128, k_0 hS, z_C hS, r_0_6 hS, k_27 hS, z_27, as_nil, as_i, as_r, Nat.reduceAdd, Nat.reduceLeDiff, z_eq0, z_eq1, z_or, z_em, Classical.not_not, not_false_eq_true, not_true_eq_false, true_and, and_true, false_and, and_false, and_self, true_implies, false_implies, implies_true, Option.toList_some, Option.toList_none, List.cons_append, List.nil_append, Nat.add_eq_zero_iff, a_nl_i, a_nl_r, a_nl_n, true_or, or_true, eq_self, a_isRA_22, a_isRA_24, a_isRA_32, a_isA_20, ok_4, ok_5, ok_6, ok_7, ok_9, ok_20, ok_21, ok_30, ok_50, ok_180, ok_192, ok_200]
          refine ⟨fun _ => ?_, fun _ => ?_⟩
          · first
              | exact hp _
              | (refine ck_spotOf hT2 bn (fun v2 => ?_)
                 simp only [q128_128, as_nil, as_i, as_r, Nat.reduceAdd, Nat.reduceLeDiff, z_eq0, z_eq1, z_or, z_em, Classical.not_not, not_false_eq_true, not_true_eq_false, true_and, and_true, false_and, and_false, and_self, true_implies, false_implies, implies_true, Option.toList_some, Option.toList_none, List.cons_append, List.nil_append, Nat.add_eq_zero_iff, a_nl_i, a_nl_r, a_nl_n, true_or, or_true, eq_self, a_isRA_22, a_isRA_24, a_isRA_32, a_isA_20, ok_4, ok_5, ok_6, ok_7, ok_9, ok_20, ok_21, ok_30, ok_50, ok_180, ok_192, ok_200]
                 exact hp _)
          · first
              | exact hp _
              | (refine ck_spotOf hT2 bn (fun v2 => ?_)
                 simp only [q128_128, as_nil, as_i, as_r, Nat.reduceAdd, Nat.reduceLeDiff, z_eq0, z_eq1, z_or, z_em, Classical.not_not, not_false_eq_true, not_true_eq_false, true_and, and_true, false_and, and_false, and_self, true_implies, false_implies, implies_true, Option.toList_some, Option.toList_none, List.cons_append, List.nil_append, Nat.add_eq_zero_iff, a_nl_i, a_nl_r, a_nl_n, true_or, or_true, eq_self, a_isRA_22, a_isRA_24, a_isRA_32, a_isA_20, ok_4, ok_5, ok_6, ok_7, ok_9, ok_20, ok_21, ok_30, ok_50, ok_180, ok_192, ok_200]
                 exact hp _))
        clear hP hu hrf hq0 hv
        simp only [q128_83, q128_93, q128_94, q128_97, q128_98, q128_99, q128_100, k_0 hS, z_C hS, r_0_6 hS, k_27 hS, z_27, as_nil, as_i, as_r, Nat.reduceAdd, Nat.reduceLeDiff, z_eq0, z_eq1, z_or, z_em, Classical.not_not, not_false_eq_true, not_true_eq_false, true_and, and_true, false_and, and_false, and_self, true_implies, false_implies, implies_true, Option.toList_some, Option.toList_none, List.cons_append, List.nil_append, Nat.add_eq_zero_iff, a_nl_i, a_nl_r, a_nl_n, true_or, or_true, eq_self, a_isRA_22, a_isRA_24, a_isRA_32, a_isA_20, ok_4, ok_5, ok_6, ok_7, ok_9, ok_20, ok_21, ok_30, ok_50, ok_180, ok_192, ok_200, cv]
        try simp only [true_and, and_true, true_implies, false_implies, implies_true, not_true_eq_false, not_false_eq_true]
        first
          | exact hs
          | grind)
    clear hP hu hrf hq0
    simp only [q128_75, q128_76, q128_79, q128_80, k_0 hS, z_C hS, r_0_4 hS, k_14 hS, z_14, as_nil, as_i, as_r, Nat.reduceAdd, Nat.reduceLeDiff, z_eq0, z_eq1, z_or, z_em, Classical.not_not, not_false_eq_true, not_true_eq_false, true_and, and_true, false_and, and_false, and_self, true_implies, false_implies, implies_true, Option.toList_some, Option.toList_none, List.cons_append, List.nil_append, Nat.add_eq_zero_iff, a_nl_i, a_nl_r, a_nl_n, true_or, or_true, eq_self, a_isRA_22, a_isRA_24, a_isRA_32, a_isA_20, ok_4, ok_5, ok_6, ok_7, ok_9, ok_20, ok_21, ok_30, ok_50, ok_180, ok_192, ok_200]
    exact hfree
  have hqz : ∀ v J, cH C c (n + 1) t K L J R → cuP C K L J R Y → P (some (.int v)) (n + 1, t, K, L, J, R) := fun v J z u2 => hP v J R z u2
  clear hP hrf
  rw [a_enter1 (M := a_m128) rfl (a_cat_rf (a_cat_int (a_cat_int (a_cat_int (a_cat_int a_cat_nil))))) (show 5 ≤ 5 by decide)]
  show a_at _ (a_xm a_m128) 0 [some (a_rf C), some (.int x), some (.int y), some (.int r), some (.int w)] [] _ _
  repeat' first
    | with_reducible apply And.intro
    | with_reducible assumption
    | with_reducible intro _
    | refine hq0 _ _ (fun _ _ _ => ?_)
    | exact hqz _ _ (by assumption) (by assumption)
    | with_reducible apply ck_areAsks hT
    | with_reducible apply ck_isIn
    | with_reducible apply ck_bitCount
    | with_reducible apply h75
    | simp only [q128_0, q128_1, q128_2, q128_5, q128_8, q128_9, q128_12, q128_13, q128_16, q128_19, q128_21, q128_24, q128_25, q128_27, q128_30, q128_33, q128_34, q128_35, q128_38, q128_39, q128_41, q128_42, q128_45, q128_46, q128_48, q128_51, q128_52, q128_53, q128_54, q128_55, q128_57, q128_60, q128_61, q128_64, q128_65, q128_68, q128_69, q128_71, q128_74, k_0 hS, z_C hS, r_0_4 hS, k_14 hS, z_14, sp_areShifts, as_nil, as_i, as_r, Nat.reduceAdd, Nat.reduceLeDiff, z_eq0, z_eq1, z_or, z_em, Classical.not_not, not_false_eq_true, not_true_eq_false, true_and, and_true, false_and, and_false, and_self, true_implies, false_implies, implies_true, Option.toList_some, Option.toList_none, List.cons_append, List.nil_append, Nat.add_eq_zero_iff, a_nl_i, a_nl_r, a_nl_n, true_or, or_true, eq_self, a_isRA_22, a_isRA_24, a_isRA_32, a_isA_20, ok_4, ok_5, ok_6, ok_7, ok_9, ok_20, ok_21, ok_30, ok_50, ok_180, ok_192, ok_200]
  all_goals ((try clear h75); (try clear hq0); (try clear hqz); (try clear hu); (try clear hH); (try clear hT); grind [ui_ap])
end ZOO
end
section
/-! the reference: the search for the best, with what it keeps -/
section ZPP
variable {d n t M c : Nat} {K L : Nat → Nat} {I I0 J J0 J1 J2 J3 J4 : Nat → Nat → Int32} {R : Nat → Nat → Nat} {P : Option Value → AH → Prop}
/-- putAt: who stands for others stays -/
def mT (M : Nat) (a : Int32) (I J : Nat → Nat → Int32) : Prop := mR M J ∧ ∀ x j, ¬ sC M x j → ¬ (x = (M + 22) ∧ 4 * a.toNatClampNeg ≤ j ∧ j < 4 * a.toNatClampNeg + 4) → J x j = I x j
theorem mT_refl {a : Int32} (hR : mR M I) : mT M a I I := ⟨hR, fun _ _ _ _ => rfl⟩
theorem mT_C {a : Int32} (h : mT M a I0 I) (hC : mC M I J) : mT M a I0 J := ⟨hC.1, fun x j h1 h2 => (hC.2 x j h1).trans (h.2 x j h1 h2)⟩
theorem mT_st {a i : Int32} (h : mT M a I0 J) (ha : 0 ≤ a ∧ a < 30) (h0 : 0 ≤ i) (h4 : i < 4) {v : Int32} : mT M a I0 (a_ui J (M + 22) (4 * a + i).toNatClampNeg v) := by
  have n := n4 (o := a) (i := i) ha ⟨h0, h4⟩
  have i4 : i.toNatClampNeg < 4 := cl_lt h0 h4
  refine ⟨sR_standing h.1, fun x j h1 h2 => ?_⟩
  rw [ui_ap, if_neg (by rw [n.1]; omega)]
  exact h.2 x j h1 h2
theorem lg_putAt_3 (hS : m_S M K L R) {a b s : Int32} (ha : 0 ≤ a ∧ a < 30) (hb : 0 ≤ b ∧ b ≤ 5) (hP : ∀ J, mT M a I J → P none (n, t, K, L, (a_ui (a_ui J (M + 20) a.toNatClampNeg b) (M + 21) a.toNatClampNeg s), R)) : ∀ i : Int32, i ≤ 4 → ∀ J, 0 ≤ i → mT M a I J → a_at (d + 9) (a_xm a_m231) 3 [some (a_rf M), some (.int a), some (.int b), some (.int s), some (.int i)] [] (n, t, K, L, J, R) P := by
  refine up_ind 4 (fun i hi ih => ?_)
  intro J h0 hm
  have g1 := rg_length hm.1
  have g2 := mC_refl hm.1
  rw [q231_3]
  repeat' first
    | with_reducible apply And.intro
    | with_reducible assumption
    | with_reducible intro _
    | with_reducible apply hP
    | with_reducible apply ih
    | with_reducible apply ct_standFor hS g2 ha hb
    | with_reducible apply mT_st
    | with_reducible apply mT_C hm
    | simp only [q231_0, q231_1, q231_5, q231_6, q231_9, q231_10, q231_11, q231_14, q231_15, q231_18, q231_19, q231_20, q231_21, q231_23, q231_24, q231_25, q231_26, q231_27, q231_28, q231_30, q231_31, q231_34, q231_35, q231_38, q231_41, q231_42, q231_45, q231_46, q231_47, q231_48, q231_49, q231_52, q231_53, q231_54, q231_55, m_0 hS, m_K hS, mR_length hS, mK_length hS, mL_length hS, mR_standing hS, mK_standing hS, mL_standing hS, mR_atBench hS, mK_atBench hS, mL_atBench hS, mR_atShift hS, mK_atShift hS, mL_atShift hS, as_nil, as_i, as_r, Nat.reduceAdd, Nat.reduceLeDiff, z_eq0, z_eq1, z_or, z_em, Classical.not_not, not_false_eq_true, not_true_eq_false, true_and, and_true, false_and, and_false, and_self, true_implies, false_implies, implies_true, Option.toList_some, Option.toList_none, List.cons_append, List.nil_append, Nat.add_eq_zero_iff, a_nl_i, a_nl_r, a_nl_n, true_or, or_true, eq_self, ok_4, ok_5, ok_6, ok_7, ok_9, ok_10, ok_20, ok_21, ok_24, ok_30, ok_48, ok_50, ok_60, ok_80, ok_120, ok_180, ok_192, ok_200, ok_900, ok_1000, ok_84000]
  all_goals grind [ui_ap]
theorem cg_putAt (hS : m_S M K L R) (hR : mR M I) {a b s : Int32} (ha : 0 ≤ a ∧ a < 30) (hb : 0 ≤ b ∧ b ≤ 5) (hP : ∀ J, mT M a I J → P none (n, t, K, L, (a_ui (a_ui J (M + 20) a.toNatClampNeg b) (M + 21) a.toNatClampNeg s), R)) : a_does (d + 10) 231 [a_rf M, .int a, .int b, .int s] (n, t, K, L, I, R) P := by
  rw [a_enter1 (M := a_m231) rfl (a_cat_rf (a_cat_int (a_cat_int (a_cat_int a_cat_nil)))) (show 4 ≤ 5 by decide)]
  show a_at _ (a_xm a_m231) 0 [some (a_rf M), some (.int a), some (.int b), some (.int s), none] [] _ _
  simp only [q231_0, q231_1, as_nil, as_i, as_r, Nat.reduceAdd, Nat.reduceLeDiff, z_eq0, z_eq1, z_or, z_em, Classical.not_not, not_false_eq_true, not_true_eq_false, true_and, and_true, false_and, and_false, and_self, true_implies, false_implies, implies_true, Option.toList_some, Option.toList_none, List.cons_append, List.nil_append, Nat.add_eq_zero_iff, a_nl_i, a_nl_r, a_nl_n, true_or, or_true, eq_self, ok_4, ok_5, ok_6, ok_7, ok_9, ok_10, ok_20, ok_21, ok_24, ok_30, ok_48, ok_50, ok_60, ok_80, ok_120, ok_180, ok_192, ok_200, ok_900, ok_1000, ok_84000]
  exact lg_putAt_3 hS ha hb hP 0 (by decide) I (by decide) (mT_refl hR)
def bG (M : Nat) (I J : Nat → Nat → Int32) : Prop := (∀ x j, ¬ sC M x j → ¬ (x = (M + 22) ∧ ∃ q, fw M I q ∧ 4 * q ≤ j ∧ j < 4 * q + 4) → ¬ x = (M + 42) → ¬ x = (M + 43) → ¬ x = (M + 44) → ¬ ((x = (M + 20) ∨ x = (M + 21)) ∧ fw M I j) → J x j = I x j) ∧ ∀ j, fw M I j → ¬ 0 ≤ J (M + 20) j → J (M + 20) j = -9 ∧ J (M + 21) j = -9
theorem bG_C (h : bG M I J) (hC : mC M J J2) : bG M I J2 := ⟨fun x j h1 h2 h3 h4 h5 h6 => (hC.2 x j h1).trans (h.1 x j h1 h2 h3 h4 h5 h6), fun j hj hn => by
  rw [hC.2 _ _ (by unfold sC; omega)] at hn
  rw [hC.2 _ _ (by unfold sC; omega), hC.2 _ _ (by unfold sC; omega)]
  exact h.2 j hj hn⟩
theorem bG_ui (h : bG M I J) {x k : Nat} {v : Int32} (hx : x = (M + 42) ∨ x = (M + 43) ∨ x = (M + 44)) : bG M I (a_ui J x k v) := ⟨fun y j h1 h2 h3 h4 h5 h6 => by
  rw [ui_ap, if_neg (by omega)]
  exact h.1 y j h1 h2 h3 h4 h5 h6, fun j hj hn => by
  rw [ui_ap, if_neg (by omega)] at hn
  rw [ui_ap, if_neg (by omega), ui_ap, if_neg (by omega)]
  exact h.2 j hj hn⟩
theorem bG_put (h : bG M I J) {a b s : Int32} (hm : mT M a J J2) (hf : fw M I a.toNatClampNeg) (hb : 0 ≤ b) : bG M I (a_ui (a_ui J2 (M + 20) a.toNatClampNeg b) (M + 21) a.toNatClampNeg s) := by
  refine ⟨fun y j h1 h2 h3 h4 h5 h6 => ?_, fun j hj hn => ?_⟩
  · rw [ui_ap, if_neg (fun q => h6 ⟨Or.inr q.1, by rw [q.2]; exact hf⟩), ui_ap, if_neg (fun q => h6 ⟨Or.inl q.1, by rw [q.2]; exact hf⟩), hm.2 y j h1 (fun q => h2 ⟨q.1, _, hf, q.2⟩)]
    exact h.1 y j h1 h2 h3 h4 h5 h6
  · by_cases e : j = a.toNatClampNeg
    · rw [e, ui_ap, if_neg (by omega), ui_ap, if_pos ⟨rfl, rfl⟩] at hn
      exact absurd hb hn
    · rw [ui_ap, if_neg (by omega), ui_ap, if_neg (fun q => e q.2), hm.2 _ _ (by unfold sC; omega) (by omega)] at hn
      have := h.2 j hj hn
      rw [ui_ap, if_neg (by omega), ui_ap, if_neg (fun q => e q.2), hm.2 _ _ (by unfold sC; omega) (by omega), ui_ap, if_neg (fun q => e q.2), ui_ap, if_neg (by omega), hm.2 _ _ (by unfold sC; omega) (by omega)]
      exact this
theorem bG_out (h : bG M I J) {a : Nat} (hf : fw M I a) : bG M I (a_ui (a_ui J (M + 20) a (-9)) (M + 21) a (-9)) := by
  refine ⟨fun y j h1 h2 h3 h4 h5 h6 => ?_, fun j hj hn => ?_⟩
  · rw [ui_ap, if_neg (fun q => h6 ⟨Or.inr q.1, by rw [q.2]; exact hf⟩), ui_ap, if_neg (fun q => h6 ⟨Or.inl q.1, by rw [q.2]; exact hf⟩)]
    exact h.1 y j h1 h2 h3 h4 h5 h6
  · by_cases e : j = a
    · rw [e, ui_ap, if_neg (by omega), ui_ap, if_pos ⟨rfl, rfl⟩, ui_ap, if_pos ⟨rfl, rfl⟩]
      exact ⟨rfl, rfl⟩
    · rw [ui_ap, if_neg (by omega), ui_ap, if_neg (fun q => e q.2)] at hn
      have := h.2 j hj hn
      rw [ui_ap, if_neg (by omega), ui_ap, if_neg (fun q => e q.2), ui_ap, if_neg (fun q => e q.2), ui_ap, if_neg (by omega)]
      exact this
theorem bG_few (h : bG M I J) (j : Nat) : J (M + 41) j = I (M + 41) j := h.1 _ _ (by unfold sC; omega) (by omega) (by omega) (by omega) (by omega) (by omega)
theorem bG_fewMany (h : bG M I J) : J M 66 = I M 66 := h.1 _ _ (by unfold sC; omega) (by omega) (by omega) (by omega) (by omega) (by omega)
theorem bG_benches (h : bG M I J) : J M 6 = I M 6 := h.1 _ _ (by unfold sC; omega) (by omega) (by omega) (by omega) (by omega) (by omega)
def bJ (M : Nat) (I J : Nat → Nat → Int32) (pl i : Int32) : Prop := mR M J ∧ bG M I J ∧ (∀ k : Int32, 0 ≤ k → k < I M 66 → 0 ≤ J (M + 20) (I (M + 41) k.toNatClampNeg).toNatClampNeg → k ≤ i ∧ 0 ≤ J (M + 42) k.toNatClampNeg ∧ J (M + 42) k.toNatClampNeg < pl) ∧ (∀ k : Int32, 0 ≤ k → k ≤ i → -1 ≤ J (M + 42) k.toNatClampNeg ∧ J (M + 42) k.toNatClampNeg ≤ pl) ∧ (∀ k : Int32, 0 ≤ k → k < i → 0 ≤ J (M + 42) k.toNatClampNeg)
theorem lq_findBest_69 (hS : m_S M K L R) {f e pl b i : Int32} {p u v : Option Value} (hpl : 0 ≤ pl ∧ pl ≤ 48) (hfm : 0 ≤ I M 66 ∧ I M 66 ≤ 4) (hi : i = I M 66) (hN : ∀ J k, bJ M I J pl i → J (M + 42) = J0 (M + 42) → a_at d (a_xm a_m243) 98 [some (a_rf M), some (.int f), some (.int e), some (.int pl), some (.int b), some (.int i), some (.int k), p, u, v] [] (n, t, K, L, J, R) P) : ∀ k : Int32, k ≤ 4 → ∀ J, 0 ≤ k → bJ M I J pl i → J (M + 42) = J0 (M + 42) → a_at d (a_xm a_m243) 69 [some (a_rf M), some (.int f), some (.int e), some (.int pl), some (.int b), some (.int i), some (.int k), p, u, v] [] (n, t, K, L, J, R) P := by
  refine up_ind 4 (fun k hk ih => ?_)
  intro J h0 hb hw
  obtain ⟨b1, b2, b3, b4, b5⟩ := id hb
  have e1 := bG_fewMany b2
  rw [q243_69]
  simp only [q243_71, q243_72, q243_75, q243_78, q243_79, q243_82, q243_84, q243_85, q243_88, q243_90, q243_91, q243_92, q243_95, m_0 hS, m_K hS, mR_bestWay hS, mK_bestWay hS, mL_bestWay hS, mR_way hS, mK_way hS, mL_way hS, as_nil, as_i, as_r, Nat.reduceAdd, Nat.reduceLeDiff, z_eq0, z_eq1, z_or, z_em, Classical.not_not, not_false_eq_true, not_true_eq_false, true_and, and_true, false_and, and_false, and_self, true_implies, false_implies, implies_true, Option.toList_some, Option.toList_none, List.cons_append, List.nil_append, Nat.add_eq_zero_iff, a_nl_i, a_nl_r, a_nl_n, true_or, or_true, eq_self, ok_4, ok_5, ok_6, ok_7, ok_9, ok_10, ok_20, ok_21, ok_24, ok_30, ok_48, ok_50, ok_60, ok_80, ok_120, ok_180, ok_192, ok_200, ok_900, ok_1000, ok_84000]
  refine ⟨fun h => hN J k hb hw, fun h => ?_⟩
  have q1 : k < i := by grind
  refine ⟨by grind, by grind, ?_⟩
  have w1 := b4 k h0 (by grind)
  have w2 := b5 k h0 q1
  refine ih (by grind) _ (by grind) ⟨sR_bestWay b1 (by grind), bG_ui b2 (by omega), ?_, ?_, ?_⟩ ?_
  · intro k2 p1 p2 p3
    simp [ui_ap] at p3 ⊢
    exact b3 k2 p1 p2 p3
  · intro k2 p1 p2
    simp [ui_ap]
    exact b4 k2 p1 p2
  · intro k2 p1 p2
    simp [ui_ap]
    exact b5 k2 p1 p2
  · rw [← hw]; funext j; simp [ui_ap]
theorem lq_findBest_345 (hS : m_S M K L R) {f e pl b i p2 fd a x : Int32} {s : Option Value} {z : Nat} {w : Nat → Int32} (hpl : 0 ≤ pl ∧ pl ≤ 48) (hfm : 0 ≤ I M 66 ∧ I M 66 ≤ 4) (ih : ∀ J b i k p u v, mu pl (J (M + 42)) i < z → (-1 ≤ i ∧ i ≤ I M 66) → bJ M I J pl i → a_at (d + 10) (a_xm a_m243) 31 [some (a_rf M), some (.int f), some (.int e), some (.int pl), some (.int b), some (.int i), k, p, u, v] [] (n, t, K, L, J, R) P) (q1 : 0 ≤ i ∧ i < I M 66) (hz : mu pl w i < z + 1) (b4 : ∀ k : Int32, 0 ≤ k → k ≤ i → -1 ≤ w k.toNatClampNeg ∧ w k.toNatClampNeg ≤ pl) (b5 : ∀ k : Int32, 0 ≤ k → k < i → 0 ≤ w k.toNatClampNeg) (hw0 : w i.toNatClampNeg < p2) (hw1 : p2 ≤ pl) (d1 : mR M J4) (d2 : bG M I J4) (d3 : ∀ k : Int32, 0 ≤ k → k < i → J4 (M + 42) k.toNatClampNeg = w k.toNatClampNeg) (d4 : J4 (M + 42) i.toNatClampNeg = p2) (d5 : ∀ k : Int32, 0 ≤ k → k < I M 66 → 0 ≤ J4 (M + 20) (I (M + 41) k.toNatClampNeg).toNatClampNeg → (k < i ∧ 0 ≤ w k.toNatClampNeg ∧ w k.toNatClampNeg < pl) ∨ (k = i ∧ p2 < pl)) : a_at (d + 10) (a_xm a_m243) 345 [some (a_rf M), some (.int f), some (.int e), some (.int pl), some (.int b), some (.int i), some (.int a), some (.int p2), some (.int fd), s] [.int x, .int (i + 1), a_rf (M + 43)] (n, t, K, L, J4, R) P := by
  have hwi := b4 i q1.1 (Int32.le_refl _)
  have q2 : i < 4 ∧ i + 1 ≤ I M 66 ∧ 0 ≤ i + 1 ∧ i + 1 < 5 ∧ -1 ≤ i + 1 := by (try clear hS); (try clear hd); (try clear hP); (try clear ih); (try clear hb); (try clear b2); (try clear b3); (try clear b4); (try clear b5); (try clear c2); (try clear c3); (try clear c4); (try clear c5); (try clear hb1); (try clear hback); (try clear hgo); (try clear hend); (try clear h98); (try clear hF3); (try clear hw3); (try clear hb3); (try clear e2); (try clear hC); (try clear hpl3); (try clear d2); (try clear d3); (try clear d4); (try clear d5); (try clear w5); (try clear w7); (try clear F4); (try clear w4); (try clear a4); (try clear hm); (try clear hno); (try clear hw2); (try clear hlow); (try clear hsp); grind
  simp only [q243_345, q243_346, q243_349, q243_350, q243_353, q243_355, q243_356, q243_357, m_0 hS, m_K hS, mR_way hS, mK_way hS, mL_way hS, as_nil, as_i, as_r, Nat.reduceAdd, Nat.reduceLeDiff, z_eq0, z_eq1, z_or, z_em, Classical.not_not, not_false_eq_true, not_true_eq_false, true_and, and_true, false_and, and_false, and_self, true_implies, false_implies, implies_true, Option.toList_some, Option.toList_none, List.cons_append, List.nil_append, Nat.add_eq_zero_iff, a_nl_i, a_nl_r, a_nl_n, true_or, or_true, eq_self, ok_4, ok_5, ok_6, ok_7, ok_9, ok_10, ok_20, ok_21, ok_24, ok_30, ok_48, ok_50, ok_60, ok_80, ok_120, ok_180, ok_192, ok_200, ok_900, ok_1000, ok_84000, mK_sumTo hS, mL_sumTo hS]
  refine ⟨⟨q2.2.2.1, q2.2.2.2.1⟩, ⟨q2.2.2.1, q2.2.2.2.1⟩, ?_⟩
  have hcl : (i + 1).toNatClampNeg = i.toNatClampNeg + 1 := cl_up q1.1 (by (try clear hS); (try clear hd); (try clear hP); (try clear ih); (try clear hb); (try clear b2); (try clear b3); (try clear b4); (try clear b5); (try clear c2); (try clear c3); (try clear c4); (try clear c5); (try clear hb1); (try clear hback); (try clear hgo); (try clear hend); (try clear h98); (try clear hF3); (try clear hw3); (try clear hb3); (try clear e2); (try clear hC); (try clear hpl3); (try clear d2); (try clear d3); (try clear d4); (try clear d5); (try clear w5); (try clear w7); (try clear F4); (try clear w4); (try clear a4); (try clear hm); (try clear hno); (try clear hw2); (try clear hlow); (try clear hsp); grind)
  have w5 : ∀ k : Int32, 0 ≤ k → k ≤ i → (a_ui (a_ui J4 (M + 43) (i + 1).toNatClampNeg x) (M + 42) (i + 1).toNatClampNeg (-1)) (M + 42) k.toNatClampNeg = J4 (M + 42) k.toNatClampNeg := fun k p1 p3 => by
    have : k.toNatClampNeg < (i + 1).toNatClampNeg := cl_lt p1 (by (try clear hS); (try clear hd); (try clear hP); (try clear ih); (try clear hb); (try clear b2); (try clear b3); (try clear b4); (try clear b5); (try clear c2); (try clear c3); (try clear c4); (try clear c5); (try clear hb1); (try clear hback); (try clear hgo); (try clear hend); (try clear h98); (try clear hF3); (try clear hw3); (try clear hb3); (try clear e2); (try clear hC); (try clear hpl3); (try clear d2); (try clear d3); (try clear d4); (try clear d5); (try clear w5); (try clear w7); (try clear F4); (try clear w4); (try clear a4); (try clear hm); (try clear hno); (try clear hw2); (try clear hlow); (try clear hsp); grind)
    rw [ui_ap, if_neg (by omega), ui_ap, if_neg (by omega)]
  have w6 : (a_ui (a_ui J4 (M + 43) (i + 1).toNatClampNeg x) (M + 42) (i + 1).toNatClampNeg (-1)) (M + 42) (i + 1).toNatClampNeg = -1 := by simp [ui_ap]
  have w7 : ∀ k, (a_ui (a_ui J4 (M + 43) (i + 1).toNatClampNeg x) (M + 42) (i + 1).toNatClampNeg (-1)) (M + 20) k = J4 (M + 20) k := fun k => by simp [ui_ap]
  have r1 : mR M (a_ui (a_ui J4 (M + 43) (i + 1).toNatClampNeg x) (M + 42) (i + 1).toNatClampNeg (-1)) := sR_way (sR_sumTo d1)
  have r2 : bG M I (a_ui (a_ui J4 (M + 43) (i + 1).toNatClampNeg x) (M + 42) (i + 1).toNatClampNeg (-1)) := bG_ui (bG_ui d2 (by omega)) (by omega)
  revert w5 w6 w7 r1 r2
  generalize (a_ui (a_ui J4 (M + 43) (i + 1).toNatClampNeg x) (M + 42) (i + 1).toNatClampNeg (-1)) = J5
  intro w5 w6 w7 r1 r2
  have hi5 := (w5 i q1.1 (Int32.le_refl _)).trans d4
  have hlow : ∀ k : Int32, 0 ≤ k → k < i → J5 (M + 42) k.toNatClampNeg = w k.toNatClampNeg := fun k p1 p3 => (w5 k p1 (by (try clear hS); (try clear hd); (try clear hP); (try clear ih); (try clear hb); (try clear b2); (try clear b3); (try clear b4); (try clear b5); (try clear c2); (try clear c3); (try clear c4); (try clear c5); (try clear hb1); (try clear hback); (try clear hgo); (try clear hend); (try clear h98); (try clear hF3); (try clear hw3); (try clear hb3); (try clear e2); (try clear hC); (try clear hpl3); (try clear d2); (try clear d3); (try clear d4); (try clear d5); (try clear w5); (try clear w7); (try clear F4); (try clear w4); (try clear a4); (try clear hm); (try clear hno); (try clear hw2); (try clear hlow); (try clear hsp); grind)).trans (d3 k p1 p3)
  refine ih _ b (i + 1) _ _ _ _ ?_ ⟨q2.2.2.2.2, q2.2.1⟩ ⟨r1, r2, ?_, ?_, ?_⟩
  · refine Nat.lt_of_lt_of_le (mu_on (w := w) q1.1 q2.1 hpl ⟨hwi.1, by rw [hi5]; exact hw0, by rw [hi5]; exact hw1⟩ (fun k hk => ?_) w6) (by omega)
    have hk2 := nat_i q1.1 q2.1 hk
    have := hlow (Int32.ofNat k) hk2.2.1 hk2.2.2
    rw [hk2.1] at this
    exact this
  · intro k p1 p3 p4
    rw [w7] at p4
    rcases d5 k p1 p3 p4 with h | h
    · rw [hlow k p1 h.1]
      exact ⟨by clear ih d3 d5 b4 b5 hlow w5; (try clear hS); (try clear hd); (try clear hP); (try clear ih); (try clear hb); (try clear b2); (try clear b3); (try clear b4); (try clear b5); (try clear c2); (try clear c3); (try clear c4); (try clear c5); (try clear hb1); (try clear hback); (try clear hgo); (try clear hend); (try clear h98); (try clear hF3); (try clear hw3); (try clear hb3); (try clear e2); (try clear hC); (try clear hpl3); (try clear d2); (try clear d3); (try clear d4); (try clear d5); (try clear w5); (try clear w7); (try clear F4); (try clear w4); (try clear a4); (try clear hm); (try clear hno); (try clear hw2); (try clear hlow); (try clear hsp); grind, h.2⟩
    · obtain ⟨rfl, h⟩ := h
      rw [hi5]
      exact ⟨by clear ih d3 d5 b4 b5 hlow w5; (try clear hS); (try clear hd); (try clear hP); (try clear ih); (try clear hb); (try clear b2); (try clear b3); (try clear b4); (try clear b5); (try clear c2); (try clear c3); (try clear c4); (try clear c5); (try clear hb1); (try clear hback); (try clear hgo); (try clear hend); (try clear h98); (try clear hF3); (try clear hw3); (try clear hb3); (try clear e2); (try clear hC); (try clear hpl3); (try clear d2); (try clear d3); (try clear d4); (try clear d5); (try clear w5); (try clear w7); (try clear F4); (try clear w4); (try clear a4); (try clear hm); (try clear hno); (try clear hw2); (try clear hlow); (try clear hsp); grind, by clear ih d3 d5 b4 b5 hlow w5; (try clear hS); (try clear hd); (try clear hP); (try clear ih); (try clear hb); (try clear b2); (try clear b3); (try clear b4); (try clear b5); (try clear c2); (try clear c3); (try clear c4); (try clear c5); (try clear hb1); (try clear hback); (try clear hgo); (try clear hend); (try clear h98); (try clear hF3); (try clear hw3); (try clear hb3); (try clear e2); (try clear hC); (try clear hpl3); (try clear d2); (try clear d3); (try clear d4); (try clear d5); (try clear w5); (try clear w7); (try clear F4); (try clear w4); (try clear a4); (try clear hm); (try clear hno); (try clear hw2); (try clear hlow); (try clear hsp); grind, h⟩
  · intro k p1 p3
    by_cases hki : k = i + 1
    · subst hki; rw [w6]; exact ⟨by decide, by clear ih d3 d5 b4 b5 hlow w5; (try clear hS); (try clear hd); (try clear hP); (try clear ih); (try clear hb); (try clear b2); (try clear b3); (try clear b4); (try clear b5); (try clear c2); (try clear c3); (try clear c4); (try clear c5); (try clear hb1); (try clear hback); (try clear hgo); (try clear hend); (try clear h98); (try clear hF3); (try clear hw3); (try clear hb3); (try clear e2); (try clear hC); (try clear hpl3); (try clear d2); (try clear d3); (try clear d4); (try clear d5); (try clear w5); (try clear w7); (try clear F4); (try clear w4); (try clear a4); (try clear hm); (try clear hno); (try clear hw2); (try clear hlow); (try clear hsp); grind⟩
    · by_cases hk2 : k = i
      · subst hk2; rw [hi5]; exact ⟨by clear ih d3 d5 b4 b5 hlow w5; (try clear hS); (try clear hd); (try clear hP); (try clear ih); (try clear hb); (try clear b2); (try clear b3); (try clear b4); (try clear b5); (try clear c2); (try clear c3); (try clear c4); (try clear c5); (try clear hb1); (try clear hback); (try clear hgo); (try clear hend); (try clear h98); (try clear hF3); (try clear hw3); (try clear hb3); (try clear e2); (try clear hC); (try clear hpl3); (try clear d2); (try clear d3); (try clear d4); (try clear d5); (try clear w5); (try clear w7); (try clear F4); (try clear w4); (try clear a4); (try clear hm); (try clear hno); (try clear hw2); (try clear hlow); (try clear hsp); grind, hw1⟩
      · have hk3 : k < i := by clear ih d3 d5 b4 b5 hlow w5; (try clear hS); (try clear hd); (try clear hP); (try clear ih); (try clear hb); (try clear b2); (try clear b3); (try clear b4); (try clear b5); (try clear c2); (try clear c3); (try clear c4); (try clear c5); (try clear hb1); (try clear hback); (try clear hgo); (try clear hend); (try clear h98); (try clear hF3); (try clear hw3); (try clear hb3); (try clear e2); (try clear hC); (try clear hpl3); (try clear d2); (try clear d3); (try clear d4); (try clear d5); (try clear w5); (try clear w7); (try clear F4); (try clear w4); (try clear a4); (try clear hm); (try clear hno); (try clear hw2); (try clear hlow); (try clear hsp); grind
        rw [hlow k p1 hk3]; exact b4 k p1 (by clear ih d3 d5 b4 b5 hlow w5; (try clear hS); (try clear hd); (try clear hP); (try clear ih); (try clear hb); (try clear b2); (try clear b3); (try clear b4); (try clear b5); (try clear c2); (try clear c3); (try clear c4); (try clear c5); (try clear hb1); (try clear hback); (try clear hgo); (try clear hend); (try clear h98); (try clear hF3); (try clear hw3); (try clear hb3); (try clear e2); (try clear hC); (try clear hpl3); (try clear d2); (try clear d3); (try clear d4); (try clear d5); (try clear w5); (try clear w7); (try clear F4); (try clear w4); (try clear a4); (try clear hm); (try clear hno); (try clear hw2); (try clear hlow); (try clear hsp); grind)
  · intro k p1 p3
    by_cases hk2 : k = i
    · subst hk2; rw [hi5]; clear ih d3 d5 b4 b5 hlow w5; (try clear hS); (try clear hd); (try clear hP); (try clear ih); (try clear hb); (try clear b2); (try clear b3); (try clear b4); (try clear b5); (try clear c2); (try clear c3); (try clear c4); (try clear c5); (try clear hb1); (try clear hback); (try clear hgo); (try clear hend); (try clear h98); (try clear hF3); (try clear hw3); (try clear hb3); (try clear e2); (try clear hC); (try clear hpl3); (try clear d2); (try clear d3); (try clear d4); (try clear d5); (try clear w5); (try clear w7); (try clear F4); (try clear w4); (try clear a4); (try clear hm); (try clear hno); (try clear hw2); (try clear hlow); (try clear hsp); grind
    · have hk3 : k < i := by clear ih d3 d5 b4 b5 hlow w5; (try clear hS); (try clear hd); (try clear hP); (try clear ih); (try clear hb); (try clear b2); (try clear b3); (try clear b4); (try clear b5); (try clear c2); (try clear c3); (try clear c4); (try clear c5); (try clear hb1); (try clear hback); (try clear hgo); (try clear hend); (try clear h98); (try clear hF3); (try clear hw3); (try clear hb3); (try clear e2); (try clear hC); (try clear hpl3); (try clear d2); (try clear d3); (try clear d4); (try clear d5); (try clear w5); (try clear w7); (try clear F4); (try clear w4); (try clear a4); (try clear hm); (try clear hno); (try clear hw2); (try clear hlow); (try clear hsp); grind
      rw [hlow k p1 hk3]; exact b5 k p1 hk3
theorem lq_findBest_276 (hS : m_S M K L R) {f e pl b i p2 fd : Int32} {s : Option Value} {z : Nat} {w : Nat → Int32} (hf : 0 ≤ f ∧ f ≤ 199) (he : e ≤ 199) (hb0 : I M 6 = 0 → pl = 0) (hd : ∀ k l : Int32, 0 ≤ k → k < I M 66 → 0 ≤ l → l < I M 66 → (I (M + 41) k.toNatClampNeg).toNatClampNeg = (I (M + 41) l.toNatClampNeg).toNatClampNeg → k = l) (hpl : 0 ≤ pl ∧ pl ≤ 48) (hfm : 0 ≤ I M 66 ∧ I M 66 ≤ 4) (ih : ∀ J b i k p u v, mu pl (J (M + 42)) i < z → (-1 ≤ i ∧ i ≤ I M 66) → bJ M I J pl i → a_at (d + 10) (a_xm a_m243) 31 [some (a_rf M), some (.int f), some (.int e), some (.int pl), some (.int b), some (.int i), k, p, u, v] [] (n, t, K, L, J, R) P) (q1 : 0 ≤ i ∧ i < I M 66) (hz : mu pl w i < z + 1) (b4 : ∀ k : Int32, 0 ≤ k → k ≤ i → -1 ≤ w k.toNatClampNeg ∧ w k.toNatClampNeg ≤ pl) (b5 : ∀ k : Int32, 0 ≤ k → k < i → 0 ≤ w k.toNatClampNeg) (hw0 : w i.toNatClampNeg < p2) (hw1 : p2 ≤ pl) (hsp : p2 < pl → f + p2 / I M 6 ≤ 200) (r3 : mR M J3) (hF3 : bG M I J3) (hw3 : ∀ k : Int32, 0 ≤ k → k < i → J3 (M + 42) k.toNatClampNeg = w k.toNatClampNeg) (hw4 : J3 (M + 42) i.toNatClampNeg = p2) (hpl3 : (∀ k : Int32, 0 ≤ k → k < I M 66 → 0 ≤ J3 (M + 20) (I (M + 41) k.toNatClampNeg).toNatClampNeg → k < i ∧ 0 ≤ w k.toNatClampNeg ∧ w k.toNatClampNeg < pl)) : a_at (d + 10) (a_xm a_m243) 285 [some (a_rf M), some (.int f), some (.int e), some (.int pl), some (.int b), some (.int i), some (.int (I (M + 41) i.toNatClampNeg)), some (.int p2), some (.int fd), s] [] (n, t, K, L, J3, R) P := by
  have hwi := b4 i q1.1 (Int32.le_refl _)
  have e1 := bG_benches hF3
  have hg := rg_few r3 i.toNatClampNeg
  rw [bG_few hF3] at hg
  have p20 : 0 ≤ p2 := by (try clear hS); (try clear hd); (try clear hP); (try clear ih); (try clear hb); (try clear b2); (try clear b3); (try clear b4); (try clear b5); (try clear c2); (try clear c3); (try clear c4); (try clear c5); (try clear hb1); (try clear hback); (try clear hgo); (try clear hend); (try clear h98); (try clear hF3); (try clear hw3); (try clear hb3); (try clear e2); (try clear hC); (try clear hpl3); (try clear d2); (try clear d3); (try clear d4); (try clear d5); (try clear w5); (try clear w7); (try clear F4); (try clear w4); (try clear a4); (try clear hm); (try clear hno); (try clear hw2); (try clear hlow); (try clear hsp); grind
  have i5 : i < 5 ∧ i + 1 < 5 ∧ 0 ≤ i + 1 := by (try clear hS); (try clear hd); (try clear hP); (try clear ih); (try clear hb); (try clear b2); (try clear b3); (try clear b4); (try clear b5); (try clear c2); (try clear c3); (try clear c4); (try clear c5); (try clear hb1); (try clear hback); (try clear hgo); (try clear hend); (try clear h98); (try clear hF3); (try clear hw3); (try clear hb3); (try clear e2); (try clear hC); (try clear hpl3); (try clear d2); (try clear d3); (try clear d4); (try clear d5); (try clear w5); (try clear w7); (try clear F4); (try clear w4); (try clear a4); (try clear hm); (try clear hno); (try clear hw2); (try clear hlow); (try clear hsp); grind
  have ha30 : 0 ≤ I (M + 41) i.toNatClampNeg ∧ I (M + 41) i.toNatClampNeg < 30 := by (try clear hS); (try clear hd); (try clear hP); (try clear ih); (try clear hb); (try clear b2); (try clear b3); (try clear b4); (try clear b5); (try clear c2); (try clear c3); (try clear c4); (try clear c5); (try clear hb1); (try clear hback); (try clear hgo); (try clear hend); (try clear h98); (try clear hF3); (try clear hw3); (try clear hb3); (try clear e2); (try clear hC); (try clear hpl3); (try clear d2); (try clear d3); (try clear d4); (try clear d5); (try clear w5); (try clear w7); (try clear F4); (try clear w4); (try clear a4); (try clear hm); (try clear hno); (try clear hw2); (try clear hlow); (try clear hsp); grind
  simp only [q243_285, q243_287, q243_288, as_nil, as_i, as_r, Nat.reduceAdd, Nat.reduceLeDiff, z_eq0, z_eq1, z_or, z_em, Classical.not_not, not_false_eq_true, not_true_eq_false, true_and, and_true, false_and, and_false, and_self, true_implies, false_implies, implies_true, Option.toList_some, Option.toList_none, List.cons_append, List.nil_append, Nat.add_eq_zero_iff, a_nl_i, a_nl_r, a_nl_n, true_or, or_true, eq_self, ok_4, ok_5, ok_6, ok_7, ok_9, ok_10, ok_20, ok_21, ok_24, ok_30, ok_48, ok_50, ok_60, ok_80, ok_120, ok_180, ok_192, ok_200, ok_900, ok_1000, ok_84000]
  refine ⟨fun h3 => ?_, fun h3 => ?_⟩
  · -- left out
    simp only [q243_313, q243_314, q243_317, q243_319, q243_320, q243_321, q243_322, q243_325, q243_327, q243_328, q243_330, q243_331, q243_334, q243_335, q243_337, q243_340, q243_343, q243_344, m_0 hS, m_K hS, mR_sumTo hS, mK_sumTo hS, mL_sumTo hS, as_nil, as_i, as_r, Nat.reduceAdd, Nat.reduceLeDiff, z_eq0, z_eq1, z_or, z_em, Classical.not_not, not_false_eq_true, not_true_eq_false, true_and, and_true, false_and, and_false, and_self, true_implies, false_implies, implies_true, Option.toList_some, Option.toList_none, List.cons_append, List.nil_append, Nat.add_eq_zero_iff, a_nl_i, a_nl_r, a_nl_n, true_or, or_true, eq_self, ok_4, ok_5, ok_6, ok_7, ok_9, ok_10, ok_20, ok_21, ok_24, ok_30, ok_48, ok_50, ok_60, ok_80, ok_120, ok_180, ok_192, ok_200, ok_900, ok_1000, ok_84000]
    refine ⟨⟨q1.1, i5.1⟩, fun _ => ?_, fun h4 => absurd h3 h4⟩
    exact lq_findBest_345 hS hpl hfm ih q1 hz b4 b5 hw0 hw1 r3 hF3 hw3 hw4 (fun k p1 p3 p4 => Or.inl (hpl3 k p1 p3 p4))
  · -- placed
    have g0 := rg_benches r3
    have hbn : ¬ J3 M 6 = 0 := fun h => by
      rw [e1] at h
      have := hb0 h
      (try clear hS); (try clear hd); (try clear hP); (try clear ih); (try clear hb); (try clear b2); (try clear b3); (try clear b4); (try clear b5); (try clear c2); (try clear c3); (try clear c4); (try clear c5); (try clear hb1); (try clear hback); (try clear hgo); (try clear hend); (try clear h98); (try clear hF3); (try clear hw3); (try clear hb3); (try clear e2); (try clear hC); (try clear hpl3); (try clear d2); (try clear d3); (try clear d4); (try clear d5); (try clear w5); (try clear w7); (try clear F4); (try clear w4); (try clear a4); (try clear hm); (try clear hno); (try clear hw2); (try clear hlow); (try clear hsp); grind
    have hlt : p2 < pl := by (try clear hS); (try clear hd); (try clear hP); (try clear ih); (try clear hb); (try clear b2); (try clear b3); (try clear b4); (try clear b5); (try clear c2); (try clear c3); (try clear c4); (try clear c5); (try clear hb1); (try clear hback); (try clear hgo); (try clear hend); (try clear h98); (try clear hF3); (try clear hw3); (try clear hb3); (try clear e2); (try clear hC); (try clear hpl3); (try clear d2); (try clear d3); (try clear d4); (try clear d5); (try clear w5); (try clear w7); (try clear F4); (try clear w4); (try clear a4); (try clear hm); (try clear hno); (try clear hw2); (try clear hlow); (try clear hsp); grind
    have g1 := div_rng (x := p2) (k := J3 M 6) p20 (by (try clear hS); (try clear hd); (try clear hP); (try clear ih); (try clear hb); (try clear b2); (try clear b3); (try clear b4); (try clear b5); (try clear c2); (try clear c3); (try clear c4); (try clear c5); (try clear hb1); (try clear hback); (try clear hgo); (try clear hend); (try clear h98); (try clear hF3); (try clear hw3); (try clear hb3); (try clear e2); (try clear hC); (try clear hpl3); (try clear d2); (try clear d3); (try clear d4); (try clear d5); (try clear w5); (try clear w7); (try clear F4); (try clear w4); (try clear a4); (try clear hm); (try clear hno); (try clear hw2); (try clear hlow); (try clear hsp); grind)
    have g2 := rem_rng (x := p2) (k := J3 M 6) p20 (by (try clear hS); (try clear hd); (try clear hP); (try clear ih); (try clear hb); (try clear b2); (try clear b3); (try clear b4); (try clear b5); (try clear c2); (try clear c3); (try clear c4); (try clear c5); (try clear hb1); (try clear hback); (try clear hgo); (try clear hend); (try clear h98); (try clear hF3); (try clear hw3); (try clear hb3); (try clear e2); (try clear hC); (try clear hpl3); (try clear d2); (try clear d3); (try clear d4); (try clear d5); (try clear w5); (try clear w7); (try clear F4); (try clear w4); (try clear a4); (try clear hm); (try clear hno); (try clear hw2); (try clear hlow); (try clear hsp); grind) (by (try clear hS); (try clear hd); (try clear hP); (try clear ih); (try clear hb); (try clear b2); (try clear b3); (try clear b4); (try clear b5); (try clear c2); (try clear c3); (try clear c4); (try clear c5); (try clear hb1); (try clear hback); (try clear hgo); (try clear hend); (try clear h98); (try clear hF3); (try clear hw3); (try clear hb3); (try clear e2); (try clear hC); (try clear hpl3); (try clear d2); (try clear d3); (try clear d4); (try clear d5); (try clear w5); (try clear w7); (try clear F4); (try clear w4); (try clear a4); (try clear hm); (try clear hno); (try clear hw2); (try clear hlow); (try clear hsp); grind) (by (try clear hS); (try clear hd); (try clear hP); (try clear ih); (try clear hb); (try clear b2); (try clear b3); (try clear b4); (try clear b5); (try clear c2); (try clear c3); (try clear c4); (try clear c5); (try clear hb1); (try clear hback); (try clear hgo); (try clear hend); (try clear h98); (try clear hF3); (try clear hw3); (try clear hb3); (try clear e2); (try clear hC); (try clear hpl3); (try clear d2); (try clear d3); (try clear d4); (try clear d5); (try clear w5); (try clear w7); (try clear F4); (try clear w4); (try clear a4); (try clear hm); (try clear hno); (try clear hw2); (try clear hlow); (try clear hsp); grind)
    have hs3 := hsp hlt
    rw [← e1] at hs3
    simp only [q243_291, q243_292, q243_294, q243_296, q243_297, q243_300, q243_301, q243_302, q243_304, q243_305, q243_308, q243_309, q243_310, m_0 hS, m_K hS, as_nil, as_i, as_r, Nat.reduceAdd, Nat.reduceLeDiff, z_eq0, z_eq1, z_or, z_em, Classical.not_not, not_false_eq_true, not_true_eq_false, true_and, and_true, false_and, and_false, and_self, true_implies, false_implies, implies_true, Option.toList_some, Option.toList_none, List.cons_append, List.nil_append, Nat.add_eq_zero_iff, a_nl_i, a_nl_r, a_nl_n, true_or, or_true, eq_self, ok_4, ok_5, ok_6, ok_7, ok_9, ok_10, ok_20, ok_21, ok_24, ok_30, ok_48, ok_50, ok_60, ok_80, ok_120, ok_180, ok_192, ok_200, ok_900, ok_1000, ok_84000, hbn]
    refine cg_putAt hS r3 ha30 (by (try clear hS); (try clear hd); (try clear hP); (try clear ih); (try clear hb); (try clear b2); (try clear b3); (try clear b4); (try clear b5); (try clear c2); (try clear c3); (try clear c4); (try clear c5); (try clear hb1); (try clear hback); (try clear hgo); (try clear hend); (try clear h98); (try clear hF3); (try clear hw3); (try clear hb3); (try clear e2); (try clear hC); (try clear hpl3); (try clear d2); (try clear d3); (try clear d4); (try clear d5); (try clear w5); (try clear w7); (try clear F4); (try clear w4); (try clear a4); (try clear hm); (try clear hno); (try clear hw2); (try clear hlow); (try clear hsp); grind) (fun J4 hm => ?_)
    have F4 : bG M I (a_ui (a_ui J4 (M + 20) (I (M + 41) i.toNatClampNeg).toNatClampNeg (p2 - p2 / J3 M 6 * J3 M 6)) (M + 21) (I (M + 41) i.toNatClampNeg).toNatClampNeg (f + p2 / J3 M 6)) := bG_put hF3 hm ⟨i, q1.1, q1.2, rfl⟩ g2.1
    have w4 : ∀ k, (a_ui (a_ui J4 (M + 20) (I (M + 41) i.toNatClampNeg).toNatClampNeg (p2 - p2 / J3 M 6 * J3 M 6)) (M + 21) (I (M + 41) i.toNatClampNeg).toNatClampNeg (f + p2 / J3 M 6)) (M + 42) k = J3 (M + 42) k := fun k => by
      rw [ui_ap, if_neg (by omega), ui_ap, if_neg (by omega)]; exact hm.2 _ _ (by unfold sC; omega) (by omega)
    have a4 : ∀ k : Int32, 0 ≤ k → k < I M 66 → ¬ k = i → (a_ui (a_ui J4 (M + 20) (I (M + 41) i.toNatClampNeg).toNatClampNeg (p2 - p2 / J3 M 6 * J3 M 6)) (M + 21) (I (M + 41) i.toNatClampNeg).toNatClampNeg (f + p2 / J3 M 6)) (M + 20) (I (M + 41) k.toNatClampNeg).toNatClampNeg = J3 (M + 20) (I (M + 41) k.toNatClampNeg).toNatClampNeg := fun k p1 p3 p4 => by
      rw [ui_ap, if_neg (by omega), ui_ap, if_neg (fun q => p4 (hd k i p1 p3 q1.1 q1.2 q.2))]; exact hm.2 _ _ (by unfold sC; omega) (by omega)
    have r5 : mR M (a_ui (a_ui J4 (M + 20) (I (M + 41) i.toNatClampNeg).toNatClampNeg (p2 - p2 / J3 M 6 * J3 M 6)) (M + 21) (I (M + 41) i.toNatClampNeg).toNatClampNeg (f + p2 / J3 M 6)) := sR_atShift (sR_atBench hm.1 (by (try clear hS); (try clear hd); (try clear hP); (try clear ih); (try clear hb); (try clear b2); (try clear b3); (try clear b4); (try clear b5); (try clear c2); (try clear c3); (try clear c4); (try clear c5); (try clear hb1); (try clear hback); (try clear hgo); (try clear hend); (try clear h98); (try clear hF3); (try clear hw3); (try clear hb3); (try clear e2); (try clear hC); (try clear hpl3); (try clear d2); (try clear d3); (try clear d4); (try clear d5); (try clear w5); (try clear w7); (try clear F4); (try clear w4); (try clear a4); (try clear hm); (try clear hno); (try clear hw2); (try clear hlow); (try clear hsp); grind)) (by (try clear hS); (try clear hd); (try clear hP); (try clear ih); (try clear hb); (try clear b2); (try clear b3); (try clear b4); (try clear b5); (try clear c2); (try clear c3); (try clear c4); (try clear c5); (try clear hb1); (try clear hback); (try clear hgo); (try clear hend); (try clear h98); (try clear hF3); (try clear hw3); (try clear hb3); (try clear e2); (try clear hC); (try clear hpl3); (try clear d2); (try clear d3); (try clear d4); (try clear d5); (try clear w5); (try clear w7); (try clear F4); (try clear w4); (try clear a4); (try clear hm); (try clear hno); (try clear hw2); (try clear hlow); (try clear hsp); grind)
    revert r5 F4 w4 a4
    generalize (a_ui (a_ui J4 (M + 20) (I (M + 41) i.toNatClampNeg).toNatClampNeg (p2 - p2 / J3 M 6 * J3 M 6)) (M + 21) (I (M + 41) i.toNatClampNeg).toNatClampNeg (f + p2 / J3 M 6)) = J5
    intro F4 w4 a4 r5
    simp only [q243_313, q243_314, q243_317, q243_319, q243_320, q243_321, q243_322, q243_325, q243_327, q243_328, q243_330, q243_331, q243_334, q243_335, q243_337, m_0 hS, m_K hS, mR_sumTo hS, mK_sumTo hS, mL_sumTo hS, as_nil, as_i, as_r, Nat.reduceAdd, Nat.reduceLeDiff, z_eq0, z_eq1, z_or, z_em, Classical.not_not, not_false_eq_true, not_true_eq_false, true_and, and_true, false_and, and_false, and_self, true_implies, false_implies, implies_true, Option.toList_some, Option.toList_none, List.cons_append, List.nil_append, Nat.add_eq_zero_iff, a_nl_i, a_nl_r, a_nl_n, true_or, or_true, eq_self, ok_4, ok_5, ok_6, ok_7, ok_9, ok_10, ok_20, ok_21, ok_24, ok_30, ok_48, ok_50, ok_60, ok_80, ok_120, ok_180, ok_192, ok_200, ok_900, ok_1000, ok_84000]
    refine ⟨⟨q1.1, i5.1⟩, fun h4 => absurd h4 h3, fun h4 => ?_⟩
    refine ct_markAt hS r5 ha30 (fun x hx => ?_)
    simp only [q243_340, q243_343, q243_344, as_nil, as_i, as_r, Nat.reduceAdd, Nat.reduceLeDiff, z_eq0, z_eq1, z_or, z_em, Classical.not_not, not_false_eq_true, not_true_eq_false, true_and, and_true, false_and, and_false, and_self, true_implies, false_implies, implies_true, Option.toList_some, Option.toList_none, List.cons_append, List.nil_append, Nat.add_eq_zero_iff, a_nl_i, a_nl_r, a_nl_n, true_or, or_true, eq_self, ok_4, ok_5, ok_6, ok_7, ok_9, ok_10, ok_20, ok_21, ok_24, ok_30, ok_48, ok_50, ok_60, ok_80, ok_120, ok_180, ok_192, ok_200, ok_900, ok_1000, ok_84000]
    refine lq_findBest_345 hS hpl hfm ih q1 hz b4 b5 hw0 hw1 r5 F4 (fun k p1 p3 => (w4 _).trans (hw3 k p1 p3)) ((w4 _).trans hw4) (fun k p1 p3 p4 => ?_)
    by_cases hk : k = i
    · exact Or.inr ⟨hk, hlt⟩
    · rw [a4 k p1 p3 hk] at p4
      exact Or.inl (hpl3 k p1 p3 p4)
theorem lq_findBest_152 (hS : m_S M K L R) {f e pl b i : Int32} {p u v : Option Value} {z : Nat} {w : Nat → Int32} (hf : 0 ≤ f ∧ f ≤ 199) (he : e ≤ 199) (hb0 : I M 6 = 0 → pl = 0) (hd : ∀ k l : Int32, 0 ≤ k → k < I M 66 → 0 ≤ l → l < I M 66 → (I (M + 41) k.toNatClampNeg).toNatClampNeg = (I (M + 41) l.toNatClampNeg).toNatClampNeg → k = l) (hpl : 0 ≤ pl ∧ pl ≤ 48) (hfm : 0 ≤ I M 66 ∧ I M 66 ≤ 4) (ih : ∀ J b i k p u v, mu pl (J (M + 42)) i < z → (-1 ≤ i ∧ i ≤ I M 66) → bJ M I J pl i → a_at (d + 10) (a_xm a_m243) 31 [some (a_rf M), some (.int f), some (.int e), some (.int pl), some (.int b), some (.int i), k, p, u, v] [] (n, t, K, L, J, R) P) (q1 : 0 ≤ i ∧ i < I M 66) (hz : mu pl w i < z + 1) (b4 : ∀ k : Int32, 0 ≤ k → k ≤ i → -1 ≤ w k.toNatClampNeg ∧ w k.toNatClampNeg ≤ pl) (b5 : ∀ k : Int32, 0 ≤ k → k < i → 0 ≤ w k.toNatClampNeg) (hback : ∀ J' b k p u v, 0 ≤ i → bJ M I J' pl (i + (-1)) → (∀ k : Nat, k < i.toNatClampNeg → J' (M + 42) k = w k) → a_at (d + 10) (a_xm a_m243) 31 [some (a_rf M), some (.int f), some (.int e), some (.int pl), some (.int b), some (.int (i + (-1))), k, p, u, v] [] (n, t, K, L, J', R) P) (hb1 : bJ M I J1 pl i) (hw1 : J1 (M + 42) = w) (hnp : ¬ 0 ≤ J1 (M + 20) (I (M + 41) i.toNatClampNeg).toNatClampNeg) : a_at (d + 10) (a_xm a_m243) 152 [some (a_rf M), some (.int f), some (.int e), some (.int pl), some (.int b), some (.int i), some (.int (I (M + 41) i.toNatClampNeg)), p, u, v] [] (n, t, K, L, J1, R) P := by
  obtain ⟨c1, c2, c3, c4, c5⟩ := id hb1
  have hwi := b4 i q1.1 (Int32.le_refl _)
  have hg := rg_few c1 i.toNatClampNeg
  rw [bG_few c2] at hg
  have i5 : i < 5 ∧ i < 4 := by (try clear hS); (try clear hd); (try clear hP); (try clear ih); (try clear hb); (try clear b2); (try clear b3); (try clear b4); (try clear b5); (try clear c2); (try clear c3); (try clear c4); (try clear c5); (try clear hb1); (try clear hback); (try clear hgo); (try clear hend); (try clear h98); (try clear hF3); (try clear hw3); (try clear hb3); (try clear e2); (try clear hC); (try clear hpl3); (try clear d2); (try clear d3); (try clear d4); (try clear d5); (try clear w5); (try clear w7); (try clear F4); (try clear w4); (try clear a4); (try clear hm); (try clear hno); (try clear hw2); (try clear hlow); (try clear hsp); grind
  have ha30 : 0 ≤ I (M + 41) i.toNatClampNeg ∧ I (M + 41) i.toNatClampNeg < 30 := by (try clear hS); (try clear hd); (try clear hP); (try clear ih); (try clear hb); (try clear b2); (try clear b3); (try clear b4); (try clear b5); (try clear c2); (try clear c3); (try clear c4); (try clear c5); (try clear hb1); (try clear hback); (try clear hgo); (try clear hend); (try clear h98); (try clear hF3); (try clear hw3); (try clear hb3); (try clear e2); (try clear hC); (try clear hpl3); (try clear d2); (try clear d3); (try clear d4); (try clear d5); (try clear w5); (try clear w7); (try clear F4); (try clear w4); (try clear a4); (try clear hm); (try clear hno); (try clear hw2); (try clear hlow); (try clear hsp); grind
  have hb0' : J1 M 6 = 0 → pl = 0 := fun h => hb0 (by rw [← bG_benches c2]; exact h)
  simp only [q243_152, q243_153, q243_156, q243_158, q243_159, q243_160, q243_161, q243_163, q243_164, m_0 hS, m_K hS, mR_way hS, mK_way hS, mL_way hS, as_nil, as_i, as_r, Nat.reduceAdd, Nat.reduceLeDiff, z_eq0, z_eq1, z_or, z_em, Classical.not_not, not_false_eq_true, not_true_eq_false, true_and, and_true, false_and, and_false, and_self, true_implies, false_implies, implies_true, Option.toList_some, Option.toList_none, List.cons_append, List.nil_append, Nat.add_eq_zero_iff, a_nl_i, a_nl_r, a_nl_n, true_or, or_true, eq_self, ok_4, ok_5, ok_6, ok_7, ok_9, ok_10, ok_20, ok_21, ok_24, ok_30, ok_48, ok_50, ok_60, ok_80, ok_120, ok_180, ok_192, ok_200, ok_900, ok_1000, ok_84000, hw1]
  refine ⟨⟨q1.1, i5.1⟩, ?_⟩
  refine lp_findBest_166 hS (J0 := J1) (p0 := w i.toNatClampNeg + 1) hf he ha30 hpl hb0' (by (try clear hS); (try clear hd); (try clear hP); (try clear ih); (try clear hb); (try clear b2); (try clear b3); (try clear b4); (try clear b5); (try clear c2); (try clear c3); (try clear c4); (try clear c5); (try clear hb1); (try clear hback); (try clear hgo); (try clear hend); (try clear h98); (try clear hF3); (try clear hw3); (try clear hb3); (try clear e2); (try clear hC); (try clear hpl3); (try clear d2); (try clear d3); (try clear d4); (try clear d5); (try clear w5); (try clear w7); (try clear F4); (try clear w4); (try clear a4); (try clear hm); (try clear hno); (try clear hw2); (try clear hlow); (try clear hsp); grind) (fun J2 p2 fd s hC hp hp49 hsp => ?_) _ (by (try clear hS); (try clear hd); (try clear hP); (try clear ih); (try clear hb); (try clear b2); (try clear b3); (try clear b4); (try clear b5); (try clear c2); (try clear c3); (try clear c4); (try clear c5); (try clear hb1); (try clear hback); (try clear hgo); (try clear hend); (try clear h98); (try clear hF3); (try clear hw3); (try clear hb3); (try clear e2); (try clear hC); (try clear hpl3); (try clear d2); (try clear d3); (try clear d4); (try clear d5); (try clear w5); (try clear w7); (try clear F4); (try clear w4); (try clear a4); (try clear hm); (try clear hno); (try clear hw2); (try clear hlow); (try clear hsp); grind) J1 v (Int32.le_refl _) (mC_refl c1)
  have w2 : J2 (M + 42) = w := by rw [← hw1]; funext j; exact eS_way hC j
  have f2 := bG_C c2 hC
  have hpl3 : (∀ k : Int32, 0 ≤ k → k < I M 66 → 0 ≤ J2 (M + 20) (I (M + 41) k.toNatClampNeg).toNatClampNeg → k < i ∧ 0 ≤ w k.toNatClampNeg ∧ w k.toNatClampNeg < pl) := by
    intro k2 p1 p2' p3
    rw [eS_atBench hC] at p3
    have c6 := c3 k2 p1 p2' p3
    rw [hw1] at c6
    refine ⟨?_, c6.2⟩
    have : ¬ k2 = i := fun q => by subst q; exact hnp p3
    (try clear hS); (try clear hd); (try clear hP); (try clear ih); (try clear hb); (try clear b2); (try clear b3); (try clear b4); (try clear b5); (try clear c2); (try clear c3); (try clear c4); (try clear c5); (try clear hb1); (try clear hback); (try clear hgo); (try clear hend); (try clear h98); (try clear hF3); (try clear hw3); (try clear hb3); (try clear e2); (try clear hC); (try clear hpl3); (try clear d2); (try clear d3); (try clear d4); (try clear d5); (try clear w5); (try clear w7); (try clear F4); (try clear w4); (try clear a4); (try clear hm); (try clear hno); (try clear hw2); (try clear hlow); (try clear hsp); grind
  have hp3 : w i.toNatClampNeg < p2 := by (try clear hS); (try clear hd); (try clear hP); (try clear ih); (try clear hb); (try clear b2); (try clear b3); (try clear b4); (try clear b5); (try clear c2); (try clear c3); (try clear c4); (try clear c5); (try clear hb1); (try clear hback); (try clear hgo); (try clear hend); (try clear h98); (try clear hF3); (try clear hw3); (try clear hb3); (try clear e2); (try clear hC); (try clear hpl3); (try clear d2); (try clear d3); (try clear d4); (try clear d5); (try clear w5); (try clear w7); (try clear F4); (try clear w4); (try clear a4); (try clear hm); (try clear hno); (try clear hw2); (try clear hlow); (try clear hsp); grind
  simp only [q243_264, q243_266, q243_267, as_nil, as_i, as_r, Nat.reduceAdd, Nat.reduceLeDiff, z_eq0, z_eq1, z_or, z_em, Classical.not_not, not_false_eq_true, not_true_eq_false, true_and, and_true, false_and, and_false, and_self, true_implies, false_implies, implies_true, Option.toList_some, Option.toList_none, List.cons_append, List.nil_append, Nat.add_eq_zero_iff, a_nl_i, a_nl_r, a_nl_n, true_or, or_true, eq_self, ok_4, ok_5, ok_6, ok_7, ok_9, ok_10, ok_20, ok_21, ok_24, ok_30, ok_48, ok_50, ok_60, ok_80, ok_120, ok_180, ok_192, ok_200, ok_900, ok_1000, ok_84000]
  refine ⟨fun h2 => ?_, fun h2 => ?_⟩
  · simp only [q243_276, q243_277, q243_280, q243_282, q243_284, m_0 hS, m_K hS, mR_way hS, mK_way hS, mL_way hS, as_nil, as_i, as_r, Nat.reduceAdd, Nat.reduceLeDiff, z_eq0, z_eq1, z_or, z_em, Classical.not_not, not_false_eq_true, not_true_eq_false, true_and, and_true, false_and, and_false, and_self, true_implies, false_implies, implies_true, Option.toList_some, Option.toList_none, List.cons_append, List.nil_append, Nat.add_eq_zero_iff, a_nl_i, a_nl_r, a_nl_n, true_or, or_true, eq_self, ok_4, ok_5, ok_6, ok_7, ok_9, ok_10, ok_20, ok_21, ok_24, ok_30, ok_48, ok_50, ok_60, ok_80, ok_120, ok_180, ok_192, ok_200, ok_900, ok_1000, ok_84000]
    refine ⟨⟨q1.1, i5.1⟩, ?_⟩
    have hbn : J2 M 6 = I M 6 := bG_benches f2
    have hbn1 : J1 M 6 = I M 6 := bG_benches c2
    refine lq_findBest_276 hS hf he hb0 hd hpl hfm ih q1 hz b4 b5 hp3 h2 (by rw [← hbn1]; exact hsp) (sR_way hC.1) (bG_ui f2 (by omega)) (fun k p1 p3 => ?_) (by simp [ui_ap]) (by simpa [ui_ap] using hpl3)
    rw [ui_ap, if_neg (fun q => by have := cl_inj p1 q1.1 q.2; subst this; exact (Int32.lt_irrefl p3).elim), w2]
  · simp only [q243_270, q243_273, as_nil, as_i, as_r, Nat.reduceAdd, Nat.reduceLeDiff, z_eq0, z_eq1, z_or, z_em, Classical.not_not, not_false_eq_true, not_true_eq_false, true_and, and_true, false_and, and_false, and_self, true_implies, false_implies, implies_true, Option.toList_some, Option.toList_none, List.cons_append, List.nil_append, Nat.add_eq_zero_iff, a_nl_i, a_nl_r, a_nl_n, true_or, or_true, eq_self, ok_4, ok_5, ok_6, ok_7, ok_9, ok_10, ok_20, ok_21, ok_24, ok_30, ok_48, ok_50, ok_60, ok_80, ok_120, ok_180, ok_192, ok_200, ok_900, ok_1000, ok_84000]
    refine hback J2 _ _ _ _ _ q1.1 ⟨hC.1, f2, fun k2 p1 p3 p4 => ?_, fun k2 p1 p3 => ?_, fun k2 p1 p3 => ?_⟩ (fun k2 _ => by rw [w2])
    · have c7 := hpl3 k2 p1 p3 p4
      rw [w2]
      exact ⟨by clear hpl3 b4 b5 hback; (try clear hS); (try clear hd); (try clear hP); (try clear ih); (try clear hb); (try clear b2); (try clear b3); (try clear b4); (try clear b5); (try clear c2); (try clear c3); (try clear c4); (try clear c5); (try clear hb1); (try clear hback); (try clear hgo); (try clear hend); (try clear h98); (try clear hF3); (try clear hw3); (try clear hb3); (try clear e2); (try clear hC); (try clear hpl3); (try clear d2); (try clear d3); (try clear d4); (try clear d5); (try clear w5); (try clear w7); (try clear F4); (try clear w4); (try clear a4); (try clear hm); (try clear hno); (try clear hw2); (try clear hlow); (try clear hsp); grind, c7.2⟩
    · rw [w2]; exact b4 k2 p1 (by clear hpl3 b4 b5 hback; (try clear hS); (try clear hd); (try clear hP); (try clear ih); (try clear hb); (try clear b2); (try clear b3); (try clear b4); (try clear b5); (try clear c2); (try clear c3); (try clear c4); (try clear c5); (try clear hb1); (try clear hback); (try clear hgo); (try clear hend); (try clear h98); (try clear hF3); (try clear hw3); (try clear hb3); (try clear e2); (try clear hC); (try clear hpl3); (try clear d2); (try clear d3); (try clear d4); (try clear d5); (try clear w5); (try clear w7); (try clear F4); (try clear w4); (try clear a4); (try clear hm); (try clear hno); (try clear hw2); (try clear hlow); (try clear hsp); grind)
    · rw [w2]; exact b5 k2 p1 (by clear hpl3 b4 b5 hback; (try clear hS); (try clear hd); (try clear hP); (try clear ih); (try clear hb); (try clear b2); (try clear b3); (try clear b4); (try clear b5); (try clear c2); (try clear c3); (try clear c4); (try clear c5); (try clear hb1); (try clear hback); (try clear hgo); (try clear hend); (try clear h98); (try clear hF3); (try clear hw3); (try clear hb3); (try clear e2); (try clear hC); (try clear hpl3); (try clear d2); (try clear d3); (try clear d4); (try clear d5); (try clear w5); (try clear w7); (try clear F4); (try clear w4); (try clear a4); (try clear hm); (try clear hno); (try clear hw2); (try clear hlow); (try clear hsp); grind)
theorem lq_findBest_31 (hS : m_S M K L R) {f e pl : Int32} (hf : 0 ≤ f ∧ f ≤ 199) (he : e ≤ 199) (hpl : 0 ≤ pl ∧ pl ≤ 48) (hb0 : I M 6 = 0 → pl = 0) (hfm : 0 ≤ I M 66 ∧ I M 66 ≤ 4) (hd : ∀ k l : Int32, 0 ≤ k → k < I M 66 → 0 ≤ l → l < I M 66 → (I (M + 41) k.toNatClampNeg).toNatClampNeg = (I (M + 41) l.toNatClampNeg).toNatClampNeg → k = l) (hP : ∀ v J, bJ M I J pl (-1) → P (some (.int v)) (n, t, K, L, J, R)) : ∀ (z : Nat) J b i k p u v, mu pl (J (M + 42)) i < z → (-1 ≤ i ∧ i ≤ I M 66) → bJ M I J pl i → a_at (d + 10) (a_xm a_m243) 31 [some (a_rf M), some (.int f), some (.int e), some (.int pl), some (.int b), some (.int i), k, p, u, v] [] (n, t, K, L, J, R) P := by
  intro z
  induction z with
  | zero => intro J b i k p u v hz; omega
  | succ z ih =>
  intro J b i k p u v hz hi hb
  obtain ⟨b1, b2, b3, b4, b5⟩ := id hb
  have e1 := bG_fewMany b2
  have e2 := bG_few b2
  have hback : ∀ J' b k p u v, 0 ≤ i → bJ M I J' pl (i + (-1)) → (∀ k : Nat, k < i.toNatClampNeg → J' (M + 42) k = J (M + 42) k) → a_at (d + 10) (a_xm a_m243) 31 [some (a_rf M), some (.int f), some (.int e), some (.int pl), some (.int b), some (.int (i + (-1))), k, p, u, v] [] (n, t, K, L, J', R) P := by
    intro J' b k p u v q1 q2 q3
    have := mu_back (w := J (M + 42)) (w' := J' (M + 42)) q1 (by (try clear hS); (try clear hd); (try clear hP); (try clear ih); (try clear hb); (try clear b2); (try clear b3); (try clear b4); (try clear b5); (try clear c2); (try clear c3); (try clear c4); (try clear c5); (try clear hb1); (try clear hback); (try clear hgo); (try clear hend); (try clear h98); (try clear hF3); (try clear hw3); (try clear hb3); (try clear e2); (try clear hC); (try clear hpl3); (try clear d2); (try clear d3); (try clear d4); (try clear d5); (try clear w5); (try clear w7); (try clear F4); (try clear w4); (try clear a4); (try clear hm); (try clear hno); (try clear hw2); (try clear hlow); (try clear hsp); grind) hpl (b4 i q1 (Int32.le_refl _)) q3
    exact ih J' b _ k p u v (by omega) (by (try clear hS); (try clear hd); (try clear hP); (try clear ih); (try clear hb); (try clear b2); (try clear b3); (try clear b4); (try clear b5); (try clear c2); (try clear c3); (try clear c4); (try clear c5); (try clear hb1); (try clear hback); (try clear hgo); (try clear hend); (try clear h98); (try clear hF3); (try clear hw3); (try clear hb3); (try clear e2); (try clear hC); (try clear hpl3); (try clear d2); (try clear d3); (try clear d4); (try clear d5); (try clear w5); (try clear w7); (try clear F4); (try clear w4); (try clear a4); (try clear hm); (try clear hno); (try clear hw2); (try clear hlow); (try clear hsp); grind) q2
  rw [q243_31]
  simp only [q243_33, q243_36, q243_38, q243_39, q243_42, q243_360, q243_362, m_0 hS, m_K hS, as_nil, as_i, as_r, Nat.reduceAdd, Nat.reduceLeDiff, z_eq0, z_eq1, z_or, z_em, Classical.not_not, not_false_eq_true, not_true_eq_false, true_and, and_true, false_and, and_false, and_self, true_implies, false_implies, implies_true, Option.toList_some, Option.toList_none, List.cons_append, List.nil_append, Nat.add_eq_zero_iff, a_nl_i, a_nl_r, a_nl_n, true_or, or_true, eq_self, ok_4, ok_5, ok_6, ok_7, ok_9, ok_10, ok_20, ok_21, ok_24, ok_30, ok_48, ok_50, ok_60, ok_80, ok_120, ok_180, ok_192, ok_200, ok_900, ok_1000, ok_84000]
  refine ⟨fun h => ?_, fun h => ⟨fun h1 => ?_, fun h1 => ?_⟩⟩
  · refine hP b J ?_
    rw [show (-1 : Int32) = i by (try clear hS); (try clear hd); (try clear hP); (try clear ih); (try clear hb); (try clear b2); (try clear b3); (try clear b4); (try clear b5); (try clear c2); (try clear c3); (try clear c4); (try clear c5); (try clear hb1); (try clear hback); (try clear hgo); (try clear hend); (try clear h98); (try clear hF3); (try clear hw3); (try clear hb3); (try clear e2); (try clear hC); (try clear hpl3); (try clear d2); (try clear d3); (try clear d4); (try clear d5); (try clear w5); (try clear w7); (try clear F4); (try clear w4); (try clear a4); (try clear hm); (try clear hno); (try clear hw2); (try clear hlow); (try clear hsp); grind]
    exact hb
  · -- a place is looked for
    have q1 : 0 ≤ i ∧ i < I M 66 := by (try clear hS); (try clear hd); (try clear hP); (try clear ih); (try clear hb); (try clear b2); (try clear b3); (try clear b4); (try clear b5); (try clear c2); (try clear c3); (try clear c4); (try clear c5); (try clear hb1); (try clear hback); (try clear hgo); (try clear hend); (try clear h98); (try clear hF3); (try clear hw3); (try clear hb3); (try clear e2); (try clear hC); (try clear hpl3); (try clear d2); (try clear d3); (try clear d4); (try clear d5); (try clear w5); (try clear w7); (try clear F4); (try clear w4); (try clear a4); (try clear hm); (try clear hno); (try clear hw2); (try clear hlow); (try clear hsp); grind
    have i5 : i < 5 ∧ i < 4 := by (try clear hS); (try clear hd); (try clear hP); (try clear ih); (try clear hb); (try clear b2); (try clear b3); (try clear b4); (try clear b5); (try clear c2); (try clear c3); (try clear c4); (try clear c5); (try clear hb1); (try clear hback); (try clear hgo); (try clear hend); (try clear h98); (try clear hF3); (try clear hw3); (try clear hb3); (try clear e2); (try clear hC); (try clear hpl3); (try clear d2); (try clear d3); (try clear d4); (try clear d5); (try clear w5); (try clear w7); (try clear F4); (try clear w4); (try clear a4); (try clear hm); (try clear hno); (try clear hw2); (try clear hlow); (try clear hsp); grind
    have hg := rg_few b1 i.toNatClampNeg
    have ha30 : 0 ≤ J (M + 41) i.toNatClampNeg ∧ J (M + 41) i.toNatClampNeg < 30 := by (try clear hS); (try clear hd); (try clear hP); (try clear ih); (try clear hb); (try clear b2); (try clear b3); (try clear b4); (try clear b5); (try clear c2); (try clear c3); (try clear c4); (try clear c5); (try clear hb1); (try clear hback); (try clear hgo); (try clear hend); (try clear h98); (try clear hF3); (try clear hw3); (try clear hb3); (try clear e2); (try clear hC); (try clear hpl3); (try clear d2); (try clear d3); (try clear d4); (try clear d5); (try clear w5); (try clear w7); (try clear F4); (try clear w4); (try clear a4); (try clear hm); (try clear hno); (try clear hw2); (try clear hlow); (try clear hsp); grind
    have hfi : fw M I (J (M + 41) i.toNatClampNeg).toNatClampNeg := ⟨i, q1.1, q1.2, by rw [e2]⟩
    have hgo : ∀ J1, bJ M I J1 pl i → J1 (M + 42) = J (M + 42) → ¬ 0 ≤ J1 (M + 20) (J (M + 41) i.toNatClampNeg).toNatClampNeg → a_at (d + 10) (a_xm a_m243) 152 [some (a_rf M), some (.int f), some (.int e), some (.int pl), some (.int b), some (.int i), some (.int (J (M + 41) i.toNatClampNeg)), p, u, v] [] (n, t, K, L, J1, R) P := by
      intro J1 hb1 hw1 hnp
      rw [e2] at hnp ⊢
      exact lq_findBest_152 hS hf he hb0 hd hpl hfm ih q1 hz b4 b5 hback hb1 hw1 hnp
    simp only [q243_104, q243_105, q243_108, q243_110, q243_111, q243_113, q243_114, q243_117, q243_119, q243_120, q243_123, q243_124, q243_127, q243_129, q243_130, q243_131, m_0 hS, m_K hS, mR_few hS, mK_few hS, mL_few hS, mR_way hS, mK_way hS, mL_way hS, as_nil, as_i, as_r, Nat.reduceAdd, Nat.reduceLeDiff, z_eq0, z_eq1, z_or, z_em, Classical.not_not, not_false_eq_true, not_true_eq_false, true_and, and_true, false_and, and_false, and_self, true_implies, false_implies, implies_true, Option.toList_some, Option.toList_none, List.cons_append, List.nil_append, Nat.add_eq_zero_iff, a_nl_i, a_nl_r, a_nl_n, true_or, or_true, eq_self, ok_4, ok_5, ok_6, ok_7, ok_9, ok_10, ok_20, ok_21, ok_24, ok_30, ok_48, ok_50, ok_60, ok_80, ok_120, ok_180, ok_192, ok_200, ok_900, ok_1000, ok_84000]
    have hno : ¬ (0 ≤ J (M + 42) i.toNatClampNeg ∧ J (M + 42) i.toNatClampNeg < pl) → ¬ 0 ≤ J (M + 20) (J (M + 41) i.toNatClampNeg).toNatClampNeg := fun q p => q (b3 i q1.1 q1.2 (by rw [← e2]; exact p)).2
    refine ⟨⟨q1.1, i5.2⟩, ⟨q1.1, i5.1⟩, fun h2 => hgo J hb rfl (hno (fun q => absurd q.1 (Int32.not_le.mpr h2))), fun h2 => ⟨⟨q1.1, i5.1⟩, fun h3 => hgo J hb rfl (hno (fun q => absurd q.2 (Int32.not_lt.mpr h3))), fun h3 => ?_⟩⟩
    simp only [q243_134, q243_135, q243_138, q243_140, q243_142, q243_143, q243_144, q243_147, q243_149, q243_151, m_0 hS, m_K hS, mR_atBench hS, mK_atBench hS, mL_atBench hS, mR_atShift hS, mK_atShift hS, mL_atShift hS, as_nil, as_i, as_r, Nat.reduceAdd, Nat.reduceLeDiff, z_eq0, z_eq1, z_or, z_em, Classical.not_not, not_false_eq_true, not_true_eq_false, true_and, and_true, false_and, and_false, and_self, true_implies, false_implies, implies_true, Option.toList_some, Option.toList_none, List.cons_append, List.nil_append, Nat.add_eq_zero_iff, a_nl_i, a_nl_r, a_nl_n, true_or, or_true, eq_self, ok_4, ok_5, ok_6, ok_7, ok_9, ok_10, ok_20, ok_21, ok_24, ok_30, ok_48, ok_50, ok_60, ok_80, ok_120, ok_180, ok_192, ok_200, ok_900, ok_1000, ok_84000]
    refine ⟨ha30, ha30, ?_⟩
    refine hgo _ ⟨sR_atShift (sR_atBench b1 (by decide)) (by decide), bG_out b2 hfi, fun k p1 p3 p4 => ?_, fun k p1 p3 => ?_, fun k p1 p3 => ?_⟩ (by funext j; simp [ui_ap]) (by simp [ui_ap])
    · rw [ui_ap, if_neg (by omega), ui_ap] at p4
      by_cases hq : (I (M + 41) k.toNatClampNeg).toNatClampNeg = (J (M + 41) i.toNatClampNeg).toNatClampNeg
      · rw [if_pos ⟨rfl, hq⟩] at p4
        exact absurd p4 (by decide)
      · rw [if_neg (fun q => hq q.2)] at p4
        simpa [ui_ap] using b3 k p1 p3 p4
    · simpa [ui_ap] using b4 k p1 p3
    · simpa [ui_ap] using b5 k p1 p3
  · -- all are placed or left out
    have q1 : 0 ≤ i := by (try clear hS); (try clear hd); (try clear hP); (try clear ih); (try clear hb); (try clear b2); (try clear b3); (try clear b4); (try clear b5); (try clear c2); (try clear c3); (try clear c4); (try clear c5); (try clear hb1); (try clear hback); (try clear hgo); (try clear hend); (try clear h98); (try clear hF3); (try clear hw3); (try clear hb3); (try clear e2); (try clear hC); (try clear hpl3); (try clear d2); (try clear d3); (try clear d4); (try clear d5); (try clear w5); (try clear w7); (try clear F4); (try clear w4); (try clear a4); (try clear hm); (try clear hno); (try clear hw2); (try clear hlow); (try clear hsp); grind
    have h98 : ∀ J' b k p u v, bJ M I J' pl i → J' (M + 42) = J (M + 42) → a_at (d + 10) (a_xm a_m243) 98 [some (a_rf M), some (.int f), some (.int e), some (.int pl), some (.int b), some (.int i), k, p, u, v] [] (n, t, K, L, J', R) P := by
      intro J' b k p u v hb' hw'
      obtain ⟨c1, c2, c3, c4, c5⟩ := hb'
      simp only [q243_98, q243_101, as_nil, as_i, as_r, Nat.reduceAdd, Nat.reduceLeDiff, z_eq0, z_eq1, z_or, z_em, Classical.not_not, not_false_eq_true, not_true_eq_false, true_and, and_true, false_and, and_false, and_self, true_implies, false_implies, implies_true, Option.toList_some, Option.toList_none, List.cons_append, List.nil_append, Nat.add_eq_zero_iff, a_nl_i, a_nl_r, a_nl_n, true_or, or_true, eq_self, ok_4, ok_5, ok_6, ok_7, ok_9, ok_10, ok_20, ok_21, ok_24, ok_30, ok_48, ok_50, ok_60, ok_80, ok_120, ok_180, ok_192, ok_200, ok_900, ok_1000, ok_84000]
      refine hback J' b k p u v q1 ⟨c1, c2, fun k2 p1 p3 p4 => ?_, fun k2 p1 p3 => c4 k2 p1 (by (try clear hS); (try clear hd); (try clear hP); (try clear ih); (try clear hb); (try clear b2); (try clear b3); (try clear b4); (try clear b5); (try clear c2); (try clear c3); (try clear c4); (try clear c5); (try clear hb1); (try clear hback); (try clear hgo); (try clear hend); (try clear h98); (try clear hF3); (try clear hw3); (try clear hb3); (try clear e2); (try clear hC); (try clear hpl3); (try clear d2); (try clear d3); (try clear d4); (try clear d5); (try clear w5); (try clear w7); (try clear F4); (try clear w4); (try clear a4); (try clear hm); (try clear hno); (try clear hw2); (try clear hlow); (try clear hsp); grind), fun k2 p1 p3 => c5 k2 p1 (by (try clear hS); (try clear hd); (try clear hP); (try clear ih); (try clear hb); (try clear b2); (try clear b3); (try clear b4); (try clear b5); (try clear c2); (try clear c3); (try clear c4); (try clear c5); (try clear hb1); (try clear hback); (try clear hgo); (try clear hend); (try clear h98); (try clear hF3); (try clear hw3); (try clear hb3); (try clear e2); (try clear hC); (try clear hpl3); (try clear d2); (try clear d3); (try clear d4); (try clear d5); (try clear w5); (try clear w7); (try clear F4); (try clear w4); (try clear a4); (try clear hm); (try clear hno); (try clear hw2); (try clear hlow); (try clear hsp); grind)⟩ (fun k2 _ => by rw [hw'])
      have := c3 k2 p1 p3 p4
      exact ⟨by (try clear hS); (try clear hd); (try clear hP); (try clear ih); (try clear hb); (try clear b2); (try clear b3); (try clear b4); (try clear b5); (try clear c2); (try clear c3); (try clear c4); (try clear c5); (try clear hb1); (try clear hback); (try clear hgo); (try clear hend); (try clear h98); (try clear hF3); (try clear hw3); (try clear hb3); (try clear e2); (try clear hC); (try clear hpl3); (try clear d2); (try clear d3); (try clear d4); (try clear d5); (try clear w5); (try clear w7); (try clear F4); (try clear w4); (try clear a4); (try clear hm); (try clear hno); (try clear hw2); (try clear hlow); (try clear hsp); grind, this.2⟩
    have i5 : i < 5 := by (try clear hS); (try clear hd); (try clear hP); (try clear ih); (try clear hb); (try clear b2); (try clear b3); (try clear b4); (try clear b5); (try clear c2); (try clear c3); (try clear c4); (try clear c5); (try clear hb1); (try clear hback); (try clear hgo); (try clear hend); (try clear h98); (try clear hF3); (try clear hw3); (try clear hb3); (try clear e2); (try clear hC); (try clear hpl3); (try clear d2); (try clear d3); (try clear d4); (try clear d5); (try clear w5); (try clear w7); (try clear F4); (try clear w4); (try clear a4); (try clear hm); (try clear hno); (try clear hw2); (try clear hlow); (try clear hsp); grind
    simp only [q243_45, q243_46, q243_49, q243_51, q243_52, q243_54, q243_57, q243_58, q243_61, q243_63, q243_64, q243_66, q243_67, m_0 hS, m_K hS, mR_sumTo hS, mK_sumTo hS, mL_sumTo hS, as_nil, as_i, as_r, Nat.reduceAdd, Nat.reduceLeDiff, z_eq0, z_eq1, z_or, z_em, Classical.not_not, not_false_eq_true, not_true_eq_false, true_and, and_true, false_and, and_false, and_self, true_implies, false_implies, implies_true, Option.toList_some, Option.toList_none, List.cons_append, List.nil_append, Nat.add_eq_zero_iff, a_nl_i, a_nl_r, a_nl_n, true_or, or_true, eq_self, ok_4, ok_5, ok_6, ok_7, ok_9, ok_10, ok_20, ok_21, ok_24, ok_30, ok_48, ok_50, ok_60, ok_80, ok_120, ok_180, ok_192, ok_200, ok_900, ok_1000, ok_84000]
    refine ⟨⟨q1, i5⟩, fun h2 => h98 J _ _ _ _ _ hb rfl, fun h2 => ⟨⟨q1, i5⟩, ?_⟩⟩
    exact lq_findBest_69 hS (I := I) (J0 := J) hpl hfm (by (try clear hS); (try clear hd); (try clear hP); (try clear ih); (try clear hb); (try clear b2); (try clear b3); (try clear b4); (try clear b5); (try clear c2); (try clear c3); (try clear c4); (try clear c5); (try clear hb1); (try clear hback); (try clear hgo); (try clear hend); (try clear h98); (try clear hF3); (try clear hw3); (try clear hb3); (try clear e2); (try clear hC); (try clear hpl3); (try clear d2); (try clear d3); (try clear d4); (try clear d5); (try clear w5); (try clear w7); (try clear F4); (try clear w4); (try clear a4); (try clear hm); (try clear hno); (try clear hw2); (try clear hlow); (try clear hsp); grind) (fun J' k' hb' hw' => h98 J' _ _ _ _ _ hb' hw') 0 (by decide) J (by decide) hb rfl
end ZPP
end
section
/-! the reference: best -/
section ZQQ
variable {d n t M c : Nat} {K L : Nat → Nat} {I I0 J J0 J1 J2 : Nat → Nat → Int32} {R : Nat → Nat → Nat} {P : Option Value → AH → Prop}
theorem bG_refl (h : ∀ j, fw M I j → ¬ 0 ≤ I (M + 20) j → I (M + 20) j = -9 ∧ I (M + 21) j = -9) : bG M I I := ⟨fun _ _ _ _ _ _ _ _ => rfl, h⟩
theorem bF_of (h : bG M I J) : bF M I J := fun x j h1 h2 h3 h4 h5 h6 => h.1 x j h1 (fun q => h2 q.1) h3 h4 h5 h6
theorem gs_rf {I9 Y : Nat → Nat → Int32} (hg : gs M I9 J Y) {k : Nat} {v : Int32} : gs M I9 (a_ui J (M + 23) k v) Y := gs_ui hg (sR_refused hg.1) (by omega) ⟨by unfold ps1; omega, by omega⟩
theorem gs_bG {I9 Y : Nat → Nat → Int32} (hg : gs M I9 I Y) (hR : mR M J) (h : bG M I J) (hu : ∀ j, fw M I j → ¬ 0 ≤ I (M + 20) j) (hu2 : ∀ j, fw M I j → ¬ 0 ≤ J (M + 20) j) (hcl : ∀ j, fw M I j → ¬ 0 ≤ I (M + 20) j → I (M + 20) j = -9 ∧ I (M + 21) j = -9) : gs M I9 J Y := by
  refine ⟨hR, fun x j hx => ?_, psE_tr hg.2.2 ⟨fun k j p => ?_, fun o o0 o1 o2 i i0 i1 => ?_⟩⟩
  · rw [h.1 x j (by unfold sC; omega) (by omega) (by omega) (by omega) (by omega) (by omega)]
    exact hg.2.1 x j hx
  · by_cases c : (k = 20 ∨ k = 21) ∧ fw M I j
    · have a := h.2 j c.2 (hu2 j c.2)
      have b := hcl j c.2 (hu j c.2)
      rcases c.1 with e | e <;> subst e
      · exact a.1.trans b.1.symm
      · exact a.2.trans b.2.symm
    · refine h.1 _ _ (by unfold sC; unfold ps1 at p; omega) (by unfold ps1 at p; omega) (by unfold ps1 at p; omega) (by unfold ps1 at p; omega) (by unfold ps1 at p; omega) (fun q => c ⟨by omega, q.2⟩)
  · have l4 := rg_length hg.1 o.toNatClampNeg
    have i4 : i < 4 := Int32.lt_of_lt_of_le i1 l4.2
    have n := n4 (o := o) (i := i) ⟨o0, o1⟩ ⟨i0, i4⟩
    have in4 : i.toNatClampNeg < 4 := cl_lt i0 i4
    refine h.1 _ _ (by unfold sC; omega) (fun ⟨_, q, q1, q2, q3⟩ => ?_) (by omega) (by omega) (by omega) (by omega)
    rw [n.1] at q2 q3
    have e : q = o.toNatClampNeg := by omega
    rw [e] at q1
    exact hu _ q1 o2
theorem xg_findBest (hS : m_S M K L R) (hF : mF M c I0 I) {I9 Y : Nat → Nat → Int32} (hg9 : gs M I9 I Y) (hno : noP Y) {f e : Int32} (hf : 0 ≤ f ∧ f ≤ 199) (he : e ≤ 199) (hfe : f ≤ e) (he7 : e - f ≤ 7) (hfm : 0 ≤ I M 66 ∧ I M 66 ≤ 4) (hd : ∀ k l : Int32, 0 ≤ k → k < I M 66 → 0 ≤ l → l < I M 66 → (I (M + 41) k.toNatClampNeg).toNatClampNeg = (I (M + 41) l.toNatClampNeg).toNatClampNeg → k = l) (hu : ∀ k : Int32, 0 ≤ k → k < I M 66 → ¬ 0 ≤ I (M + 20) (I (M + 41) k.toNatClampNeg).toNatClampNeg) (hP : ∀ v J, mF M c I0 J → J M 66 = I M 66 → gs M I9 J Y → P (some (.int v)) (n, t, K, L, J, R)) : a_does (d + 11) 243 [a_rf M, .int f, .int e] (n, t, K, L, I, R) P := by
  have hR := hF.1.1
  have g1 := rg_benches hR
  have hj30 : ∀ j, fw M I j → j < 30 := fun j ⟨k, _, _, p3⟩ => by
    have r := rg_few hR k.toNatClampNeg
    have w : (I (M + 41) k.toNatClampNeg).toNatClampNeg < 30 := cl_lt (j := 30) r.1 (Int32.lt_of_le_of_lt r.2 (by decide))
    omega
  have hu2 : ∀ j, fw M I j → ¬ 0 ≤ I (M + 20) j := fun j ⟨k, p1, p2, p3⟩ => by
    rw [p3]
    exact hu k p1 p2
  have hcl : ∀ j, fw M I j → ¬ 0 ≤ I (M + 20) j → I (M + 20) j = -9 ∧ I (M + 21) j = -9 := fun j hj hn => by
    have e20 : I (M + 20) j = Y 20 j := hg9.2.2.1 20 j (by unfold ps1; omega)
    have e21 : I (M + 21) j = Y 21 j := hg9.2.2.1 21 j (by unfold ps1; omega)
    rw [e20] at hn
    rw [e20, e21]
    exact hno j (hj30 j hj) hn
  have hpl : 0 ≤ (e - f + 1) * I M 6 ∧ (e - f + 1) * I M 6 ≤ 48 ∧ (I M 6 = 0 → (e - f + 1) * I M 6 = 0) := by
    generalize I M 6 = b at g1
    have : b = 0 ∨ b = 1 ∨ b = 2 ∨ b = 3 ∨ b = 4 ∨ b = 5 ∨ b = 6 := by grind
    rcases this with h | h | h | h | h | h | h <;> subst h <;> grind
  rw [a_enter1 (M := a_m243) rfl (a_cat_rf (a_cat_int (a_cat_int a_cat_nil))) (show 3 ≤ 10 by decide)]
  show a_at _ (a_xm a_m243) 0 [some (a_rf M), some (.int f), some (.int e), none, none, none, none, none, none, none] [] _ _
  simp only [q243_0, q243_1, q243_2, q243_3, q243_4, q243_5, q243_6, q243_9, q243_10, q243_11, q243_12, q243_14, q243_15, q243_17, q243_18, q243_21, q243_22, q243_23, q243_24, q243_25, q243_28, q243_29, q243_30, m_0 hS, m_K hS, mR_sumTo hS, mK_sumTo hS, mL_sumTo hS, mR_way hS, mK_way hS, mL_way hS, as_nil, as_i, as_r, Nat.reduceAdd, Nat.reduceLeDiff, z_eq0, z_eq1, z_or, z_em, Classical.not_not, not_false_eq_true, not_true_eq_false, true_and, and_true, false_and, and_false, and_self, true_implies, false_implies, implies_true, Option.toList_some, Option.toList_none, List.cons_append, List.nil_append, Nat.add_eq_zero_iff, a_nl_i, a_nl_r, a_nl_n, true_or, or_true, eq_self, ok_4, ok_5, ok_6, ok_7, ok_9, ok_10, ok_20, ok_21, ok_24, ok_30, ok_48, ok_50, ok_60, ok_80, ok_120, ok_180, ok_192, ok_200, ok_900, ok_1000, ok_84000]
  repeat refine And.intro (by grind) ?_
  generalize (e - f + 1) * I M 6 = pl at hpl
  have hb0 : bG M I (a_ui (a_ui I (M + 43) (Int32.toNatClampNeg 0) 0) (M + 42) (Int32.toNatClampNeg 0) (-1)) := bG_ui (bG_ui (bG_refl hcl) (by omega)) (by omega)
  have hr0 : mR M (a_ui (a_ui I (M + 43) (Int32.toNatClampNeg 0) 0) (M + 42) (Int32.toNatClampNeg 0) (-1)) := sR_way (sR_sumTo hR)
  have hw0 : (a_ui (a_ui I (M + 43) (Int32.toNatClampNeg 0) 0) (M + 42) (Int32.toNatClampNeg 0) (-1)) (M + 42) (Int32.toNatClampNeg 0) = -1 := by simp [ui_ap]
  have hab : ∀ j, (a_ui (a_ui I (M + 43) (Int32.toNatClampNeg 0) 0) (M + 42) (Int32.toNatClampNeg 0) (-1)) (M + 20) j = I (M + 20) j := fun j => by simp [ui_ap]
  refine lq_findBest_31 hS (I := I) hf he ⟨hpl.1, hpl.2.1⟩ hpl.2.2 hfm hd (fun v J hb => ?_) _ _ _ _ _ _ _ _ (Nat.lt_succ_self _) ⟨by decide, hfm.1⟩ ⟨hr0, hb0, fun k p1 p2 p3 => ?_, fun k p1 p2 => ?_, fun k p1 p2 => ?_⟩
  · obtain ⟨b1, b2g, b3, b4, b5⟩ := hb
    have b2 := bF_of b2g
    have hu3 : ∀ j, fw M I j → ¬ 0 ≤ J (M + 20) j := fun j ⟨k, p1, p2, p3⟩ p4 => by
      subst p3
      have := (b3 k p1 p2 p4).1
      grind
    refine hP v J ⟨⟨b1, fun x j hx => ?_⟩, mE_fw hF.2 b2 (fun j ⟨k, p1, p2, p3⟩ p4 => ?_)⟩ (bF_fewMany b2) (gs_bG hg9 b1 b2g hu2 hu3 hcl)
    · rw [b2 x j (by unfold eC at hx; unfold sC; omega) (by unfold eC at hx; omega) (by unfold eC at hx; omega) (by unfold eC at hx; omega) (by unfold eC at hx; omega) (by unfold eC at hx; omega)]
      exact hF.1.2 x j hx
    · subst p3
      have := (b3 k p1 p2 p4).1
      grind
  · rw [hab] at p3; exact absurd p3 (hu k p1 p2)
  · have : k = 0 := by grind
    subst this
    rw [hw0]
    exact ⟨by decide, by grind⟩
  · grind
def bZ9 (M c : Nat) (I0 I9 Y I J : Nat → Nat → Int32) (s k : Int32) : Prop := bW M c I0 I J s k ∧ gs M I9 J Y
theorem lx_best_99 (hS : m_S M K L R) {I9 Y : Nat → Nat → Int32} {s f e a : Int32} (hs : 0 ≤ s) (h4 : pn 31 s.toInt.toNat ≤ 4) (hX : ∀ v J, mF M c I0 J → gs M I9 J Y → P (some (.int v)) (n, t, K, L, J, R)) (hN : ∀ J k, bZ9 M c I0 I9 Y I J s k → J M 66 ≤ 4 → a_at (d + 11) (a_xm a_m242) 171 [some (a_rf M), some (.int f), some (.int e), some (.int s), some (.int a), some (.int k), none, none, none] [] (n, t, K, L, J, R) P) : ∀ k : Int32, k ≤ 30 → ∀ J, 0 ≤ k → bZ9 M c I0 I9 Y I J s k → a_at (d + 11) (a_xm a_m242) 99 [some (a_rf M), some (.int f), some (.int e), some (.int s), some (.int a), some (.int k), none, none, none] [] (n, t, K, L, J, R) P := by
  refine up_ind 30 (fun k hk ih => ?_)
  intro J h0 hw
  obtain ⟨⟨w1, w2, w3, w4, w5⟩, w6⟩ := id hw
  have hR := w1.1.1
  have g1 := rg_asks hR
  have k30 : k.toInt.toNat ≤ 30 := by
    have h1 := Int32.le_iff_toInt_le.mp h0
    have h2 := Int32.le_iff_toInt_le.mp hk
    simp at h1 h2
    omega
  have hp1 := pn_le k.toNatClampNeg 31 s.toInt.toNat (by show k.toInt.toNat ≤ 31; omega)
  have hf4 : 0 ≤ J M 66 ∧ J M 66 ≤ 4 := by
    rw [Int32.le_iff_toInt_le, Int32.le_iff_toInt_le, w3]
    have : (4 : Int32).toInt = 4 := rfl
    have : (0 : Int32).toInt = 0 := rfl
    omega
  rw [q242_99]
  simp only [q242_101, q242_102, q242_105, q242_108, q242_109, q242_111, q242_112, q242_113, q242_114, q242_115, m_0 hS, m_K hS, as_nil, as_i, as_r, Nat.reduceAdd, Nat.reduceLeDiff, z_eq0, z_eq1, z_or, z_em, Classical.not_not, not_false_eq_true, not_true_eq_false, true_and, and_true, false_and, and_false, and_self, true_implies, false_implies, implies_true, Option.toList_some, Option.toList_none, List.cons_append, List.nil_append, Nat.add_eq_zero_iff, a_nl_i, a_nl_r, a_nl_n, true_or, or_true, eq_self, ok_4, ok_5, ok_6, ok_7, ok_9, ok_10, ok_20, ok_21, ok_24, ok_30, ok_48, ok_50, ok_60, ok_80, ok_120, ok_180, ok_192, ok_200, ok_900, ok_1000, ok_84000]
  refine ⟨fun h => hN J k hw hf4.2, fun h => ?_⟩
  have hk30 : k < 30 := by grind
  have kn : k.toInt = (k.toNatClampNeg : Nat) := by
    have h1 := Int32.le_iff_toInt_le.mp h0
    simp at h1
    show k.toInt = (k.toInt.toNat : Nat)
    omega
  have kl : k.toNatClampNeg < 30 := (show k.toNatClampNeg < (30 : Int32).toNatClampNeg from cl_lt h0 hk30)
  have hbit := bit_at s hs k.toNatClampNeg kl k kn
  have hst := pn_step k.toNatClampNeg s.toInt.toNat
  have hcu := cl_up h0 (by grind)
  have hp2 := pn_le (k + 1).toNatClampNeg 31 s.toInt.toNat (by rw [hcu]; omega)
  rw [hcu] at hp2
  refine ⟨fun hb => ?_, fun hb => ?_⟩
  · have hbit2 : s.toInt.toNat / 2 ^ k.toNatClampNeg % 2 = 0 := by
      have : s.toInt.toNat / 2 ^ k.toNatClampNeg % 2 = 0 ∨ s.toInt.toNat / 2 ^ k.toNatClampNeg % 2 = 1 := by omega
      rcases this with h | h
      · exact h
      · refine absurd (Int32.toInt_inj.mp ?_) hb
        rw [hbit, h]
        rfl
    simp only [q242_165, q242_168, as_nil, as_i, as_r, Nat.reduceAdd, Nat.reduceLeDiff, z_eq0, z_eq1, z_or, z_em, Classical.not_not, not_false_eq_true, not_true_eq_false, true_and, and_true, false_and, and_false, and_self, true_implies, false_implies, implies_true, Option.toList_some, Option.toList_none, List.cons_append, List.nil_append, Nat.add_eq_zero_iff, a_nl_i, a_nl_r, a_nl_n, true_or, or_true, eq_self, ok_4, ok_5, ok_6, ok_7, ok_9, ok_10, ok_20, ok_21, ok_24, ok_30, ok_48, ok_50, ok_60, ok_80, ok_120, ok_180, ok_192, ok_200, ok_900, ok_1000, ok_84000]
    refine ih (by grind) J (by grind) ⟨⟨w1, by grind, ?_, fun x p1 p2 => ?_, w5⟩, w6⟩
    · rw [hcu, hst, hbit2, w3]
      simp
    · have := w4 x p1 p2
      exact ⟨by grind, this.2⟩
  · simp only [q242_118, q242_119, q242_121, q242_124, q242_127, q242_128, q242_131, q242_133, q242_134, q242_137, q242_138, q242_140, q242_143, q242_144, q242_145, q242_148, q242_149, q242_152, q242_154, q242_155, q242_156, q242_157, q242_160, q242_161, q242_162, q242_165, q242_168, m_0 hS, m_K hS, mR_isGone hS, mK_isGone hS, mL_isGone hS, mR_few hS, mK_few hS, mL_few hS, sp_hasPlace hS, sp_refuse_1 hS, sp_refuse_2 hS, sp_refuse_3 hS, sp_refuse_4 hS, sp_refuse_5 hS, sp_refuse_6 hS, as_nil, as_i, as_r, Nat.reduceAdd, Nat.reduceLeDiff, z_eq0, z_eq1, z_or, z_em, Classical.not_not, not_false_eq_true, not_true_eq_false, true_and, and_true, false_and, and_false, and_self, true_implies, false_implies, implies_true, Option.toList_some, Option.toList_none, List.cons_append, List.nil_append, Nat.add_eq_zero_iff, a_nl_i, a_nl_r, a_nl_n, true_or, or_true, eq_self, ok_4, ok_5, ok_6, ok_7, ok_9, ok_10, ok_20, ok_21, ok_24, ok_30, ok_48, ok_50, ok_60, ok_80, ok_120, ok_180, ok_192, ok_200, ok_900, ok_1000, ok_84000, ui_ap, ne_MM, ne_M0, ne_0M, Nat.reduceEqDiff, reduceIte, if_true, if_false]
    rw [hb] at hbit
    have hbit2 : s.toInt.toNat / 2 ^ k.toNatClampNeg % 2 = 1 := by
      have : (1 : Int32).toInt = 1 := rfl
      omega
    have hf3 : J M 66 < 4 := by
      rw [Int32.lt_iff_toInt_lt, w3]
      have : (4 : Int32).toInt = 4 := rfl
      omega
    have hnx : ¬ 0 ≤ J (M + 20) k.toNatClampNeg → bZ9 M c I0 I9 Y I (a_ui (a_ui J (M + 41) (J M 66).toNatClampNeg k) M 66 (J M 66 + 1)) s (k + 1) := by
      intro hno
      have e1 : ∀ x : Int32, 0 ≤ x → x < J M 66 → ¬ x.toNatClampNeg = (J M 66).toNatClampNeg := fun x p1 p2 p3 => by
        have := cl_inj p1 hf4.1 p3
        grind
      have k29 : 0 ≤ k ∧ k ≤ 29 := by grind
      refine ⟨⟨sF_fewMany (sF_few w1 k29), ?_, ?_, fun x p1 p2 => ?_, fun x y p1 p2 p3 => ?_⟩, gs_u0 (gs_ui w6 (sR_few w6.1 k29) (by omega) ⟨by unfold ps1; omega, by omega⟩) (sR_fewMany (sR_few w6.1 k29)) (by unfold ps1; omega)⟩
      · simp only [ui_ap, ne_MM, ne_M0, ne_0M, Nat.reduceEqDiff, reduceIte, if_true, if_false, and_self, false_and, and_false]
        grind
      · simp only [ui_ap, ne_MM, ne_M0, ne_0M, Nat.reduceEqDiff, reduceIte, if_true, if_false, and_self, false_and, and_false]
        rw [hcu, hst, hbit2]
        exact ti_up w3 (by omega)
      · simp only [ui_ap, ne_MM, ne_M0, ne_0M, Nat.reduceEqDiff, reduceIte, if_true, if_false, and_self, false_and, and_false, true_and] at p2 ⊢
        by_cases hx : x = J M 66
        · subst hx
          rw [if_pos rfl]
          exact ⟨by grind, hno⟩
        · rw [if_neg (e1 x p1 (by grind))]
          have := w4 x p1 (by grind)
          exact ⟨by grind, this.2⟩
      · simp only [ui_ap, ne_MM, ne_M0, ne_0M, Nat.reduceEqDiff, reduceIte, if_true, if_false, and_self, false_and, and_false, true_and] at p3 ⊢
        rw [if_neg (e1 x p1 (by grind))]
        by_cases hy : y = J M 66
        · subst hy
          rw [if_pos rfl]
          exact (w4 x p1 p2).1
        · rw [if_neg (e1 y (by grind) (by grind))]
          exact w5 x y p1 p2 (by grind)
    repeat' first
      | with_reducible apply And.intro
      | with_reducible assumption
      | with_reducible intro _
      | with_reducible apply hX
      | with_reducible apply sF_refused
      | with_reducible apply gs_rf
      | with_reducible apply ih
      | with_reducible apply hnx
    all_goals grind [ui_ap]
theorem xp_best (hS : m_S M K L R) (hF : mF M c I0 I) (hc : c + 130 ≤ 84000) {a b s w : Int32} {I9 Y : Nat → Nat → Int32} (hg : gs M I9 I Y) (hno : noP Y) (hP : ∀ v J, mF M (c + 120) I0 J → gs M I9 J Y → P (some (.int v)) (n, t, K, L, J, R)) : a_does (d + 16) 242 [a_rf M, .int a, .int b, .int s, .int w] (n, t, K, L, I, R) P := by
  have hR := hF.1.1
  have g3 := mC_refl hR
  have hL4 : ∀ J, mF M (c + 4) I0 J → mF M (c + 120) I0 J := fun J h => mF_le h (by omega)
  have hL : ∀ J, mF M c I0 J → mF M (c + 120) I0 J := fun J h => mF_le h (by omega)
  have g1 := rg_asks hR
  rw [a_enter1 (M := a_m242) rfl (a_cat_rf (a_cat_int (a_cat_int (a_cat_int (a_cat_int a_cat_nil))))) (show 5 ≤ 9 by decide)]
  show a_at _ (a_xm a_m242) 0 [some (a_rf M), some (.int a), some (.int b), some (.int s), some (.int w), none, none, none, none] [] _ _
  have h91 : (0 ≤ a ∧ a ≤ 199) → (0 ≤ b ∧ b ≤ 199) → a ≤ b → b - a ≤ 7 → 0 ≤ s → pn 31 s.toInt.toNat ≤ 4 → a_at (d + 15) (a_xm a_m242) 91 [some (a_rf M), some (.int a), some (.int b), some (.int s), some (.int w), none, none, none, none] [] (n, t, K, L, I, R) P := by
    intro q1 q2 q3 q4 q5 q6
    simp only [q242_91, q242_92, q242_93, q242_96, q242_97, m_0 hS, m_K hS, as_nil, as_i, as_r, Nat.reduceAdd, Nat.reduceLeDiff, z_eq0, z_eq1, z_or, z_em, Classical.not_not, not_false_eq_true, not_true_eq_false, true_and, and_true, false_and, and_false, and_self, true_implies, false_implies, implies_true, Option.toList_some, Option.toList_none, List.cons_append, List.nil_append, Nat.add_eq_zero_iff, a_nl_i, a_nl_r, a_nl_n, true_or, or_true, eq_self, ok_4, ok_5, ok_6, ok_7, ok_9, ok_10, ok_20, ok_21, ok_24, ok_30, ok_48, ok_50, ok_60, ok_80, ok_120, ok_180, ok_192, ok_200, ok_900, ok_1000, ok_84000]
    refine lx_best_99 (d := d + 4) hS (I9 := I9) (Y := Y) (I := I) (c := c) (I0 := I0) q5 q6 (fun v J h h9 => hP v J (hL J h) h9) (fun J k hw h4 => ?_) 0 (by decide) _ (by decide) ⟨⟨sF_fewMany hF, ?_, ?_, fun x p1 p2 => ?_, fun x y p1 p2 p3 => ?_⟩, gs_u0 hg (sR_fewMany hg.1) (by unfold ps1; omega)⟩
    · obtain ⟨⟨w1, w2, w3, w4, w5⟩, w6⟩ := hw
      have hf0 : 0 ≤ J M 66 := by
        rw [Int32.le_iff_toInt_le, w3]
        have : (0 : Int32).toInt = 0 := rfl
        omega
      simp only [q242_171, q242_172, q242_173, q242_174, m_0 hS, m_K hS, as_nil, as_i, as_r, Nat.reduceAdd, Nat.reduceLeDiff, z_eq0, z_eq1, z_or, z_em, Classical.not_not, not_false_eq_true, not_true_eq_false, true_and, and_true, false_and, and_false, and_self, true_implies, false_implies, implies_true, Option.toList_some, Option.toList_none, List.cons_append, List.nil_append, Nat.add_eq_zero_iff, a_nl_i, a_nl_r, a_nl_n, true_or, or_true, eq_self, ok_4, ok_5, ok_6, ok_7, ok_9, ok_10, ok_20, ok_21, ok_24, ok_30, ok_48, ok_50, ok_60, ok_80, ok_120, ok_180, ok_192, ok_200, ok_900, ok_1000, ok_84000]
      refine xg_findBest (d := d + 4) hS (I0 := I0) (c := c) w1 w6 hno q1 q2.2 q3 q4 ⟨hf0, h4⟩ (fun k l p1 p2 p3 p4 p5 => ?_) (fun k p1 p2 => (w4 k p1 p2).2) (fun v J2 f2 e2 g2 => ?_)
      · have r1 := rg_few w1.1.1 k.toNatClampNeg
        have r2 := rg_few w1.1.1 l.toNatClampNeg
        have r3 := cl_inj r1.1 r2.1 p5
        by_cases hkl : k < l
        · have := w5 k l p1 hkl p4; grind
        · by_cases hlk : l < k
          · have := w5 l k p3 hlk p2; grind
          · grind
      · simp only [q242_177, q242_179, q242_181, q242_182, q242_185, q242_187, q242_188, q242_190, q242_192, q242_193, as_nil, as_i, as_r, Nat.reduceAdd, Nat.reduceLeDiff, z_eq0, z_eq1, z_or, z_em, Classical.not_not, not_false_eq_true, not_true_eq_false, true_and, and_true, false_and, and_false, and_self, true_implies, false_implies, implies_true, Option.toList_some, Option.toList_none, List.cons_append, List.nil_append, Nat.add_eq_zero_iff, a_nl_i, a_nl_r, a_nl_n, true_or, or_true, eq_self, ok_4, ok_5, ok_6, ok_7, ok_9, ok_10, ok_20, ok_21, ok_24, ok_30, ok_48, ok_50, ok_60, ok_80, ok_120, ok_180, ok_192, ok_200, ok_900, ok_1000, ok_84000]
        refine ⟨fun _ => ?_, fun _ => hP v J2 (hL J2 f2) g2⟩
        exact lp_best_195 (d := d + 4) hS f2 (by rw [e2]; exact h4) (fun v => hP v J2 (hL J2 f2) g2) 0 (by decide) _ _ (by decide)
    · simp only [ui_ap, ne_MM, ne_M0, ne_0M, Nat.reduceEqDiff, reduceIte, if_true, if_false, and_self, false_and, and_false]
      exact g1.1
    · simp only [ui_ap, ne_MM, ne_M0, ne_0M, Nat.reduceEqDiff, reduceIte, if_true, if_false, and_self, false_and, and_false]
      rfl
    · simp only [ui_ap, ne_MM, ne_M0, ne_0M, Nat.reduceEqDiff, reduceIte, if_true, if_false, and_self, false_and, and_false] at p2
      grind
    · simp only [ui_ap, ne_MM, ne_M0, ne_0M, Nat.reduceEqDiff, reduceIte, if_true, if_false, and_self, false_and, and_false] at p3
      grind
  have h76 : (0 ≤ a ∧ a ≤ 199) → (0 ≤ b ∧ b ≤ 199) → a ≤ b → b - a ≤ 7 → 0 ≤ s → a_at (d + 15) (a_xm a_m242) 76 [some (a_rf M), some (.int a), some (.int b), some (.int s), some (.int w), none, none, none, none] [] (n, t, K, L, I, R) P := by
    intro q1 q2 q3 q4 q5
    simp only [q242_76, q242_77, as_nil, as_i, as_r, Nat.reduceAdd, Nat.reduceLeDiff, z_eq0, z_eq1, z_or, z_em, Classical.not_not, not_false_eq_true, not_true_eq_false, true_and, and_true, false_and, and_false, and_self, true_implies, false_implies, implies_true, Option.toList_some, Option.toList_none, List.cons_append, List.nil_append, Nat.add_eq_zero_iff, a_nl_i, a_nl_r, a_nl_n, true_or, or_true, eq_self, ok_4, ok_5, ok_6, ok_7, ok_9, ok_10, ok_20, ok_21, ok_24, ok_30, ok_48, ok_50, ok_60, ok_80, ok_120, ok_180, ok_192, ok_200, ok_900, ok_1000, ok_84000]
    refine ct_onesB q5 (fun v hv => ?_)
    simp only [q242_80, q242_81, q242_84, q242_85, q242_87, q242_90, m_0 hS, m_K hS, sp_refuse_1 hS, sp_refuse_2 hS, sp_refuse_3 hS, sp_refuse_4 hS, sp_refuse_5 hS, sp_refuse_6 hS, as_nil, as_i, as_r, Nat.reduceAdd, Nat.reduceLeDiff, z_eq0, z_eq1, z_or, z_em, Classical.not_not, not_false_eq_true, not_true_eq_false, true_and, and_true, false_and, and_false, and_self, true_implies, false_implies, implies_true, Option.toList_some, Option.toList_none, List.cons_append, List.nil_append, Nat.add_eq_zero_iff, a_nl_i, a_nl_r, a_nl_n, true_or, or_true, eq_self, ok_4, ok_5, ok_6, ok_7, ok_9, ok_10, ok_20, ok_21, ok_24, ok_30, ok_48, ok_50, ok_60, ok_80, ok_120, ok_180, ok_192, ok_200, ok_900, ok_1000, ok_84000]
    refine ⟨fun h => h91 q1 q2 q3 q4 q5 ?_, fun h => hP _ _ (hL _ (sF_refused hF)) (gs_rf hg)⟩
    have := Int32.le_iff_toInt_le.mp h
    have h4 : (4 : Int32).toInt = 4 := rfl
    omega
  repeat' first
    | with_reducible apply And.intro
    | with_reducible assumption
    | with_reducible intro _
    | with_reducible apply hP
    | with_reducible apply hL
    | with_reducible apply sF_refused
    | with_reducible apply gs_rf hg
    | with_reducible apply h76
    | simp only [q242_0, q242_1, q242_2, q242_5, q242_8, q242_9, q242_12, q242_13, q242_14, q242_15, q242_18, q242_19, q242_22, q242_23, q242_24, q242_27, q242_28, q242_30, q242_31, q242_34, q242_35, q242_37, q242_40, q242_41, q242_43, q242_46, q242_48, q242_50, q242_53, q242_54, q242_56, q242_57, q242_58, q242_59, q242_62, q242_63, q242_64, q242_67, q242_68, q242_69, q242_70, q242_71, q242_73, q242_84, q242_85, q242_87, q242_90, m_0 hS, m_K hS, sp_isSpan, sp_refuse_1 hS, sp_refuse_2 hS, sp_refuse_3 hS, sp_refuse_4 hS, sp_refuse_5 hS, sp_refuse_6 hS, as_nil, as_i, as_r, Nat.reduceAdd, Nat.reduceLeDiff, z_eq0, z_eq1, z_or, z_em, Classical.not_not, not_false_eq_true, not_true_eq_false, true_and, and_true, false_and, and_false, and_self, true_implies, false_implies, implies_true, Option.toList_some, Option.toList_none, List.cons_append, List.nil_append, Nat.add_eq_zero_iff, a_nl_i, a_nl_r, a_nl_n, true_or, or_true, eq_self, ok_4, ok_5, ok_6, ok_7, ok_9, ok_10, ok_20, ok_21, ok_24, ok_30, ok_48, ok_50, ok_60, ok_80, ok_120, ok_180, ok_192, ok_200, ok_900, ok_1000, ok_84000]
  all_goals grind [ui_ap]
end ZQQ
end
section
/-! what the law carries -/
section ZRR
variable {d n t C c : Nat} {K L : Nat → Nat} {I I0 J J0 J1 J2 : Nat → Nat → Int32} {R : Nat → Nat → Nat} {P : Option Value → AH → Prop}
variable {Y Z W : Nat → Nat → Int32}
theorem cT_o2 (h : cT C K L I R) (hJ : ∀ x j, (x < C + 44 ∨ C + 44 + 52 < x) → J x j = I x j) : cT C K L J R := by
  exact cT_mk
    (s := h.s)
    (g_now := by rw [hJ _ _ (by omega)]; exact h.g_now)
    (g_trips := by rw [hJ _ _ (by omega)]; exact h.g_trips)
    (g_texts := by rw [hJ _ _ (by omega)]; exact h.g_texts)
    (g_size := by rw [hJ _ _ (by omega)]; exact h.g_size)
    (g_code := by rw [hJ _ _ (by omega)]; exact h.g_code)
    (g_at := by rw [hJ _ _ (by omega)]; exact h.g_at)
    (g_asks := by rw [hJ _ _ (by omega)]; exact h.g_asks)
    (g_benches := by rw [hJ _ _ (by omega)]; exact h.g_benches)
    (g_orderSize := by rw [hJ _ _ (by omega)]; exact h.g_orderSize)
    (g_passed := by rw [hJ _ _ (by omega)]; exact h.g_passed)
    (g_best := by rw [hJ _ _ (by omega)]; exact h.g_best)
    (g_circle := by rw [hJ _ _ (by omega)]; exact h.g_circle)
    (g_row := by rw [hJ _ _ (by omega)]; exact h.g_row)
    (g_rest := by rw [hJ _ _ (by omega)]; exact h.g_rest)
    (g_lost := fun j => by rw [hJ _ _ (by omega)]; exact h.g_lost j)
    (g_spots := fun j => by rw [hJ _ _ (by omega)]; exact h.g_spots j)
    (g_ask := fun a ha => by
      have q := h.g_ask a ha
      rw [hJ _ _ (by omega), hJ _ _ (by omega), hJ _ _ (by omega), hJ _ _ (by omega)]
      exact q)
    (g_bnc := fun b hb => by
      have q := h.g_bnc b hb
      rw [hJ _ _ (by omega)]
      exact q)
    (g_txt := h.g_txt) (g_asksR := h.g_asksR)
    (g_asksN := fun i h0 h1 => by rw [hJ _ _ (by omega)] at h1; exact h.g_asksN i h0 h1)
    (g_benchesR := h.g_benchesR) (g_textsR := h.g_textsR) (g_orderR := h.g_orderR) (g_bestR := h.g_bestR) (g_ringR := h.g_ringR) (g_draft := h.g_draft)
    (g_benN := fun j h1 => by rw [hJ _ _ (by omega)] at h1; exact h.g_benN j h1)
    (g_benY := fun j h1 => by rw [hJ _ _ (by omega)] at h1; exact h.g_benY j h1)
/-- the coupling after the reference's call, of its own words -/
theorem cu_next {J3 : Nat → Nat → Int32} (hT : cT C K L J R) (hu : cuP C K L J R Z) (hg : gs (C + 44) J J3 Z) : cuP C K L J3 R (yv (C + 44) J3) := cu_ps (cT_o2 hT hg.2.1) (cu_out hT hg.2.1 hu) hg.2.2
/-- withdrawn, repaid: none from asks on -/
def nwP (Y : Nat → Nat → Int32) : Prop := ∀ a : Nat, a < 30 → (Y 0 17).toNatClampNeg ≤ a → Y 18 a = 0 ∧ Y 19 a = 0
theorem nw_ps (h : nwP Y) (hz : psE Y Z) : nwP Z := by
  unfold nwP
  rw [pr_r hz (k := 18) (by omega), pr_r hz (k := 19) (by omega), hz.1 0 17 (by unfold ps1; omega)]
  exact h
theorem nw_ss (h : nwP Y) (hz : ssE Y Z) : nwP Z := by
  unfold nwP
  rw [ss_r hz (k := 18) (by omega), ss_r hz (k := 19) (by omega), hz 0 17 (by unfold ss ps1; omega)]
  exact h
theorem nw_up (h : nwP Y) {k j : Nat} {v : Int32} (hk : ¬ k = 18 ∧ ¬ k = 19 ∧ ¬ (k = 0 ∧ j = 17)) : nwP (upY Y k j v) := by
  intro a ha h17
  rw [up_no (by omega)] at h17
  rw [up_no (by omega), up_no (by omega)]
  exact h a ha h17
theorem nw_up18 (h : nwP Y) {k : Nat} {i : Int32} {v : Int32} (hk : k = 18 ∨ k = 19) (hi : 0 ≤ i ∧ i < Y 0 17) : nwP (upY Y k i.toNatClampNeg v) := by
  have hin := cl_lt hi.1 hi.2
  intro a ha h17
  rw [up_no (by omega)] at h17
  rw [up_no (by omega), up_no (by omega)]
  exact h a ha h17
/-- lost hours, bit by bit -/
theorem lb_z (h : lbP C I Y) (hz : ∀ k j, kL k j → Z k j = Y k j) (hJ : ∀ j, J (C + 3) j = I (C + 3) j) : lbP C J Z := fun s k hs hk => by
  rw [hJ, lk_e hz]
  exact h s k hs hk
theorem lb_next {J3 : Nat → Nat → Int32} (h : lbP C J Z) (hg : gs (C + 44) J J3 Z) : lbP C J3 (yv (C + 44) J3) := lb_z h (fun k j q => hg.2.2.1 k j (by unfold kL at q; unfold ps1; omega)) (fun j => hg.2.1 _ _ (by omega))
theorem nw_next {J3 : Nat → Nat → Int32} (h : nwP Z) (hg : gs (C + 44) J J3 Z) : nwP (yv (C + 44) J3) := nw_ps h hg.2.2
theorem nw_pu (h : nwP Y) {a b s : Int32} : nwP (puY Y a b s) := nw_ss h ss_pu
theorem nw_un (h : nwP Y) {a : Int32} : nwP (unY Y a) := nw_ss h ss_un
theorem nw_cl (h : nwP Y) {a : Int32} : nwP (clW Y a) := by
  intro x hx h17
  rw [cl_no (by decide)] at h17
  rw [cl_no (by decide), cl_no (by decide)]
  exact h x hx h17
theorem nw_sw (h : nwP Y) {m : Nat} {g : Nat → Int32} : ∀ k, nwP (swS g m Y k) := by
  intro k
  induction k with
  | zero => exact nw_ss h (rgU_s m)
  | succ k ih => exact nw_cl (nw_pu ih)
theorem nw_tk (h : nwP Y) {a : Int32} : nwP (tkY Y a).2 := by
  unfold tkY
  split
  · exact h
  · split
    · exact h
    · exact nw_un h
theorem nw_gv (h : nwP Y) {a b s : Int32} : nwP (gvY Y a b s).2 := by
  unfold gvY
  split
  · exact h
  · split
    · exact h
    · exact nw_pu h
theorem nw_plO (h : nwP Y) {a b : Int32} : nwP (plO Y a b).2 := by
  unfold plO
  split
  · exact h
  · exact nw_ss h ss_pl
theorem nw_ag (h : nwP Y) : nwP (agY Y).1 := nw_ss h ss_ag
theorem nw_so (h : nwP Y) {v : Int32} (ho : swO Y v Z) : nwP Z := by
  obtain ⟨m, g, -, h2⟩ := ho
  rcases h2 with ⟨-, -, e⟩ | ⟨-, -, e⟩
  · rw [e]; exact h
  · rw [e]; exact nw_sw h m
theorem nw_wd (h : nwP Y) {a : Int32} : nwP (wdY Y a).2 := by
  unfold wdY
  by_cases c1 : 0 ≤ a ∧ a < Y 0 17
  · rw [if_neg (fun q => q c1)]
    by_cases c2 : Y 18 a.toNatClampNeg = 0
    · rw [if_neg (fun q => q c2)]
      have hu := nw_up18 h (k := 18) (v := 1) (Or.inl rfl) c1
      show nwP (if 0 ≤ Y 20 a.toNatClampNeg then unY (upY Y 18 a.toNatClampNeg 1) a else upY Y 18 a.toNatClampNeg 1)
      by_cases c3 : 0 ≤ Y 20 a.toNatClampNeg
      · rw [if_pos c3]; exact nw_un hu
      · rw [if_neg c3]; exact hu
    · rw [if_pos c2]; exact h
  · rw [if_pos c1]; exact h
theorem nw_dg (h : nwP Y) {a v : Int32} : nwP (dgY Y a v).2 := by
  have hu := nw_up h (k := 15) (j := a.toNatClampNeg) (v := v) (by omega)
  unfold dgY
  split
  · exact h
  · split
    · exact h
    · split
      · exact h
      · split
        · exact nw_un hu
        · exact hu
theorem nw_ws (h : nwP Y) {a o w : Int32} : nwP (wsY Y a o w).2 := by
  unfold wsY
  split
  · exact h
  · exact nw_up h (by omega)
theorem nw_sk (h : nwP Y) {x s : Int32} : nwP (skY Y x s).2 := by
  unfold skY
  split
  · exact h
  · split
    · exact h
    · exact nw_up h (by omega)
theorem nw_pt (h : nwP Y) {v : Int32} : nwP (ptY Y v).2 := by
  unfold ptY
  split
  · exact h
  · exact nw_up (nw_up h (by omega)) (by omega)
end ZRR
end

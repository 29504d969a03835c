section
/-! the class: a ring is tried just so -/
section ZS0
variable {d n t C c : Nat} {K L : Nat → Nat} {I I0 J J0 J1 J2 : Nat → Nat → Int32} {R : Nat → Nat → Nat} {P : Option Value → AH → Prop}
variable {Y Z W : Nat → Nat → Int32} {m : Nat} {g : Nat → Int32}
theorem nxt_nx {m i : Int32} (hm : m ≤ 5) (h0 : 0 ≤ i) (h : i < m) : (nxt m i).toNatClampNeg = nxN m.toNatClampNeg i.toNatClampNeg := by
  have key : ∀ a b : Fin 6, b.val < a.val → (nxt (Int32.ofNat a.val) (Int32.ofNat b.val)).toNatClampNeg = nxN (Int32.ofNat a.val).toNatClampNeg (Int32.ofNat b.val).toNatClampNeg := by decide +kernel
  have c0 : (0 : Int32).toInt = 0 := rfl
  have c5 : (5 : Int32).toInt = 5 := rfl
  have e0 := Int32.le_iff_toInt_le.mp h0
  have e1 := Int32.lt_iff_toInt_lt.mp h
  have e2 := Int32.le_iff_toInt_le.mp hm
  have em : m = Int32.ofNat (⟨m.toInt.toNat, by omega⟩ : Fin 6).val := Int32.toInt_inj.mp (by
    rw [Int32.toInt_ofNat', show Int32.size = 4294967296 from rfl]
    simp only [Int.bmod_def]
    show m.toInt = _
    omega)
  have ei : i = Int32.ofNat (⟨i.toInt.toNat, by omega⟩ : Fin 6).val := Int32.toInt_inj.mp (by
    rw [Int32.toInt_ofNat', show Int32.size = 4294967296 from rfl]
    simp only [Int.bmod_def]
    show i.toInt = _
    omega)
  have := key ⟨m.toInt.toNat, by omega⟩ ⟨i.toInt.toNat, by omega⟩ (by show i.toInt.toNat < m.toInt.toNat; omega)
  rw [← em, ← ei] at this
  exact this
theorem ix_20 {i c : Int32} (h : 0 ≤ i ∧ i < 5) (hc : 0 ≤ c ∧ c < 4) : (i * 4 + c).toNatClampNeg = 4 * i.toNatClampNeg + c.toNatClampNeg := by
  have c0 : (0 : Int32).toInt = 0 := rfl
  have c4 : (4 : Int32).toInt = 4 := rfl
  have c5 : (5 : Int32).toInt = 5 := rfl
  have e0 := Int32.le_iff_toInt_le.mp h.1
  have e1 := Int32.lt_iff_toInt_lt.mp h.2
  have e2 := Int32.le_iff_toInt_le.mp hc.1
  have e3 := Int32.lt_iff_toInt_lt.mp hc.2
  have em : (i * 4).toInt = i.toInt * 4 := by
    rw [Int32.toInt_mul, c4]
    simp only [Int.bmod_def]
    omega
  have e : (i * 4 + c).toInt = i.toInt * 4 + c.toInt := by rw [ti_add (by omega), em]
  have t1 : ∀ x : Int32, 0 ≤ x.toInt → (x.toNatClampNeg : Int) = x.toInt := fun x hx => by
    show ((x.toInt.toNat : Nat) : Int) = _
    omega
  have f0 := t1 i (by omega)
  have f1 := t1 c (by omega)
  have f2 := t1 (i * 4 + c) (by omega)
  omega
theorem suI_b (h : sbE Y Z) {a b s : Int32} : ∀ (k : Nat) (x : Int32), suI Z a b s k x = suI Y a b s k x := by
  intro k
  induction k with
  | zero => intro x; rfl
  | succ k ih =>
    intro x
    unfold suI
    rw [fxY_b h, wtA_b h, sbE_r h (k := 7) (by omega), sbE_r h (k := 16) (by omega), sbE_r h (k := 17) (by omega), ih]
theorem suB_b (h : sbE Y Z) {a b s : Int32} : suB Z a b s = suB Y a b s := by
  unfold suB
  rw [sbE_r h (k := 10) (by omega), suI_b h]
theorem cx_lift (hT : cT C K L I R) (hc : cpP C K L I R Y) (hse : seP C R Y) {a : Nat} {i : Int32} (ap : aaP C K I Y i a) (haa : (R (C + 15) i.toNatClampNeg) = a) (pa : 0 ≤ Y 20 i.toNatClampNeg) (hP : ∀ J, dL C K L R I J → cpP C K L J R (unY Y i) → (∀ x j, ¬ ((x = (R (C + 16) (Y 20 i.toNatClampNeg).toNatClampNeg) + 1 ∨ x = (R (C + 16) (Y 20 i.toNatClampNeg).toNatClampNeg) + 2) ∧ (Y 21 i.toNatClampNeg).toNatClampNeg ≤ j ∧ j < (Y 21 i.toNatClampNeg).toNatClampNeg + (Y 10 i.toNatClampNeg).toNatClampNeg) → ¬ (x = a ∧ (j = 13 ∨ j = 14)) → J x j = I x j) → P none (n, t, K, L, J, R)) : a_does (d + 4) 51 [a_rf (C + 14), a_rf a] (n, t, K, L, I, R) P := by
  have hS := hT.s
  obtain ⟨ai, ⟨ha, an0, a4n⟩, am, al⟩ := id ap
  obtain ⟨a1, a2, a4, a3⟩ := hT.g_ask a ha
  have a0 : (a = 0) = False := eq_false an0
  have gA := hT.g_asksR
  have gB := hT.g_benchesR
  have gX := hT.g_textsR
  have hy := hc.2.2.2.2
  have y10 := hy.2.1 i.toNatClampNeg
  have e13 : I a 13 = Y 20 i.toNatClampNeg := al.2.2.2.1.1
  have e14 : I a 14 = Y 21 i.toNatClampNeg := al.2.2.2.1.2
  have i30 : i.toNatClampNeg < 30 := a_lt30 ⟨ai.1, Int32.lt_of_lt_of_le ai.2 hy.2.2.2.2.1.2⟩
  obtain ⟨⟨p21, p200, psl⟩, p5⟩ := hy.2.2.2.2.2.2.1 _ i30 pa
  have p6 : Y 20 i.toNatClampNeg < Y 0 6 := (hc.2.1.2.2.2.1 i ai.1 ai.2 pa).1
  have s200 : 0 ≤ Y 21 i.toNatClampNeg ∧ Y 21 i.toNatClampNeg ≤ 200 := ⟨p21, p200⟩
  obtain ⟨kb, kb0, kb5, kb6⟩ := hc.2.1.2.2.1 _ pa p6
  obtain ⟨eB2, eB3, -⟩ := hse.1 _ pa p6
  obtain ⟨bB, ⟨w1, w2, w3⟩, ⟨s1, s2, s3⟩, -⟩ := hT.g_bnc _ kb
  have B1 : K ((R (C + 16) (Y 20 i.toNatClampNeg).toNatClampNeg) + 1) = 20 := by rw [← eB2]; exact w2
  have B2 : K ((R (C + 16) (Y 20 i.toNatClampNeg).toNatClampNeg) + 2) = 20 := by rw [← eB3]; exact s2
  have b6 : Y 20 i.toNatClampNeg < 6 := Int32.lt_of_lt_of_le p6 hy.2.2.2.2.2.1.2
  have hbc : 0 ≤ Y 20 i.toNatClampNeg ∧ Y 20 i.toNatClampNeg < I (C + 14) 5 ∧ Y 20 i.toNatClampNeg < 6 := ⟨pa, by rw [hc.2.1.1]; exact p6, b6⟩
  have rows : ∀ c : Int32, 0 ≤ c → c < Y 0 6 → R (R (C + 16) c.toNatClampNeg) 2 = R (C + 16) c.toNatClampNeg + 1 ∧ R (R (C + 16) c.toNatClampNeg) 3 = R (C + 16) c.toNatClampNeg + 2 ∧ ¬ R (C + 16) c.toNatClampNeg + 1 = a ∧ ¬ R (C + 16) c.toNatClampNeg + 2 = a := fun c c0 c1 => by
    obtain ⟨e1, e2, -⟩ := hse.1 c c0 c1
    have kc := (hc.2.1.2.2.1 c c0 c1).1
    obtain ⟨-, ⟨-, w1, -⟩, ⟨-, w2, -⟩, -⟩ := hT.g_bnc _ kc
    refine ⟨e1, e2, fun e => ?_, fun e => ?_⟩
    · rw [e1, e, ha] at w1
      cases w1
    · rw [e2, e, ha] at w2
      cases w2
  have hl := le_lift_14 (d := d) (n := n) (t := t) (P := P) hT ha kb eB2 eB3 s200 y10 psl e14 al.1.2.2.1 (fun J hJL hJ => by
    have hJa : ∀ x j, ¬ (x = a ∧ (j = 13 ∨ j = 14)) → a_ui (a_ui J a 13 (-9)) a 14 (-9) x j = lfI I (R (C + 16) (Y 20 i.toNatClampNeg).toNatClampNeg) (Y 21 i.toNatClampNeg) (Y 10 i.toNatClampNeg) x j := fun x j q => by
      rw [ui_ap, if_neg (by omega), ui_ap, if_neg (by omega), hJ]
    have f20 : ∀ x j, K x = 20 → ¬ x = (R (C + 16) (Y 20 i.toNatClampNeg).toNatClampNeg) + 1 → ¬ x = (R (C + 16) (Y 20 i.toNatClampNeg).toNatClampNeg) + 2 → a_ui (a_ui J a 13 (-9)) a 14 (-9) x j = I x j := fun x j kx n1 n2 => by
      rw [hJa x j (fun q => by rw [q.1, ha] at kx; cases kx)]
      unfold lfI
      rw [if_neg (fun q => n1 q.1), if_neg (fun q => n2 q.1)]
    have fk : ∀ x j, ¬ K x = 20 → ¬ (x = a ∧ (j = 13 ∨ j = 14)) → a_ui (a_ui J a 13 (-9)) a 14 (-9) x j = I x j := fun x j kx n1 => by
      rw [hJa x j n1]
      unfold lfI
      rw [if_neg (fun q => kx (by rw [q.1]; exact B1)), if_neg (fun q => kx (by rw [q.1]; exact B2))]
    have cin : ∀ k, k ≤ 43 → ∀ j, a_ui (a_ui J a 13 (-9)) a 14 (-9) (C + k) j = I (C + k) j := fun k hk j => by
      rw [hJa _ _ (by omega)]
      unfold lfI
      rw [if_neg (by omega), if_neg (by omega)]
    refine hP _ (dL_place hJL a1 ha (fun q => absurd q (by decide))) (cp_mk hT hc unY_b (inP_un hy.2.2.2.2.2.2.1) (fun _ _ => ⟨rfl, rfl⟩) (fun _ _ _ _ _ _ _ => rfl) (fun k j hk => cin k (by omega) j) (fun x j kx n1 n2 => fk x j (by rw [kx]; decide) (by omega)) (fun x j kx _ => fk x j (by rw [kx]; decide) (fun q => by rw [q.1, ha] at kx; cases kx)) (fun x j kx => fk x j (by rw [kx]; decide) (fun q => by rw [q.1, ha] at kx; cases kx)) (fun k k0 k1 j => ?_) (fun o o0 o1 => ?_) ?_) (fun x j q1 q2 => by
      rw [hJa x j q2]
      unfold lfI
      rw [if_neg (fun q => q1 ⟨Or.inl q.1, q.2⟩), if_neg (fun q => q1 ⟨Or.inr q.1, q.2⟩)])
    · have hk := (hc.2.2.2.1.2 k k0 k1).1
      obtain ⟨q, -⟩ := hse.2.2.1 k _ k0 k1 pa p6
      exact f20 _ _ (hT.g_txt _ hk).2.2.1 (by omega) (by omega)
    · have ao := hc.2.2.1.2.1 o o0 o1
      by_cases e : o = i
      · have ea : R (C + 15) o.toNatClampNeg = a := by rw [e]; exact haa
        rw [ea, e, un_a (Or.inl rfl), un_a (Or.inr rfl), ui_ap, ui_ap, if_neg (by omega), if_pos ⟨rfl, rfl⟩, ui_ap, if_pos ⟨rfl, rfl⟩]
        exact ⟨rfl, rfl⟩
      · have ea : ¬ R (C + 15) o.toNatClampNeg = a := fun q => e (by rw [← ao.2.2, q]; exact a4n)
        have hne : ¬ o.toNatClampNeg = i.toNatClampNeg := fun q => e (cl_inj o0 ai.1 q)
        rw [fk _ _ (by rw [ao.1]; decide) (fun q => ea q.1), fk _ _ (by rw [ao.1]; decide) (fun q => ea q.1), un_o (Or.inr hne), un_o (Or.inr hne)]
        exact (hc.2.2.1.2.2.2 o o0 o1).2.2.2.1
    · refine pl_un hc.2.1.2.2.2 hy.2.1 ai pa (fun c c0 c1 j => ?_) (fun c c0 c1 j => ?_)
      · obtain ⟨e1, e2, n1, n2⟩ := rows c c0 c1
        unfold whC
        rw [e1, hJa _ _ (fun q => n1 q.1)]
        unfold lfI
        by_cases e : c = Y 20 i.toNatClampNeg
        · subst e
          by_cases q : (Y 21 i.toNatClampNeg).toNatClampNeg ≤ j ∧ j < (Y 21 i.toNatClampNeg).toNatClampNeg + (Y 10 i.toNatClampNeg).toNatClampNeg
          · rw [if_pos ⟨rfl, q⟩, if_pos ⟨rfl, q⟩]
          · rw [if_neg (fun w => q w.2), if_neg (by omega), if_neg (fun w => q w.2)]
        · have := se_ne hT hc hse ⟨c0, c1⟩ ⟨pa, p6⟩ e
          rw [if_neg (by omega), if_neg (by omega), if_neg (fun w => e w.1)]
      · obtain ⟨e1, e2, n1, n2⟩ := rows c c0 c1
        unfold snC
        rw [e2, hJa _ _ (fun q => n2 q.1)]
        unfold lfI
        by_cases e : c = Y 20 i.toNatClampNeg
        · subst e
          by_cases q : (Y 21 i.toNatClampNeg).toNatClampNeg ≤ j ∧ j < (Y 21 i.toNatClampNeg).toNatClampNeg + (Y 10 i.toNatClampNeg).toNatClampNeg
          · rw [if_neg (by omega), if_pos ⟨rfl, q⟩, if_pos ⟨rfl, q⟩]
          · rw [if_neg (by omega), if_neg (fun w => q w.2), if_neg (fun w => q w.2)]
        · have := se_ne hT hc hse ⟨c0, c1⟩ ⟨pa, p6⟩ e
          rw [if_neg (by omega), if_neg (by omega), if_neg (fun w => e w.1)]) 0 (by decide) I (Y 21 i.toNatClampNeg) (by decide) y10.1 (Int32.add_zero _).symm (dL_refl hT) (fun y j => by
    unfold lfI
    rw [show (0 : Int32).toNatClampNeg = 0 from rfl, if_neg (by omega), if_neg (by omega)])
  clear hP rows
  rw [a_enter1 (M := a_m51) rfl (a_cat_rf (a_cat_rf a_cat_nil)) (show 2 ≤ 4 by decide)]
  show a_at _ (a_xm a_m51) 0 [some (a_rf (C + 14)), some (a_rf a), none, none] [] _ _
  simp only [q51_0, q51_1, q51_2, q51_5, q51_8, q51_9, q51_10, q51_13, k_14 hS, z_14, sp_benchAt hS gB, as_nil, as_i, as_r, Nat.reduceAdd, Nat.reduceLeDiff, z_eq0, z_eq1, z_or, z_em, Classical.not_not, not_false_eq_true, not_true_eq_false, true_and, and_true, false_and, and_false, and_self, true_implies, false_implies, implies_true, Option.toList_some, Option.toList_none, List.cons_append, List.nil_append, Nat.add_eq_zero_iff, a_nl_i, a_nl_r, a_nl_n, true_or, or_true, eq_self, a_isRA_22, a_isRA_24, a_isRA_32, a_isA_20, ok_4, ok_5, ok_6, ok_7, ok_9, ok_20, ok_21, ok_30, ok_50, ok_180, ok_192, ok_200, ha, a0, hbc, kb, kb0, e13, e14]
  try simp only [true_and, and_true, true_implies, false_implies, implies_true, not_true_eq_false, not_false_eq_true]
  exact hl
theorem cx_lay (hT : cT C K L I R) (hc : cpP C K L I R Y) (hse : seP C R Y) {a : Nat} {i : Int32} (ap : aaP C K I Y i a) (haa : (R (C + 15) i.toNatClampNeg) = a) {b s w : Int32} (hb : 0 ≤ b ∧ b < Y 0 6) (hs : 0 ≤ s ∧ s ≤ 199) (hsl : s + Y 10 i.toNatClampNeg ≤ 200) (un : ¬ 0 ≤ Y 20 i.toNatClampNeg) (fr : ∀ z : Int32, 0 ≤ z → z < Y 10 i.toNatClampNeg → whC C I R b (s + z).toNatClampNeg = -9) (hw : ∀ z : Int32, 0 ≤ z → z < Y 10 i.toNatClampNeg → ((w >>> (z &&& 31)) &&& 1 = 0 ↔ ¬ 0 ≤ wtA Y 87 i b (s + z))) (hP : ∀ J, dL C K L R I J → cpP C K L J R (puY Y i b s) → (∀ x j, ¬ ((x = (R (C + 16) b.toNatClampNeg) + 1 ∨ x = (R (C + 16) b.toNatClampNeg) + 2) ∧ s.toNatClampNeg ≤ j ∧ j < s.toNatClampNeg + (Y 10 i.toNatClampNeg).toNatClampNeg) → ¬ (x = a ∧ (j = 13 ∨ j = 14)) → J x j = I x j) → P none (n, t, K, L, J, R)) : a_does (d + 4) 115 [a_rf (C + 14), a_rf a, .int b, .int s, .int w] (n, t, K, L, I, R) P := by
  have hS := hT.s
  obtain ⟨ai, ⟨ha, an0, a4n⟩, am, al⟩ := id ap
  obtain ⟨a1, a2, a4, a3⟩ := hT.g_ask a ha
  have a0 : (a = 0) = False := eq_false an0
  have gA := hT.g_asksR
  have gB := hT.g_benchesR
  have gX := hT.g_textsR
  have hy := hc.2.2.2.2
  have y10 := hy.2.1 i.toNatClampNeg
  have s200 : 0 ≤ s ∧ s ≤ 200 := ⟨hs.1, Int32.le_trans hs.2 (by decide)⟩
  obtain ⟨kb, kb0, kb5, kb6⟩ := hc.2.1.2.2.1 b hb.1 hb.2
  obtain ⟨eB2, eB3, -⟩ := hse.1 b hb.1 hb.2
  obtain ⟨bB, ⟨w1, w2, w3⟩, ⟨s1, s2, s3⟩, -⟩ := hT.g_bnc _ kb
  have aB1 : ¬ (R (C + 16) b.toNatClampNeg) + 1 = a := fun e => by rw [eB2, e, ha] at w2; cases w2
  have aB2 : ¬ (R (C + 16) b.toNatClampNeg) + 2 = a := fun e => by rw [eB3, e, ha] at s2; cases s2
  have b6 : b < 6 := Int32.lt_of_lt_of_le hb.2 hy.2.2.2.2.2.1.2
  have hbc : 0 ≤ b ∧ b < I (C + 14) 5 ∧ b < 6 := ⟨hb.1, by rw [hc.2.1.1]; exact hb.2, b6⟩
  have hpl : 0 ≤ b → 0 ≤ s ∧ s ≤ 199 ∧ s + I a 2 ≤ 200 := fun _ => ⟨hs.1, hs.2, by rw [al.1.2.2.1]; exact hsl⟩
  have hL0 := dL_place (w := b) (v := s) (dL_refl hT) a1 ha hpl
  have hl := le_lay_26 (d := d) (n := n) (t := t) (P := P) (w := w) hT hc hse ap hb s200 hsl un fr hw (fun J hJL hJ => by
    have B1 : K ((R (C + 16) b.toNatClampNeg) + 1) = 20 := by rw [← eB2]; exact w2
    have B2 : K ((R (C + 16) b.toNatClampNeg) + 2) = 20 := by rw [← eB3]; exact s2
    have f20 : ∀ x j, K x = 20 → ¬ x = (R (C + 16) b.toNatClampNeg) + 1 → ¬ x = (R (C + 16) b.toNatClampNeg) + 2 → J x j = I x j := fun x j kx n1 n2 => by
      rw [hJ, ly_k (fun q => by rw [q.1, ha] at kx; cases kx) n1 n2]
    have fk : ∀ x j, ¬ K x = 20 → ¬ (x = a ∧ (j = 13 ∨ j = 14)) → J x j = I x j := fun x j kx n1 => by
      rw [hJ, ly_k n1 (fun e => kx (by rw [e]; exact B1)) (fun e => kx (by rw [e]; exact B2))]
    have cin : ∀ k, k ≤ 43 → ∀ j, J (C + k) j = I (C + k) j := fun k hk j => by
      rw [hJ, ly_k (by omega) (by omega) (by omega)]
    refine hP J hJL (cp_mk hT hc puY_b (inP_pu hy.2.2.2.2.2.2.1 ⟨hs.1, Int32.le_trans hs.2 (by decide), hsl⟩ (by clear hJ hP fr hw; grind)) (fun _ _ => ⟨rfl, rfl⟩) (fun _ _ _ _ _ _ _ => rfl) (fun k j hk => cin k (by omega) j) (fun x j kx n1 n2 => fk x j (by rw [kx]; decide) (by omega)) (fun x j kx _ => fk x j (by rw [kx]; decide) (fun q => by rw [q.1, ha] at kx; cases kx)) (fun x j kx => fk x j (by rw [kx]; decide) (fun q => by rw [q.1, ha] at kx; cases kx)) (fun k k0 k1 j => ?_) (fun o o0 o1 => ?_) ?_) (fun x j q1 q2 => by
      rw [hJ]
      unfold lyI
      rw [if_neg (fun q => q2 ⟨q.1, Or.inl q.2⟩), if_neg (fun q => q2 ⟨q.1, Or.inr q.2⟩), if_neg (fun q => q1 ⟨Or.inl q.1, q.2⟩), if_neg (fun q => q1 ⟨Or.inr q.1, q.2⟩)])
    · have hk := (hc.2.2.2.1.2 k k0 k1).1
      obtain ⟨q, -⟩ := hse.2.2.1 k b k0 k1 hb.1 hb.2
      exact f20 _ _ (hT.g_txt _ hk).2.2.1 (by omega) (by omega)
    · have ao := hc.2.2.1.2.1 o o0 o1
      by_cases e : o = i
      · have ea : R (C + 15) o.toNatClampNeg = a := by rw [e]; exact haa
        rw [ea, hJ, hJ, e, pu_pp, pp_20, pp_21]
        unfold lyI
        rw [if_pos ⟨rfl, rfl⟩, if_neg (by omega), if_pos ⟨rfl, rfl⟩]
        exact ⟨rfl, rfl⟩
      · have ea : ¬ R (C + 15) o.toNatClampNeg = a := fun q => e (by rw [← ao.2.2, q]; exact a4n)
        have hne : ¬ o.toNatClampNeg = i.toNatClampNeg := fun q => e (cl_inj o0 ai.1 q)
        rw [fk _ _ (by rw [ao.1]; decide) (fun q => ea q.1), fk _ _ (by rw [ao.1]; decide) (fun q => ea q.1), pu_pp, pp_o (Or.inr ⟨hne, by omega⟩), pp_o (Or.inr ⟨hne, by omega⟩)]
        exact (hc.2.2.1.2.2.2 o o0 o1).2.2.2.1
    · rw [pu_pp]
      exact ly_pl hT hc hse ap hb s200 y10 hsl un fr hJ) 0 (by decide) (a_ui (a_ui I a 13 b) a 14 s) none none none none (by decide) y10.1 hL0 (fun y j => by
    unfold lyI
    rw [ui_ap, ui_ap, show (0 : Int32).toNatClampNeg = 0 from rfl]
    by_cases e1 : y = a ∧ j = 13
    · rw [if_neg (by omega), if_pos e1, if_pos e1]
    · by_cases e2 : y = a ∧ j = 14
      · rw [if_pos e2, if_neg e1, if_pos e2]
      · rw [if_neg e2, if_neg e1, if_neg e1, if_neg e2, if_neg (by omega), if_neg (by omega)])
  clear hP fr hw hL0 hpl
  rw [a_enter1 (M := a_m115) rfl (a_cat_rf (a_cat_rf (a_cat_int (a_cat_int (a_cat_int a_cat_nil))))) (show 5 ≤ 11 by decide)]
  show a_at _ (a_xm a_m115) 0 [some (a_rf (C + 14)), some (a_rf a), some (.int b), some (.int s), some (.int w), none, none, none, none, none, none] [] _ _
  simp only [q115_0, q115_1, q115_2, q115_5, q115_7, q115_9, q115_12, q115_13, q115_14, q115_15, q115_18, q115_19, q115_20, q115_23, q115_24, k_14 hS, z_14, sp_benchAt hS gB, as_nil, as_i, as_r, Nat.reduceAdd, Nat.reduceLeDiff, z_eq0, z_eq1, z_or, z_em, Classical.not_not, not_false_eq_true, not_true_eq_false, true_and, and_true, false_and, and_false, and_self, true_implies, false_implies, implies_true, Option.toList_some, Option.toList_none, List.cons_append, List.nil_append, Nat.add_eq_zero_iff, a_nl_i, a_nl_r, a_nl_n, true_or, or_true, eq_self, a_isRA_22, a_isRA_24, a_isRA_32, a_isA_20, ok_4, ok_5, ok_6, ok_7, ok_9, ok_20, ok_21, ok_30, ok_50, ok_180, ok_192, ok_200, ha, a0, hbc, kb, kb0]
  try simp only [true_and, and_true, true_implies, false_implies, implies_true, not_true_eq_false, not_false_eq_true]
  exact hl
/-- the members of a tuple have places of like length -/
def tuP (C : Nat) (R : Nat → Nat → Nat) (Y : Nat → Nat → Int32) (m : Nat) (g : Nat → Int32) : Prop := (∀ k, k < m → (0 ≤ g k ∧ g k < Y 0 17) ∧ 0 ≤ Y 20 (g k).toNatClampNeg ∧ R (C + 38) k = R (C + 15) (g k).toNatClampNeg) ∧ (∀ k j, k < m → j < m → (g k).toNatClampNeg = (g j).toNatClampNeg → k = j) ∧ ∀ k, k < m → Y 10 (g k).toNatClampNeg = (Y 10 (g 0).toNatClampNeg)
/-- the cells of a member's place -/
def plc (C : Nat) (R : Nat → Nat → Nat) (Y : Nat → Nat → Int32) (g : Nat → Int32) (k x j : Nat) : Prop := ((x = (R (C + 16) (Y 20 (g k).toNatClampNeg).toNatClampNeg) + 1 ∨ x = (R (C + 16) (Y 20 (g k).toNatClampNeg).toNatClampNeg) + 2) ∧ (Y 21 (g k).toNatClampNeg).toNatClampNeg ≤ j ∧ j < (Y 21 (g k).toNatClampNeg).toNatClampNeg + (Y 10 (g 0).toNatClampNeg).toNatClampNeg) ∨ (x = R (C + 15) (g k).toNatClampNeg ∧ (j = 13 ∨ j = 14))
/-- all but the cells of places p .. m is the same -/
def qF (C : Nat) (R : Nat → Nat → Nat) (Y : Nat → Nat → Int32) (g : Nat → Int32) (p m : Nat) (I J : Nat → Nat → Int32) : Prop := ∀ x j, ¬ x = C + 9 → ¬ x = C + 10 → (∀ k, p ≤ k → k < m → ¬ plc C R Y g k x j) → J x j = I x j
theorem tp_pl (hc : cpP C K L I R Y) (tp : tuP C R Y m g) {k : Nat} (hk : k < m) : (0 ≤ Y 20 (g k).toNatClampNeg ∧ Y 20 (g k).toNatClampNeg < Y 0 6) ∧ (0 ≤ (Y 21 (g k).toNatClampNeg) ∧ (Y 21 (g k).toNatClampNeg) ≤ 199) ∧ (Y 21 (g k).toNatClampNeg) + (Y 10 (g 0).toNatClampNeg) ≤ 200 ∧ (1 ≤ (Y 10 (g 0).toNatClampNeg) ∧ (Y 10 (g 0).toNatClampNeg) ≤ 4) ∧ Y 10 (g k).toNatClampNeg = (Y 10 (g 0).toNatClampNeg) := by
  have hy := hc.2.2.2.2
  obtain ⟨⟨a0, a1⟩, pa, er⟩ := tp.1 k hk
  have e10 := tp.2.2 k hk
  have l1 := hy.2.2.1 (g k) a0 a1
  have l4 := (hy.2.1 (g k).toNatClampNeg).2
  have i30 : (g k).toNatClampNeg < 30 := a_lt30 ⟨a0, Int32.lt_of_lt_of_le a1 hy.2.2.2.2.1.2⟩
  obtain ⟨⟨p21, p200, psl⟩, p5⟩ := hy.2.2.2.2.2.2.1 _ i30 pa
  have p6 := (hc.2.1.2.2.2.1 (g k) a0 a1 pa).1
  rw [e10] at psl l1 l4
  exact ⟨⟨pa, p6⟩, ⟨p21, by clear hc hy tp; grind⟩, psl, ⟨l1, l4⟩, e10⟩
theorem tp_B (hT : cT C K L I R) (hc : cpP C K L I R Y) (hse : seP C R Y) (tp : tuP C R Y m g) {k : Nat} (hk : k < m) : (K (R (C + 16) (Y 20 (g k).toNatClampNeg).toNatClampNeg) = 3 ∧ ¬ (R (C + 16) (Y 20 (g k).toNatClampNeg).toNatClampNeg) = 0) ∧ (R (R (C + 16) (Y 20 (g k).toNatClampNeg).toNatClampNeg) 2 = (R (C + 16) (Y 20 (g k).toNatClampNeg).toNatClampNeg) + 1 ∧ R (R (C + 16) (Y 20 (g k).toNatClampNeg).toNatClampNeg) 3 = (R (C + 16) (Y 20 (g k).toNatClampNeg).toNatClampNeg) + 2) ∧ (C + 96 < (R (C + 16) (Y 20 (g k).toNatClampNeg).toNatClampNeg) + 1 ∧ K ((R (C + 16) (Y 20 (g k).toNatClampNeg).toNatClampNeg) + 1) = 20 ∧ L ((R (C + 16) (Y 20 (g k).toNatClampNeg).toNatClampNeg) + 1) = 200) ∧ (C + 96 < (R (C + 16) (Y 20 (g k).toNatClampNeg).toNatClampNeg) + 2 ∧ K ((R (C + 16) (Y 20 (g k).toNatClampNeg).toNatClampNeg) + 2) = 20 ∧ L ((R (C + 16) (Y 20 (g k).toNatClampNeg).toNatClampNeg) + 2) = 200) := by
  obtain ⟨⟨pa, p6⟩, -⟩ := tp_pl hc tp hk
  obtain ⟨kb, kb0, -⟩ := hc.2.1.2.2.1 _ pa p6
  obtain ⟨eB2, eB3, -⟩ := hse.1 _ pa p6
  obtain ⟨bB, ⟨w1, w2, w3⟩, ⟨s1, s2, s3⟩, -⟩ := hT.g_bnc _ kb
  rw [eB2] at w1 w2 w3
  rw [eB3] at s1 s2 s3
  exact ⟨⟨kb, kb0⟩, ⟨eB2, eB3⟩, ⟨w1, w2, w3⟩, ⟨s1, s2, s3⟩⟩
theorem tp_a (hT : cT C K L I R) (hc : cpP C K L I R Y) (tp : tuP C R Y m g) {k : Nat} (hk : k < m) : K (R (C + 15) (g k).toNatClampNeg) = 1 ∧ C + 96 < R (C + 15) (g k).toNatClampNeg := by
  obtain ⟨⟨a0, a1⟩, -⟩ := tp.1 k hk
  have ha := (hc.2.2.1.2.1 _ a0 a1).1
  exact ⟨ha, (hT.g_ask _ ha).1⟩
theorem qF_c (hT : cT C K L I R) (hc : cpP C K L I R Y) (hse : seP C R Y) (tp : tuP C R Y m g) {p : Nat} {I1 : Nat → Nat → Int32} (h : qF C R Y g p m I1 J) {k : Nat} (hk : k ≤ 43 ∧ ¬ k = 9 ∧ ¬ k = 10) (j : Nat) : J (C + k) j = I1 (C + k) j := by
  refine h _ _ (by omega) (by omega) (fun q q1 q2 => ?_)
  have b := tp_B hT hc hse tp q2
  have a := tp_a hT hc tp q2
  unfold plc
  omega
theorem qF_a (hT : cT C K L I R) (hc : cpP C K L I R Y) (hse : seP C R Y) (tp : tuP C R Y m g) {p : Nat} {I1 : Nat → Nat → Int32} (h : qF C R Y g p m I1 J) {x j : Nat} (hx : K x = 1) (hj : ¬ j = 13 ∧ ¬ j = 14) : J x j = I1 x j := by
  have := (hT.g_ask _ hx).1
  refine h _ _ (by omega) (by omega) (fun q q1 q2 => ?_)
  have b := tp_B hT hc hse tp q2
  unfold plc
  rintro (⟨w | w, -⟩ | w)
  · rw [w, b.2.2.1.2.1] at hx
    cases hx
  · rw [w, b.2.2.2.2.1] at hx
    cases hx
  · omega
/-- what keepPlaces has kept -/
def kpP (C : Nat) (R : Nat → Nat → Nat) (Y : Nat → Nat → Int32) (g : Nat → Int32) (I : Nat → Nat → Int32) (p q : Nat) (J : Nat → Nat → Int32) : Prop := (∀ x j, ¬ x = C + 39 → ¬ x = C + 40 → ¬ x = C + 41 → J x j = I x j) ∧ (∀ k, k < p → J (C + 39) k = Y 20 (g k).toNatClampNeg ∧ J (C + 40) k = (Y 21 (g k).toNatClampNeg)) ∧ ∀ k z, k < p → z < (Y 10 (g 0).toNatClampNeg).toNatClampNeg → (k + 1 < p ∨ z < q) → J (C + 41) (4 * k + z) = I ((R (C + 16) (Y 20 (g k).toNatClampNeg).toNatClampNeg) + 2) ((Y 21 (g k).toNatClampNeg).toNatClampNeg + z)
theorem le_keep_52 (hT0 : cT C K L I R) (hc : cpP C K L I R Y) (hse : seP C R Y) (tp : tuP C R Y m g) {i : Int32} (hi : 0 ≤ i ∧ i < 5) (him : i.toNatClampNeg < m) (hP : ∀ J u, cT C K L J R → kpP C R Y g I (i.toNatClampNeg + 1) (Y 10 (g 0).toNatClampNeg).toNatClampNeg J → a_at d (a_xm a_m154) 94 [some (a_rf (C + 35)), some (.int i), some (a_rf (R (C + 15) (g i.toNatClampNeg).toNatClampNeg)), some (a_rf (R (C + 16) (Y 20 (g i.toNatClampNeg).toNatClampNeg).toNatClampNeg)), u] [] (n, t, K, L, J, R) P) : ∀ j : Int32, j ≤ 4 → ∀ J, 0 ≤ j → j ≤ (Y 10 (g 0).toNatClampNeg) → cT C K L J R → kpP C R Y g I (i.toNatClampNeg + 1) j.toNatClampNeg J → a_at d (a_xm a_m154) 52 [some (a_rf (C + 35)), some (.int i), some (a_rf (R (C + 15) (g i.toNatClampNeg).toNatClampNeg)), some (a_rf (R (C + 16) (Y 20 (g i.toNatClampNeg).toNatClampNeg).toNatClampNeg)), some (.int j)] [] (n, t, K, L, J, R) P := by
  obtain ⟨⟨pa, p6⟩, ⟨p21, p199⟩, psl, pl, e10⟩ := tp_pl hc tp him
  obtain ⟨⟨kb, kb0⟩, ⟨eB2, eB3⟩, ⟨w1, w2, w3⟩, ⟨s1, s2, s3⟩⟩ := tp_B hT0 hc hse tp him
  obtain ⟨⟨a0, a1⟩, -, er⟩ := tp.1 _ him
  have ap := aa_of hc a0 a1
  obtain ⟨ai, ⟨ha, an0, a4n⟩, am, al⟩ := id ap
  have hx96 := (hT0.g_ask _ ha).1
  have pl4 : (Y 10 (g 0).toNatClampNeg).toNatClampNeg ≤ 4 := by
    have w : (Y 10 (g 0).toNatClampNeg).toNatClampNeg < 5 := cl_lt (j := 5) (Int32.le_trans (by decide) pl.1) (Int32.lt_of_le_of_lt pl.2 (by decide))
    omega
  refine up_ind 4 (fun j hk ih => ?_)
  intro J q0 q1 hT hJ
  obtain ⟨k1, k2, k3⟩ := id hJ
  have hS := hT.s
  have f2 : J (R (C + 15) (g i.toNatClampNeg).toNatClampNeg) 2 = (Y 10 (g 0).toNatClampNeg) := by rw [k1 _ _ (by omega) (by omega) (by omega), al.1.2.2.1, e10]
  have f14 : J (R (C + 15) (g i.toNatClampNeg).toNatClampNeg) 14 = (Y 21 (g i.toNatClampNeg).toNatClampNeg) := by rw [k1 _ _ (by omega) (by omega) (by omega)]; exact al.2.2.2.1.2
  have hexit : ¬ j < (Y 10 (g 0).toNatClampNeg) → ∀ u, a_at d (a_xm a_m154) 94 [some (a_rf (C + 35)), some (.int i), some (a_rf (R (C + 15) (g i.toNatClampNeg).toNatClampNeg)), some (a_rf (R (C + 16) (Y 20 (g i.toNatClampNeg).toNatClampNeg).toNatClampNeg)), u] [] (n, t, K, L, J, R) P := fun w u => by
    refine hP J u hT ?_
    rw [show (Y 10 (g 0).toNatClampNeg) = j from by clear ih hP hJ k1 k2 k3; grind]
    exact hJ
  have hgo : j < (Y 10 (g 0).toNatClampNeg) → a_at d (a_xm a_m154) 52 [some (a_rf (C + 35)), some (.int i), some (a_rf (R (C + 15) (g i.toNatClampNeg).toNatClampNeg)), some (a_rf (R (C + 16) (Y 20 (g i.toNatClampNeg).toNatClampNeg).toNatClampNeg)), some (.int (j + 1))] [] (n, t, K, L, (a_ui J (C + 41) (i * 4 + j).toNatClampNeg (J ((R (C + 16) (Y 20 (g i.toNatClampNeg).toNatClampNeg).toNatClampNeg) + 2) ((Y 21 (g i.toNatClampNeg).toNatClampNeg) + j).toNatClampNeg)), R) P := fun w => by
    obtain ⟨t1, t2, t3, t4⟩ := lp_st q0 w
    have hj4 : 0 ≤ j ∧ j < 4 := ⟨q0, Int32.lt_of_lt_of_le w pl.2⟩
    have e20 := ix_20 hi hj4
    obtain ⟨es, -⟩ := sh_at (i := j) p21 (Int32.le_trans p199 (by decide)) ⟨q0, Int32.le_of_lt hj4.2⟩
    have hj4n : j.toNatClampNeg < 4 := cl_lt q0 hj4.2
    refine ih hj4.2 _ t2 t3 (sT_Circle_stood hT) ⟨fun x y n1 n2 n3 => by rw [ui_ap, if_neg (fun e => n3 e.1)]; exact k1 x y n1 n2 n3, fun k hk => ?_, fun k z hk hz hkz => ?_⟩
    · rw [ui_ap, if_neg (by omega), ui_ap, if_neg (by omega)]
      exact k2 k hk
    · rw [t4] at hkz
      rw [ui_ap, e20]
      by_cases e : k = i.toNatClampNeg ∧ z = j.toNatClampNeg
      · rw [if_pos ⟨rfl, by rw [e.1, e.2]⟩, e.1, e.2, es]
        exact k1 _ _ (by omega) (by omega) (by omega)
      · rw [if_neg (by omega)]
        exact k3 k z hk hz (by omega)
  have hsh : j < (Y 10 (g 0).toNatClampNeg) → 0 ≤ (Y 21 (g i.toNatClampNeg).toNatClampNeg) + j ∧ (Y 21 (g i.toNatClampNeg).toNatClampNeg) + j < 200 := fun w => ((sh_lt ⟨p21, Int32.le_trans p199 (by decide)⟩ ⟨Int32.le_trans (by decide) pl.1, pl.2⟩ psl ⟨q0, q1⟩).1 w).1
  have h20 : j < (Y 10 (g 0).toNatClampNeg) → 0 ≤ i * 4 + j ∧ i * 4 + j < 20 := fun w => ix4 hi ⟨q0, Int32.lt_of_lt_of_le w pl.2⟩
  clear ih hP hJ k1 k2 k3 hc tp al am ap
  rw [q154_52]
  simp only [q154_54, q154_55, q154_58, q154_61, q154_62, q154_65, q154_66, q154_69, q154_70, q154_71, q154_72, q154_74, q154_75, q154_76, q154_79, q154_80, q154_83, q154_85, q154_86, q154_87, q154_88, q154_91, k_35 hS, z_35, r_35_6 hS, k_41 hS, l_41 hS, z_41, as_nil, as_i, as_r, Nat.reduceAdd, Nat.reduceLeDiff, z_eq0, z_eq1, z_or, z_em, Classical.not_not, not_false_eq_true, not_true_eq_false, true_and, and_true, false_and, and_false, and_self, true_implies, false_implies, implies_true, Option.toList_some, Option.toList_none, List.cons_append, List.nil_append, Nat.add_eq_zero_iff, a_nl_i, a_nl_r, a_nl_n, true_or, or_true, eq_self, a_isRA_22, a_isRA_24, a_isRA_32, a_isA_20, ok_4, ok_5, ok_6, ok_7, ok_9, ok_20, ok_21, ok_30, ok_50, ok_180, ok_192, ok_200, ui_ap, cc_ne, cc_n0, cc_0n, Nat.reduceEqDiff, reduceIte, if_true, if_false, ha, an0, f2, f14, kb, kb0, eB3, s2, s3]
  refine ⟨fun h => hexit (Int32.not_lt.mpr h) _, fun h => ?_⟩
  have h := Int32.not_le.mp h
  have x1 := hsh h
  have x2 := h20 h
  have x3 := hgo h
  clear hexit hsh h20 hgo
  repeat' first
    | with_reducible apply And.intro
    | with_reducible intro _
    | with_reducible assumption
    | exact x1.1
    | exact x1.2
    | exact x2.1
    | exact x2.2
theorem le_keep_2 (hT0 : cT C K L I R) (hc : cpP C K L I R Y) (hse : seP C R Y) (tp : tuP C R Y m g) {z : Int32} (ez : z.toNatClampNeg = m) (hz : 0 ≤ z ∧ z ≤ 5) (es : I (C + 35) 7 = z) (hP : ∀ J, cT C K L J R → kpP C R Y g I m (Y 10 (g 0).toNatClampNeg).toNatClampNeg J → P none (n, t, K, L, J, R)) : ∀ i : Int32, i ≤ 5 → ∀ J u w v, 0 ≤ i → i ≤ z → cT C K L J R → kpP C R Y g I i.toNatClampNeg (Y 10 (g 0).toNatClampNeg).toNatClampNeg J → a_at (d + 1) (a_xm a_m154) 2 [some (a_rf (C + 35)), some (.int i), u, w, v] [] (n, t, K, L, J, R) P := by
  refine up_ind 5 (fun i hk ih => ?_)
  intro J u w v q0 q1 hT hJ
  have hS := hT.s
  have gA := hT.g_asksR
  have gB := hT.g_benchesR
  have gX := hT.g_textsR
  have k1 := hJ.1
  have e7 : J (C + 35) 7 = z := by rw [k1 _ _ (by omega) (by omega) (by omega)]; exact es
  rw [q154_2]
  simp only [q154_3, q154_4, q154_7, q154_10, q154_11, q154_14, q154_15, k_35 hS, z_35, r_35_3 hS, k_38 hS, l_38 hS, z_38, as_nil, as_i, as_r, Nat.reduceAdd, Nat.reduceLeDiff, z_eq0, z_eq1, z_or, z_em, Classical.not_not, not_false_eq_true, not_true_eq_false, true_and, and_true, false_and, and_false, and_self, true_implies, false_implies, implies_true, Option.toList_some, Option.toList_none, List.cons_append, List.nil_append, Nat.add_eq_zero_iff, a_nl_i, a_nl_r, a_nl_n, true_or, or_true, eq_self, a_isRA_22, a_isRA_24, a_isRA_32, a_isA_20, ok_4, ok_5, ok_6, ok_7, ok_9, ok_20, ok_21, ok_30, ok_50, ok_180, ok_192, ok_200, e7]
  refine ⟨fun h1 => ?_, fun h1 => ?_⟩
  · simp only [q154_100, as_nil, as_i, as_r, Nat.reduceAdd, Nat.reduceLeDiff, z_eq0, z_eq1, z_or, z_em, Classical.not_not, not_false_eq_true, not_true_eq_false, true_and, and_true, false_and, and_false, and_self, true_implies, false_implies, implies_true, Option.toList_some, Option.toList_none, List.cons_append, List.nil_append, Nat.add_eq_zero_iff, a_nl_i, a_nl_r, a_nl_n, true_or, or_true, eq_self, a_isRA_22, a_isRA_24, a_isRA_32, a_isA_20, ok_4, ok_5, ok_6, ok_7, ok_9, ok_20, ok_21, ok_30, ok_50, ok_180, ok_192, ok_200]
    have e : i = z := by clear hP ih hJ k1 hc tp; grind
    rw [e, ez] at hJ
    exact hP J hT hJ
  · have h1 := Int32.not_le.mp h1
    have hi : 0 ≤ i ∧ i < 5 := ⟨q0, Int32.lt_of_lt_of_le h1 hz.2⟩
    have him : i.toNatClampNeg < m := by rw [← ez]; exact cl_lt q0 h1
    obtain ⟨⟨pa, p6⟩, ⟨p21, p199⟩, psl, pl, e10⟩ := tp_pl hc tp him
    obtain ⟨⟨kb, kb0⟩, -⟩ := tp_B hT0 hc hse tp him
    obtain ⟨⟨a0, a1⟩, -, er⟩ := tp.1 _ him
    obtain ⟨ai, ⟨ha, an0, a4n⟩, am, al⟩ := aa_of hc a0 a1
    have hx96 := (hT0.g_ask _ ha).1
    have f13 : J (R (C + 15) (g i.toNatClampNeg).toNatClampNeg) 13 = Y 20 (g i.toNatClampNeg).toNatClampNeg := by rw [k1 _ _ (by omega) (by omega) (by omega)]; exact al.2.2.2.1.1
    have f14 : J (R (C + 15) (g i.toNatClampNeg).toNatClampNeg) 14 = (Y 21 (g i.toNatClampNeg).toNatClampNeg) := by rw [k1 _ _ (by omega) (by omega) (by omega)]; exact al.2.2.2.1.2
    have n39 : ((R (C + 15) (g i.toNatClampNeg).toNatClampNeg) = C + 39) = False := eq_false (by omega)
    have n40 : ((R (C + 15) (g i.toNatClampNeg).toNatClampNeg) = C + 40) = False := eq_false (by omega)
    have e5 : J (C + 14) 5 = Y 0 6 := by rw [k1 _ _ (by omega) (by omega) (by omega)]; exact hc.2.1.1
    have b6 : Y 20 (g i.toNatClampNeg).toNatClampNeg < 6 := Int32.lt_of_lt_of_le p6 hc.2.2.2.2.2.2.2.2.2.1.2
    have hbc : 0 ≤ Y 20 (g i.toNatClampNeg).toNatClampNeg ∧ Y 20 (g i.toNatClampNeg).toNatClampNeg < Y 0 6 ∧ Y 20 (g i.toNatClampNeg).toNatClampNeg < 6 := ⟨pa, p6, b6⟩
    obtain ⟨t1, t2, t3, t4⟩ := lp_st q0 h1
    have hg := le_keep_52 (d := d + 1) (n := n) (t := t) (P := P) hT0 hc hse tp hi him (fun J2 u2 T2 h2 => by
      simp only [q154_94, q154_97, as_nil, as_i, as_r, Nat.reduceAdd, Nat.reduceLeDiff, z_eq0, z_eq1, z_or, z_em, Classical.not_not, not_false_eq_true, not_true_eq_false, true_and, and_true, false_and, and_false, and_self, true_implies, false_implies, implies_true, Option.toList_some, Option.toList_none, List.cons_append, List.nil_append, Nat.add_eq_zero_iff, a_nl_i, a_nl_r, a_nl_n, true_or, or_true, eq_self, a_isRA_22, a_isRA_24, a_isRA_32, a_isA_20, ok_4, ok_5, ok_6, ok_7, ok_9, ok_20, ok_21, ok_30, ok_50, ok_180, ok_192, ok_200]
      exact ih hi.2 J2 _ _ _ t2 t3 T2 (by rw [t4]; exact h2)) 0 (by decide) (a_ui (a_ui J (C + 39) i.toNatClampNeg (Y 20 (g i.toNatClampNeg).toNatClampNeg)) (C + 40) i.toNatClampNeg (Y 21 (g i.toNatClampNeg).toNatClampNeg)) (by decide) (Int32.le_trans (by decide) pl.1) (sT_Circle_shift (sT_Circle_bench hT)) ⟨fun x j n1 n2 n3 => by rw [ui_ap, if_neg (fun e => n2 e.1), ui_ap, if_neg (fun e => n1 e.1)]; exact k1 x j n1 n2 n3, fun k hk => ?_, fun k y hk hy hky => ?_⟩
    · clear ih hP hJ k1 hc tp al am
      simp only [q154_16, q154_17, q154_18, q154_21, q154_22, q154_25, q154_28, q154_29, q154_30, q154_33, q154_34, q154_35, q154_38, q154_39, q154_40, q154_43, q154_44, q154_45, q154_48, q154_49, q154_50, k_35 hS, z_35, r_35_0 hS, k_14 hS, z_14, r_35_4 hS, k_39 hS, l_39 hS, z_39, r_35_5 hS, k_40 hS, l_40 hS, z_40, sp_benchAt hS gB, as_nil, as_i, as_r, Nat.reduceAdd, Nat.reduceLeDiff, z_eq0, z_eq1, z_or, z_em, Classical.not_not, not_false_eq_true, not_true_eq_false, true_and, and_true, false_and, and_false, and_self, true_implies, false_implies, implies_true, Option.toList_some, Option.toList_none, List.cons_append, List.nil_append, Nat.add_eq_zero_iff, a_nl_i, a_nl_r, a_nl_n, true_or, or_true, eq_self, a_isRA_22, a_isRA_24, a_isRA_32, a_isA_20, ok_4, ok_5, ok_6, ok_7, ok_9, ok_20, ok_21, ok_30, ok_50, ok_180, ok_192, ok_200, ui_ap, cc_ne, cc_n0, cc_0n, Nat.reduceEqDiff, reduceIte, if_true, if_false, er, ha, an0, f13, f14, n39, n40, e5, hbc, kb, kb0, hi]
      exact hg
    · rw [ui_ap, ui_ap, ui_ap, ui_ap]
      by_cases e : k = i.toNatClampNeg
      · rw [if_neg (by omega), if_pos ⟨rfl, e⟩, if_pos ⟨rfl, e⟩, e]
        exact ⟨rfl, rfl⟩
      · rw [if_neg (by omega), if_neg (by omega), if_neg (by omega), if_neg (by omega)]
        exact hJ.2.1 k (by omega)
    · rw [ui_ap, if_neg (by omega), ui_ap, if_neg (by omega)]
      refine hJ.2.2 k y (by rw [show (0 : Int32).toNatClampNeg = 0 from rfl] at hky; omega) hy (Or.inr hy)
theorem ce_keep (hT0 : cT C K L I R) (hc : cpP C K L I R Y) (hse : seP C R Y) (tp : tuP C R Y m g) {z : Int32} (ez : z.toNatClampNeg = m) (hz : 0 ≤ z ∧ z ≤ 5) (es : I (C + 35) 7 = z) (hP : ∀ J, cT C K L J R → kpP C R Y g I m (Y 10 (g 0).toNatClampNeg).toNatClampNeg J → P none (n, t, K, L, J, R)) : a_does (d + 2) 154 [a_rf (C + 35)] (n, t, K, L, I, R) P := by
  have hS := hT0.s
  have hl := fun u w v => le_keep_2 (d := d) (n := n) (t := t) (P := P) hT0 hc hse tp ez hz es hP 0 (by decide) I u w v (by decide) hz.1 hT0 ⟨fun _ _ _ _ _ => rfl, fun k hk => absurd hk (Nat.not_lt_zero k), fun k _ hk => absurd hk (Nat.not_lt_zero k)⟩
  clear hP
  rw [a_enter1 (M := a_m154) rfl (a_cat_rf a_cat_nil) (show 1 ≤ 5 by decide)]
  show a_at _ (a_xm a_m154) 0 [some (a_rf (C + 35)), none, none, none, none] [] _ _
  simp only [q154_0, q154_1, as_nil, as_i, as_r, Nat.reduceAdd, Nat.reduceLeDiff, z_eq0, z_eq1, z_or, z_em, Classical.not_not, not_false_eq_true, not_true_eq_false, true_and, and_true, false_and, and_false, and_self, true_implies, false_implies, implies_true, Option.toList_some, Option.toList_none, List.cons_append, List.nil_append, Nat.add_eq_zero_iff, a_nl_i, a_nl_r, a_nl_n, true_or, or_true, eq_self, a_isRA_22, a_isRA_24, a_isRA_32, a_isA_20, ok_4, ok_5, ok_6, ok_7, ok_9, ok_20, ok_21, ok_30, ok_50, ok_180, ok_192, ok_200]
  exact hl _ _ _
end ZS0
end
section
/-! the class: a ring is tried just so, whole -/
section ZT0
variable {d n t C c : Nat} {K L : Nat → Nat} {I I0 J J0 J1 J2 : Nat → Nat → Int32} {R : Nat → Nat → Nat} {P : Option Value → AH → Prop}
variable {Y Z W : Nat → Nat → Int32} {m : Nat} {g : Nat → Int32}
theorem qF_C {p : Nat} (h : qF C R Y g p m I J) (h2 : dC C K L R J J2) : qF C R Y g p m I J2 := fun x j n1 n2 n3 => (h2.2 x j n1 n2).trans (h x j n1 n2 n3)
theorem le_turn_lift_6 (hT0 : cT C K L I R) (hc : cpP C K L I R Y) (hse : seP C R Y) (tp : tuP C R Y m g) {z : Int32} (ez : z.toNatClampNeg = m) (hz : 1 ≤ z ∧ z ≤ 5) (es : I (C + 35) 7 = z) (hP : ∀ J, cT C K L J R → cpP C K L J R (rgU g Y m) → qF C R Y g 0 m I J → ∀ u v w q r, a_at (d + 5) (a_xm a_m153) 33 [some (a_rf (C + 35)), u, v, w, q, r] [] (n, t, K, L, J, R) P) : ∀ i : Int32, i ≤ 5 → ∀ J v w q r, 0 ≤ i → i ≤ z → cT C K L J R → cpP C K L J R (rgU g Y i.toNatClampNeg) → qF C R Y g 0 m I J → a_at (d + 5) (a_xm a_m153) 6 [some (a_rf (C + 35)), some (.int i), v, w, q, r] [] (n, t, K, L, J, R) P := by
  refine up_ind 5 (fun i hk ih => ?_)
  intro J v w q r q0 q1 hT hcJ hq
  have hS := hT.s
  have e7 : J (C + 35) 7 = z := (qF_c hT0 hc hse tp hq (k := 35) (by omega) 7).trans es
  rw [q153_6]
  by_cases c : z ≤ i
  · have e : i = z := by clear hP ih; grind
    have hp := hP J hT (by rw [e, ez] at hcJ; exact hcJ) hq
    clear hP ih hc hcJ
    simp only [q153_7, q153_8, q153_11, k_35 hS, z_35, as_nil, as_i, as_r, Nat.reduceAdd, Nat.reduceLeDiff, z_eq0, z_eq1, z_or, z_em, Classical.not_not, not_false_eq_true, not_true_eq_false, true_and, and_true, false_and, and_false, and_self, true_implies, false_implies, implies_true, Option.toList_some, Option.toList_none, List.cons_append, List.nil_append, Nat.add_eq_zero_iff, a_nl_i, a_nl_r, a_nl_n, true_or, or_true, eq_self, a_isRA_22, a_isRA_24, a_isRA_32, a_isA_20, ok_4, ok_5, ok_6, ok_7, ok_9, ok_20, ok_21, ok_30, ok_50, ok_180, ok_192, ok_200, e7]
    exact ⟨fun _ => hp _ _ _ _ _, fun h => absurd c h⟩
  · have h1 := Int32.not_le.mp c
    have hi : 0 ≤ i ∧ i < 5 := ⟨q0, Int32.lt_of_lt_of_le h1 hz.2⟩
    have him : i.toNatClampNeg < m := by rw [← ez]; exact cl_lt q0 h1
    obtain ⟨t1, t2, t3, t4⟩ := lp_st q0 h1
    obtain ⟨⟨pa, p6⟩, -, -, -, e10⟩ := tp_pl hc tp him
    obtain ⟨⟨a0, a1⟩, -, er⟩ := tp.1 _ him
    have ha := tp_a hT0 hc tp him
    have an0 : ¬ (R (C + 15) (g i.toNatClampNeg).toNatClampNeg) = 0 := by omega
    have o20 := rgU_o (g := g) (Y := Y) (q := 20) (j := (g i.toNatClampNeg).toNatClampNeg) i.toNatClampNeg (fun k hk e => by have := tp.2.1 _ _ him (by omega) e; omega)
    have o21 := rgU_o (g := g) (Y := Y) (q := 21) (j := (g i.toNatClampNeg).toNatClampNeg) i.toNatClampNeg (fun k hk e => by have := tp.2.1 _ _ him (by omega) e; omega)
    have o10 : rgU g Y i.toNatClampNeg 10 = Y 10 := sbE_r (rgU_b _) (by omega)
    have e17 : rgU g Y i.toNatClampNeg 0 17 = Y 0 17 := rgU_s i.toNatClampNeg 0 17 (by unfold ss ps1; omega)
    have ap := aa_of hcJ (i := g i.toNatClampNeg) a0 (by rw [e17]; exact a1)
    have hcall := cx_lift (d := d + 1) (n := n) (t := t) hT hcJ (se_b hse (rgU_b _)) ap rfl (by rw [o20]; exact pa) (P := fun r' h' => a_at (d + 5) (a_xm a_m153) 27 [some (a_rf (C + 35)), some (.int i), v, w, q, r] (r'.toList ++ []) h' P) (fun J2 j2 c2 f2 => by
      have hS2 := j2.1.s
      have hg := ih hi.2 J2 v w q r t2 t3 j2.1 (by rw [t4]; exact c2) (fun x j n1 n2 n3 => by
        rw [f2 x j (fun e => ?_) (fun e => n3 i.toNatClampNeg (by omega) him (Or.inr e))]
        · exact hq x j n1 n2 n3
        · rw [o20, o21, o10] at e
          exact n3 i.toNatClampNeg (by omega) him (Or.inl (by rw [← e10]; exact e)))
      clear ih hP hc hcJ c2 f2
      simp only [q153_27, q153_30, as_nil, as_i, as_r, Nat.reduceAdd, Nat.reduceLeDiff, z_eq0, z_eq1, z_or, z_em, Classical.not_not, not_false_eq_true, not_true_eq_false, true_and, and_true, false_and, and_false, and_self, true_implies, false_implies, implies_true, Option.toList_some, Option.toList_none, List.cons_append, List.nil_append, Nat.add_eq_zero_iff, a_nl_i, a_nl_r, a_nl_n, true_or, or_true, eq_self, a_isRA_22, a_isRA_24, a_isRA_32, a_isA_20, ok_4, ok_5, ok_6, ok_7, ok_9, ok_20, ok_21, ok_30, ok_50, ok_180, ok_192, ok_200]
      exact hg)
    clear hP ih hc hcJ
    simp only [q153_7, q153_8, q153_11, q153_14, q153_15, q153_18, q153_19, q153_22, q153_23, q153_24, k_35 hS, z_35, r_35_0 hS, k_14 hS, z_14, r_35_3 hS, k_38 hS, l_38 hS, z_38, as_nil, as_i, as_r, Nat.reduceAdd, Nat.reduceLeDiff, z_eq0, z_eq1, z_or, z_em, Classical.not_not, not_false_eq_true, not_true_eq_false, true_and, and_true, false_and, and_false, and_self, true_implies, false_implies, implies_true, Option.toList_some, Option.toList_none, List.cons_append, List.nil_append, Nat.add_eq_zero_iff, a_nl_i, a_nl_r, a_nl_n, true_or, or_true, eq_self, a_isRA_22, a_isRA_24, a_isRA_32, a_isA_20, ok_4, ok_5, ok_6, ok_7, ok_9, ok_20, ok_21, ok_30, ok_50, ok_180, ok_192, ok_200, e7, hi, er, an0, ha]
    refine ⟨fun h => absurd h c, fun _ => ?_⟩
    try simp only [true_and, and_true, true_implies, false_implies, implies_true, not_true_eq_false, not_false_eq_true]
    first
      | exact hcall
      | exact ⟨hi, hcall⟩
end ZT0
end
section
/-! the class: laying a ring -/
section ZU0
variable {d n t C c : Nat} {K L : Nat → Nat} {I I0 J J0 J1 J2 : Nat → Nat → Int32} {R : Nat → Nat → Nat} {P : Option Value → AH → Prop}
variable {Y Z W : Nat → Nat → Int32} {m : Nat} {g : Nat → Int32}
theorem le_ft {a b s w : Int32} (hl : 1 ≤ Y 10 a.toNatClampNeg ∧ Y 10 a.toNatClampNeg ≤ 4) (hw : ∀ z : Int32, 0 ≤ z → z < Y 10 a.toNatClampNeg → ((w >>> (z &&& 31)) &&& 1 = 0 ↔ ¬ 0 ≤ wtA Y 87 a b (s + z))) (hsu : suB Y a b s = true) : ftY Y a b s = 0 ↔ ¬ tnY Y a s ∧ opB Y a b s w = true := by
  have l5 : (Y 10 a.toNatClampNeg).toNatClampNeg < 5 := cl_lt (j := 5) (Int32.le_trans (by decide) hl.1) (Int32.lt_of_le_of_lt hl.2 (by decide))
  have l0 : 0 < (Y 10 a.toNatClampNeg).toNatClampNeg := cl_lt (i := 0) (by decide) (by clear hw; grind)
  have h := ft_split (Y := Y) (a := a) (b := b) (s := s) (w := w) (Y 10 a.toNatClampNeg).toNatClampNeg 0 (by decide) (by decide) (by rw [show (0 : Int32).toNatClampNeg = 0 from rfl]; omega) (fun z z0 z1 => hw z z0 (cl_lt2 z0 (Int32.le_trans (by decide) hl.1) (by rw [show (0 : Int32).toNatClampNeg = 0 from rfl] at z1; omega)))
  unfold suB at hsu
  unfold ftY opB
  rw [h]
  exact ⟨fun q => ⟨q.2.1.resolve_left (by omega), q.2.2⟩, fun q => ⟨hsu, Or.inr q.1, q.2⟩⟩
theorem le_turn_lay_37 (hT0 : cT C K L I R) (hc : cpP C K L I R Y) (hse : seP C R Y) (tp : tuP C R Y m g) {z : Int32} (ez : z.toNatClampNeg = m) (hz : 1 ≤ z ∧ z ≤ 5) (es : I (C + 35) 7 = z) (kv : ∀ k, k < m → (I (C + 39) k = Y 20 (g k).toNatClampNeg ∧ I (C + 40) k = (Y 21 (g k).toNatClampNeg)) ∧ ∀ y, y < (Y 10 (g 0).toNatClampNeg).toNatClampNeg → I (C + 41) (4 * k + y) = I ((R (C + 16) (Y 20 (g k).toNatClampNeg).toNatClampNeg) + 2) ((Y 21 (g k).toNatClampNeg).toNatClampNeg + y)) (hsu : ∀ k, k < m → suB Y (g k) (Y 20 (g (nxN m k)).toNatClampNeg) (Y 21 (g (nxN m k)).toNatClampNeg) = true) (hP : ∀ J (o : Int32), cT C K L J R → qF C R Y g 0 m I J → (o = z ↔ ∀ k, k < m → rgF Y m g k) → ∀ v w q r, a_at (d + 5) (a_xm a_m153) 166 [some (a_rf (C + 35)), some (.int o), v, w, q, r] [] (n, t, K, L, J, R) P) : ∀ i : Int32, i ≤ 5 → ∀ J w q r, 0 ≤ i → i ≤ z → cT C K L J R → cpP C K L J R (rgP g m Y (rgU g Y m) i.toNatClampNeg) → qF C R Y g 0 m I J → (∀ k, k < i.toNatClampNeg → rgF Y m g k) → a_at (d + 5) (a_xm a_m153) 37 [some (a_rf (C + 35)), some (.int i), some (.int i), w, q, r] [] (n, t, K, L, J, R) P := by
  refine up_ind 5 (fun i hk ih => ?_)
  intro J w q r q0 q1 hT hcJ hq hF
  have hS := hT.s
  have e7 : J (C + 35) 7 = z := (qF_c hT0 hc hse tp hq (k := 35) (by omega) 7).trans es
  have hz0 : ¬ z = 0 := by clear hP ih; grind
  by_cases c : z ≤ i
  · have e : i = z := by clear hP ih; grind
    have hp := hP J i hT hq ⟨fun _ k hk => hF k (by rw [e, ez]; exact hk), fun _ => e⟩
    clear hP ih hc hcJ
    rw [q153_37]
    simp only [q153_38, q153_39, q153_42, k_35 hS, z_35, as_nil, as_i, as_r, Nat.reduceAdd, Nat.reduceLeDiff, z_eq0, z_eq1, z_or, z_em, Classical.not_not, not_false_eq_true, not_true_eq_false, true_and, and_true, false_and, and_false, and_self, true_implies, false_implies, implies_true, Option.toList_some, Option.toList_none, List.cons_append, List.nil_append, Nat.add_eq_zero_iff, a_nl_i, a_nl_r, a_nl_n, true_or, or_true, eq_self, a_isRA_22, a_isRA_24, a_isRA_32, a_isA_20, ok_4, ok_5, ok_6, ok_7, ok_9, ok_20, ok_21, ok_30, ok_50, ok_180, ok_192, ok_200, e7]
    exact ⟨fun _ => hp _ _ _ _, fun h => absurd c h⟩
  · have h1 := Int32.not_le.mp c
    have hi : 0 ≤ i ∧ i < 5 := ⟨q0, Int32.lt_of_lt_of_le h1 hz.2⟩
    have him : i.toNatClampNeg < m := by rw [← ez]; exact cl_lt q0 h1
    have hnm := nxN_lt (m := m) him
    have hx := nxt_lt hz.2 q0 h1
    have hx5 : 0 ≤ nxt z i ∧ nxt z i < 5 := ⟨hx.1, Int32.lt_of_lt_of_le hx.2 hz.2⟩
    have exn : (nxt z i).toNatClampNeg = (nxN m i.toNatClampNeg) := by rw [nxt_nx hz.2 q0 h1, ez]
    obtain ⟨t1, t2, t3, t4⟩ := lp_st q0 h1
    obtain ⟨-, -, -, pl, e10⟩ := tp_pl hc tp him
    obtain ⟨⟨pb, pb6⟩, ps, psl, -, e10n⟩ := tp_pl hc tp hnm
    obtain ⟨⟨a0, a1⟩, -, er⟩ := tp.1 _ him
    have ha := tp_a hT0 hc tp him
    have an0 : ¬ (R (C + 15) (g i.toNatClampNeg).toNatClampNeg) = 0 := by omega
    obtain ⟨⟨v39, v40⟩, -⟩ := kv _ hnm
    have sW : ssE Y (rgP g m Y (rgU g Y m) i.toNatClampNeg) := ss_tr (rgU_s m) (rgP_s _)
    have bW := ss_b sW
    have e17 : (rgP g m Y (rgU g Y m) i.toNatClampNeg) 0 17 = Y 0 17 := sW 0 17 (by unfold ss ps1; omega)
    have e06 : (rgP g m Y (rgU g Y m) i.toNatClampNeg) 0 6 = Y 0 6 := sW 0 6 (by unfold ss ps1; omega)
    have o10 : (rgP g m Y (rgU g Y m) i.toNatClampNeg) 10 = Y 10 := rg_10 _
    have un : ¬ 0 ≤ (rgP g m Y (rgU g Y m) i.toNatClampNeg) 20 (g i.toNatClampNeg).toNatClampNeg := by
      rw [rgP_o (g := g) (by decide) i.toNatClampNeg (fun k hk e => by have := tp.2.1 _ _ him (by omega) e; omega), rgU_at (g := g) (Or.inl rfl) m i.toNatClampNeg him]
      decide
    have ap := aa_of hcJ (i := g i.toNatClampNeg) a0 (by rw [e17]; exact a1)
    have hb : 0 ≤ (Y 20 (g (nxN m i.toNatClampNeg)).toNatClampNeg) ∧ (Y 20 (g (nxN m i.toNatClampNeg)).toNatClampNeg) < (rgP g m Y (rgU g Y m) i.toNatClampNeg) 0 6 := by rw [e06]; exact ⟨pb, pb6⟩
    have hsl : (Y 21 (g (nxN m i.toNatClampNeg)).toNatClampNeg) + (rgP g m Y (rgU g Y m) i.toNatClampNeg) 10 (g i.toNatClampNeg).toNatClampNeg ≤ 200 := by rw [o10, e10]; exact psl
    have lW : 1 ≤ (rgP g m Y (rgU g Y m) i.toNatClampNeg) 10 (g i.toNatClampNeg).toNatClampNeg ∧ (rgP g m Y (rgU g Y m) i.toNatClampNeg) 10 (g i.toNatClampNeg).toNatClampNeg ≤ 4 := by rw [o10, e10]; exact pl
    have suW : suB (rgP g m Y (rgU g Y m) i.toNatClampNeg) (g i.toNatClampNeg) (Y 20 (g (nxN m i.toNatClampNeg)).toNatClampNeg) (Y 21 (g (nxN m i.toNatClampNeg)).toNatClampNeg) = true := by rw [suB_b bW]; exact hsu _ him
    have hseW := se_b hse bW
    have cl39 : ∀ J, qF C R Y g 0 m I J → J (C + 39) (nxt z i).toNatClampNeg = (Y 20 (g (nxN m i.toNatClampNeg)).toNatClampNeg) ∧ J (C + 40) (nxt z i).toNatClampNeg = (Y 21 (g (nxN m i.toNatClampNeg)).toNatClampNeg) := fun J h => by
      rw [exn, qF_c hT0 hc hse tp h (k := 39) (by omega), qF_c hT0 hc hse tp h (k := 40) (by omega)]
      exact ⟨v39, v40⟩
    obtain ⟨x39, x40⟩ := cl39 J hq
    -- it doesn't FIT: out
    have hfail : ¬ rgF Y m g i.toNatClampNeg → ∀ J, cT C K L J R → qF C R Y g 0 m I J → ∀ w q r, a_at (d + 5) (a_xm a_m153) 160 [some (a_rf (C + 35)), some (.int i), some (.int i), w, q, r] [] (n, t, K, L, J, R) P := fun nF J hT hq w q r => by
      have hS := hT.s
      have e7 : J (C + 35) 7 = z := (qF_c hT0 hc hse tp hq (k := 35) (by omega) 7).trans es
      have hp := hP J i hT hq ⟨fun e => absurd h1 (by rw [e]; exact Int32.lt_irrefl), fun hall => absurd (hall _ him) nF⟩
      have ne : ¬ i = i + 1 := by clear ih hP hc hcJ hF; grind
      clear ih hP hc hcJ hF
      simp only [q153_160, q153_163, as_nil, as_i, as_r, Nat.reduceAdd, Nat.reduceLeDiff, z_eq0, z_eq1, z_or, z_em, Classical.not_not, not_false_eq_true, not_true_eq_false, true_and, and_true, false_and, and_false, and_self, true_implies, false_implies, implies_true, Option.toList_some, Option.toList_none, List.cons_append, List.nil_append, Nat.add_eq_zero_iff, a_nl_i, a_nl_r, a_nl_n, true_or, or_true, eq_self, a_isRA_22, a_isRA_24, a_isRA_32, a_isA_20, ok_4, ok_5, ok_6, ok_7, ok_9, ok_20, ok_21, ok_30, ok_50, ok_180, ok_192, ok_200]
      rw [q153_37]
      simp only [q153_38, q153_39, q153_42, q153_45, q153_46, q153_47, k_35 hS, z_35, as_nil, as_i, as_r, Nat.reduceAdd, Nat.reduceLeDiff, z_eq0, z_eq1, z_or, z_em, Classical.not_not, not_false_eq_true, not_true_eq_false, true_and, and_true, false_and, and_false, and_self, true_implies, false_implies, implies_true, Option.toList_some, Option.toList_none, List.cons_append, List.nil_append, Nat.add_eq_zero_iff, a_nl_i, a_nl_r, a_nl_n, true_or, or_true, eq_self, a_isRA_22, a_isRA_24, a_isRA_32, a_isA_20, ok_4, ok_5, ok_6, ok_7, ok_9, ok_20, ok_21, ok_30, ok_50, ok_180, ok_192, ok_200, e7, ne]
      exact ⟨fun _ => hp _ _ _ _, fun _ => hp _ _ _ _⟩
    have hlay : rgF Y m g i.toNatClampNeg → ∀ J2 w2, dC C K L R J J2 → (∀ y : Int32, 0 ≤ y → y < (rgP g m Y (rgU g Y m) i.toNatClampNeg) 10 (g i.toNatClampNeg).toNatClampNeg → ((w2 >>> (y &&& 31)) &&& 1 = 0 ↔ ¬ 0 ≤ wtA (rgP g m Y (rgU g Y m) i.toNatClampNeg) 87 (g i.toNatClampNeg) (Y 20 (g (nxN m i.toNatClampNeg)).toNatClampNeg) ((Y 21 (g (nxN m i.toNatClampNeg)).toNatClampNeg) + y))) → ∀ u v, a_does (d + 5) 115 [a_rf (C + 14), a_rf (R (C + 15) (g i.toNatClampNeg).toNatClampNeg), .int (Y 20 (g (nxN m i.toNatClampNeg)).toNatClampNeg), .int (Y 21 (g (nxN m i.toNatClampNeg)).toNatClampNeg), .int w2] (n, t, K, L, J2, R) (fun r' h' => a_at (d + 5) (a_xm a_m153) 157 [some (a_rf (C + 35)), some (.int i), some (.int i), u, v, some (.int w2)] (r'.toList ++ []) h' P) := fun hFi J2 w2 j2 hw u v => by
      have hc2 := cpP_C hT hcJ j2
      have ap2 := aaP_C hT ap j2
      refine cx_lay (d := d + 1) j2.1 hc2 hseW ap2 rfl hb ps hsl un (ft_free j2.1 hc2 hseW ap2.1 hb ps hsl un hFi) hw (fun J3 j3 c3 f3 => ?_)
      have hS3 := j3.1.s
      have hg := ih hi.2 J3 u v (some (.int w2)) t2 t3 j3.1 (by rw [t4]; exact c3) (fun x j n1 n2 n3 => by
        rw [f3 x j (fun e => ?_) (fun e => n3 i.toNatClampNeg (by omega) him (Or.inr e))]
        · exact qF_C hq j2 x j n1 n2 n3
        · rw [o10, e10] at e
          exact n3 (nxN m i.toNatClampNeg) (by omega) hnm (Or.inl e)) (fun k hk => by
        rw [t4] at hk
        by_cases e : k = i.toNatClampNeg
        · rw [e]; exact hFi
        · exact hF k (by omega))
      clear ih hP hc hcJ hc2 c3 f3 hfail hF
      simp only [q153_157, q153_160, q153_163, as_nil, as_i, as_r, Nat.reduceAdd, Nat.reduceLeDiff, z_eq0, z_eq1, z_or, z_em, Classical.not_not, not_false_eq_true, not_true_eq_false, true_and, and_true, false_and, and_false, and_self, true_implies, false_implies, implies_true, Option.toList_some, Option.toList_none, List.cons_append, List.nil_append, Nat.add_eq_zero_iff, a_nl_i, a_nl_r, a_nl_n, true_or, or_true, eq_self, a_isRA_22, a_isRA_24, a_isRA_32, a_isA_20, ok_4, ok_5, ok_6, ok_7, ok_9, ok_20, ok_21, ok_30, ok_50, ok_180, ok_192, ok_200]
      exact hg
    have hcall := ce_watchOf (d := d) (n := n) (t := t) hT hcJ ap (b := (Y 20 (g (nxN m i.toNatClampNeg)).toNatClampNeg)) ps hsl (P := fun r' h' => a_at (d + 5) (a_xm a_m153) 88 [some (a_rf (C + 35)), some (.int i), some (.int i), some (.int (nxt z i)), some (a_rf (R (C + 15) (g i.toNatClampNeg).toNatClampNeg)), r] (r'.toList ++ []) h' P) (fun w2 J2 j2 hw => by
      have hT2 := j2.1
      have hS2 := hT2.s
      have hq2 := qF_C hq j2
      have hc2 := cpP_C hT hcJ j2
      have ap2 := aaP_C hT ap j2
      obtain ⟨y39, y40⟩ := cl39 J2 hq2
      have hft := le_ft lW hw suW
      simp only [q153_88, q153_90, q153_91, q153_94, q153_96, q153_97, q153_100, q153_101, q153_102, k_35 hS, z_35, r_35_0 hS, k_14 hS, z_14, r_35_5 hS, k_40 hS, l_40 hS, z_40, as_nil, as_i, as_r, Nat.reduceAdd, Nat.reduceLeDiff, z_eq0, z_eq1, z_or, z_em, Classical.not_not, not_false_eq_true, not_true_eq_false, true_and, and_true, false_and, and_false, and_self, true_implies, false_implies, implies_true, Option.toList_some, Option.toList_none, List.cons_append, List.nil_append, Nat.add_eq_zero_iff, a_nl_i, a_nl_r, a_nl_n, true_or, or_true, eq_self, a_isRA_22, a_isRA_24, a_isRA_32, a_isA_20, ok_4, ok_5, ok_6, ok_7, ok_9, ok_20, ok_21, ok_30, ok_50, ok_180, ok_192, ok_200, ha, an0, y40, hx5]
      try simp only [true_and, and_true, true_implies, false_implies, implies_true, not_true_eq_false, not_false_eq_true]
      refine ce_isTooNear (d := d + 3) hT2 hc2 ap2 (fun nt => ?_) (fun ht => ?_)
      · simp only [q153_105, q153_108, q153_109, q153_112, q153_114, q153_115, q153_118, q153_119, q153_120, q153_121, q153_124, q153_125, q153_126, q153_128, k_35 hS, z_35, r_35_0 hS, k_14 hS, z_14, r_35_4 hS, k_39 hS, l_39 hS, z_39, r_35_5 hS, k_40 hS, l_40 hS, z_40, as_nil, as_i, as_r, Nat.reduceAdd, Nat.reduceLeDiff, z_eq0, z_eq1, z_or, z_em, Classical.not_not, not_false_eq_true, not_true_eq_false, true_and, and_true, false_and, and_false, and_self, true_implies, false_implies, implies_true, Option.toList_some, Option.toList_none, List.cons_append, List.nil_append, Nat.add_eq_zero_iff, a_nl_i, a_nl_r, a_nl_n, true_or, or_true, eq_self, a_isRA_22, a_isRA_24, a_isRA_32, a_isA_20, ok_4, ok_5, ok_6, ok_7, ok_9, ok_20, ok_21, ok_30, ok_50, ok_180, ok_192, ok_200, ha, an0, y39, y40, hx5]
        try simp only [true_and, and_true, true_implies, false_implies, implies_true, not_true_eq_false, not_false_eq_true]
        refine ce_isOpen (d := d + 1) hT2 hc2 ap2 hb ps ?_
        by_cases co : opB (rgP g m Y (rgU g Y m) i.toNatClampNeg) (g i.toNatClampNeg) (Y 20 (g (nxN m i.toNatClampNeg)).toNatClampNeg) (Y 21 (g (nxN m i.toNatClampNeg)).toNatClampNeg) w2 = true
        · have hl := hlay (hft.mpr ⟨nt, co⟩) J2 w2 j2 hw
          rw [if_pos co]
          clear hlay hfail hP ih hc hcJ hc2 ap2 ap hft hw hF
          simp only [q153_131, q153_134, q153_135, q153_138, q153_140, q153_141, q153_144, q153_145, q153_146, q153_147, q153_150, q153_151, q153_152, q153_154, k_35 hS, z_35, r_35_0 hS, k_14 hS, z_14, r_35_4 hS, k_39 hS, l_39 hS, z_39, r_35_5 hS, k_40 hS, l_40 hS, z_40, as_nil, as_i, as_r, Nat.reduceAdd, Nat.reduceLeDiff, z_eq0, z_eq1, z_or, z_em, Classical.not_not, not_false_eq_true, not_true_eq_false, true_and, and_true, false_and, and_false, and_self, true_implies, false_implies, implies_true, Option.toList_some, Option.toList_none, List.cons_append, List.nil_append, Nat.add_eq_zero_iff, a_nl_i, a_nl_r, a_nl_n, true_or, or_true, eq_self, a_isRA_22, a_isRA_24, a_isRA_32, a_isA_20, ok_4, ok_5, ok_6, ok_7, ok_9, ok_20, ok_21, ok_30, ok_50, ok_180, ok_192, ok_200, ha, an0, y39, y40, hx5]
          try simp only [true_and, and_true, true_implies, false_implies, implies_true, not_true_eq_false, not_false_eq_true]
          first
            | exact hl _ _
            | exact ⟨fun h => absurd h (by decide), fun _ => hl _ _⟩
        · have hf := hfail (fun q => co (hft.mp q).2) J2 hT2 hq2
          rw [if_neg co]
          clear hlay hfail hP ih hc hcJ hc2 ap2 ap hft hw hF
          simp only [q153_131, as_nil, as_i, as_r, Nat.reduceAdd, Nat.reduceLeDiff, z_eq0, z_eq1, z_or, z_em, Classical.not_not, not_false_eq_true, not_true_eq_false, true_and, and_true, false_and, and_false, and_self, true_implies, false_implies, implies_true, Option.toList_some, Option.toList_none, List.cons_append, List.nil_append, Nat.add_eq_zero_iff, a_nl_i, a_nl_r, a_nl_n, true_or, or_true, eq_self, a_isRA_22, a_isRA_24, a_isRA_32, a_isA_20, ok_4, ok_5, ok_6, ok_7, ok_9, ok_20, ok_21, ok_30, ok_50, ok_180, ok_192, ok_200]
          try simp only [true_and, and_true, true_implies, false_implies, implies_true, not_true_eq_false, not_false_eq_true]
          first
            | exact hf _ _ _
            | exact ⟨fun _ => hf _ _ _, fun h => absurd rfl h⟩
      · have hf := hfail (fun q => (hft.mp q).1 ht) J2 hT2 hq2
        clear hlay hfail hP ih hc hcJ hc2 ap2 ap hft hw hF
        simp only [q153_105, as_nil, as_i, as_r, Nat.reduceAdd, Nat.reduceLeDiff, z_eq0, z_eq1, z_or, z_em, Classical.not_not, not_false_eq_true, not_true_eq_false, true_and, and_true, false_and, and_false, and_self, true_implies, false_implies, implies_true, Option.toList_some, Option.toList_none, List.cons_append, List.nil_append, Nat.add_eq_zero_iff, a_nl_i, a_nl_r, a_nl_n, true_or, or_true, eq_self, a_isRA_22, a_isRA_24, a_isRA_32, a_isA_20, ok_4, ok_5, ok_6, ok_7, ok_9, ok_20, ok_21, ok_30, ok_50, ok_180, ok_192, ok_200]
        try simp only [true_and, and_true, true_implies, false_implies, implies_true, not_true_eq_false, not_false_eq_true]
        first
          | exact hf _ _ _
          | exact ⟨fun _ => hf _ _ _, fun h => absurd h (by decide)⟩)
    clear hP ih hc hcJ hlay hfail ap cl39
    rw [q153_37]
    simp only [q153_38, q153_39, q153_42, q153_45, q153_46, q153_47, q153_50, q153_51, q153_52, q153_53, q153_54, q153_57, q153_58, q153_59, q153_60, q153_63, q153_64, q153_65, q153_67, q153_68, q153_71, q153_73, q153_74, q153_77, q153_78, q153_79, q153_80, q153_83, q153_84, q153_85, k_35 hS, z_35, r_35_3 hS, k_38 hS, l_38 hS, z_38, r_35_0 hS, k_14 hS, z_14, r_35_4 hS, k_39 hS, l_39 hS, z_39, r_35_5 hS, k_40 hS, l_40 hS, z_40, as_nil, as_i, as_r, Nat.reduceAdd, Nat.reduceLeDiff, z_eq0, z_eq1, z_or, z_em, Classical.not_not, not_false_eq_true, not_true_eq_false, true_and, and_true, false_and, and_false, and_self, true_implies, false_implies, implies_true, Option.toList_some, Option.toList_none, List.cons_append, List.nil_append, Nat.add_eq_zero_iff, a_nl_i, a_nl_r, a_nl_n, true_or, or_true, eq_self, a_isRA_22, a_isRA_24, a_isRA_32, a_isA_20, ok_4, ok_5, ok_6, ok_7, ok_9, ok_20, ok_21, ok_30, ok_50, ok_180, ok_192, ok_200, e7, hz0]
    refine ⟨fun h => absurd h c, fun _ => ?_⟩
    show (0 ≤ i ∧ i < 5) ∧ (0 ≤ nxt z i ∧ nxt z i < 5) ∧ (0 ≤ nxt z i ∧ nxt z i < 5) ∧ _
    refine ⟨hi, hx5, hx5, ?_⟩
    rw [er]
    have hcall2 := hcall
    rw [← x39, ← x40] at hcall2
    exact hcall2
end ZU0
end
section
/-! the class: all is put back; canTurn -/
section ZV0
variable {d n t C c : Nat} {K L : Nat → Nat} {I I0 J J0 J1 J2 : Nat → Nat → Int32} {R : Nat → Nat → Nat} {P : Option Value → AH → Prop}
variable {Y Z W : Nat → Nat → Int32} {m : Nat} {g : Nat → Int32}
theorem le_restore_44 (hT0 : cT C K L I R) (hc : cpP C K L I R Y) (hse : seP C R Y) (tp : tuP C R Y m g) (kv : ∀ k, k < m → (I (C + 39) k = Y 20 (g k).toNatClampNeg ∧ I (C + 40) k = (Y 21 (g k).toNatClampNeg)) ∧ ∀ y, y < (Y 10 (g 0).toNatClampNeg).toNatClampNeg → I (C + 41) (4 * k + y) = I ((R (C + 16) (Y 20 (g k).toNatClampNeg).toNatClampNeg) + 2) ((Y 21 (g k).toNatClampNeg).toNatClampNeg + y)) {i : Int32} (hi : 0 ≤ i ∧ i < 5) (him : i.toNatClampNeg < m) (hP : ∀ J, cT C K L J R → qF C R Y g (i.toNatClampNeg + 1) m I J → P none (n, t, K, L, J, R)) : ∀ x : Int32, x ≤ 4 → ∀ J, 0 ≤ x → x ≤ (Y 10 (g 0).toNatClampNeg) → cT C K L J R → (∀ y j, ¬ y = C + 9 → ¬ y = C + 10 → (∀ k, i.toNatClampNeg + 1 ≤ k → k < m → ¬ plc C R Y g k y j) → ¬ ((y = (R (C + 16) (Y 20 (g i.toNatClampNeg).toNatClampNeg).toNatClampNeg) + 1 ∨ y = (R (C + 16) (Y 20 (g i.toNatClampNeg).toNatClampNeg).toNatClampNeg) + 2) ∧ (Y 21 (g i.toNatClampNeg).toNatClampNeg).toNatClampNeg + x.toNatClampNeg ≤ j ∧ j < (Y 21 (g i.toNatClampNeg).toNatClampNeg).toNatClampNeg + (Y 10 (g 0).toNatClampNeg).toNatClampNeg) → J y j = I y j) → a_at (d + 1) (a_xm a_m155) 44 [some (a_rf (C + 35)), some (.int i), some (a_rf (R (C + 15) (g i.toNatClampNeg).toNatClampNeg)), some (a_rf (R (C + 16) (Y 20 (g i.toNatClampNeg).toNatClampNeg).toNatClampNeg)), some (.int x)] [] (n, t, K, L, J, R) P := by
  obtain ⟨⟨pa, p6⟩, ⟨p21, p199⟩, psl, pl, e10⟩ := tp_pl hc tp him
  obtain ⟨⟨kb, kb0⟩, ⟨eB2, eB3⟩, ⟨w1, w2, w3⟩, ⟨s1, s2, s3⟩⟩ := tp_B hT0 hc hse tp him
  obtain ⟨⟨a0, a1⟩, -, er⟩ := tp.1 _ him
  obtain ⟨ai, ⟨ha, an0, a4n⟩, am, al⟩ := aa_of hc a0 a1
  have hx96 := (hT0.g_ask _ ha).1
  have who := (hc.2.1.2.2.2.1 _ a0 a1 pa).2.2.2
  have hv := kv _ him
  refine up_ind 4 (fun x hk ih => ?_)
  intro J q0 q1 hT hJ
  have hS := hT.s
  have hq : qF C R Y g i.toNatClampNeg m I J := fun y j n1 n2 n3 => hJ y j n1 n2 (fun k h1 h2 => n3 k (by omega) h2) (fun q => n3 i.toNatClampNeg (Nat.le_refl _) him (Or.inl ⟨q.1, by omega, q.2.2⟩))
  have f2 : J (R (C + 15) (g i.toNatClampNeg).toNatClampNeg) 2 = (Y 10 (g 0).toNatClampNeg) := by rw [qF_a hT0 hc hse tp hq ha (by decide), al.1.2.2.1, e10]
  have f4 : J (R (C + 15) (g i.toNatClampNeg).toNatClampNeg) 4 = g i.toNatClampNeg := by rw [qF_a hT0 hc hse tp hq ha (by decide)]; exact a4n
  have f40 : J (C + 40) i.toNatClampNeg = (Y 21 (g i.toNatClampNeg).toNatClampNeg) := by rw [qF_c hT0 hc hse tp hq (k := 40) (by omega)]; exact hv.1.2
  have hexit : ¬ x < (Y 10 (g 0).toNatClampNeg) → P none (n, t, K, L, J, R) := fun w => by
    refine hP J hT (fun y j n1 n2 n3 => hJ y j n1 n2 n3 (fun q => ?_))
    have e : (Y 10 (g 0).toNatClampNeg) = x := by clear ih hP hJ hq kv hv who; grind
    rw [e] at q
    omega
  have hgo : x < (Y 10 (g 0).toNatClampNeg) → a_does (d + 1) 52 [a_rf (R (C + 16) (Y 20 (g i.toNatClampNeg).toNatClampNeg).toNatClampNeg), .int ((Y 21 (g i.toNatClampNeg).toNatClampNeg) + x), .int (g i.toNatClampNeg), .int (J (C + 41) (i * 4 + x).toNatClampNeg)] (n, t, K, L, J, R) (fun r h' => a_at (d + 1) (a_xm a_m155) 85 [some (a_rf (C + 35)), some (.int i), some (a_rf (R (C + 15) (g i.toNatClampNeg).toNatClampNeg)), some (a_rf (R (C + 16) (Y 20 (g i.toNatClampNeg).toNatClampNeg).toNatClampNeg)), some (.int x)] (r.toList ++ []) h' P) := fun w => by
    obtain ⟨t1, t2, t3, t4⟩ := lp_st q0 w
    have hx4 : 0 ≤ x ∧ x < 4 := ⟨q0, Int32.lt_of_lt_of_le w pl.2⟩
    have e20 := ix_20 hi hx4
    obtain ⟨es, -⟩ := sh_at (i := x) p21 (Int32.le_trans p199 (by decide)) ⟨q0, Int32.le_of_lt hx4.2⟩
    have hsh := ((sh_lt ⟨p21, Int32.le_trans p199 (by decide)⟩ ⟨Int32.le_trans (by decide) pl.1, pl.2⟩ psl ⟨q0, q1⟩).1 w).1
    have xl : x.toNatClampNeg < (Y 10 (g 0).toNatClampNeg).toNatClampNeg := cl_lt q0 w
    have est : J (C + 41) (i * 4 + x).toNatClampNeg = I ((R (C + 16) (Y 20 (g i.toNatClampNeg).toNatClampNeg).toNatClampNeg) + 2) ((Y 21 (g i.toNatClampNeg).toNatClampNeg).toNatClampNeg + x.toNatClampNeg) := by
      rw [qF_c hT0 hc hse tp hq (k := 41) (by omega), e20]
      exact hv.2 _ xl
    have ewh : I ((R (C + 16) (Y 20 (g i.toNatClampNeg).toNatClampNeg).toNatClampNeg) + 1) ((Y 21 (g i.toNatClampNeg).toNatClampNeg).toNatClampNeg + x.toNatClampNeg) = g i.toNatClampNeg := by
      have := (who x q0 (by rw [e10]; exact w)).1
      unfold whC at this
      rw [eB2, es] at this
      exact this
    refine cp_settle kb hT hsh ?_
    rw [eB2, eB3, est, es]
    have hg := ih hx4.2 (a_ui (a_ui J ((R (C + 16) (Y 20 (g i.toNatClampNeg).toNatClampNeg).toNatClampNeg) + 1) ((Y 21 (g i.toNatClampNeg).toNatClampNeg).toNatClampNeg + x.toNatClampNeg) (g i.toNatClampNeg)) ((R (C + 16) (Y 20 (g i.toNatClampNeg).toNatClampNeg).toNatClampNeg) + 2) ((Y 21 (g i.toNatClampNeg).toNatClampNeg).toNatClampNeg + x.toNatClampNeg) (I ((R (C + 16) (Y 20 (g i.toNatClampNeg).toNatClampNeg).toNatClampNeg) + 2) ((Y 21 (g i.toNatClampNeg).toNatClampNeg).toNatClampNeg + x.toNatClampNeg))) t2 t3 (dL_arr (dL_arr (dL_refl hT) w1 w2) s1 s2).1 (fun y j n1 n2 n3 n4 => by
      rw [t4] at n4
      by_cases c2 : y = (R (C + 16) (Y 20 (g i.toNatClampNeg).toNatClampNeg).toNatClampNeg) + 2 ∧ j = (Y 21 (g i.toNatClampNeg).toNatClampNeg).toNatClampNeg + x.toNatClampNeg
      · rw [ui_ap, if_pos c2, c2.1, c2.2]
      · rw [ui_ap, if_neg c2]
        by_cases c1 : y = (R (C + 16) (Y 20 (g i.toNatClampNeg).toNatClampNeg).toNatClampNeg) + 1 ∧ j = (Y 21 (g i.toNatClampNeg).toNatClampNeg).toNatClampNeg + x.toNatClampNeg
        · rw [ui_ap, if_pos c1, c1.1, c1.2]
          exact ewh.symm
        · rw [ui_ap, if_neg c1]
          exact hJ y j n1 n2 n3 (by omega))
    clear ih hP hJ hexit hc tp kv hv who
    simp only [q155_85, q155_88, as_nil, as_i, as_r, Nat.reduceAdd, Nat.reduceLeDiff, z_eq0, z_eq1, z_or, z_em, Classical.not_not, not_false_eq_true, not_true_eq_false, true_and, and_true, false_and, and_false, and_self, true_implies, false_implies, implies_true, Option.toList_some, Option.toList_none, List.cons_append, List.nil_append, Nat.add_eq_zero_iff, a_nl_i, a_nl_r, a_nl_n, true_or, or_true, eq_self, a_isRA_22, a_isRA_24, a_isRA_32, a_isA_20, ok_4, ok_5, ok_6, ok_7, ok_9, ok_20, ok_21, ok_30, ok_50, ok_180, ok_192, ok_200]
    exact hg
  clear ih hP hJ hc tp kv hv who hq
  rw [q155_44]
  simp only [q155_46, q155_47, q155_50, q155_53, q155_54, k_35 hS, z_35, as_nil, as_i, as_r, Nat.reduceAdd, Nat.reduceLeDiff, z_eq0, z_eq1, z_or, z_em, Classical.not_not, not_false_eq_true, not_true_eq_false, true_and, and_true, false_and, and_false, and_self, true_implies, false_implies, implies_true, Option.toList_some, Option.toList_none, List.cons_append, List.nil_append, Nat.add_eq_zero_iff, a_nl_i, a_nl_r, a_nl_n, true_or, or_true, eq_self, a_isRA_22, a_isRA_24, a_isRA_32, a_isA_20, ok_4, ok_5, ok_6, ok_7, ok_9, ok_20, ok_21, ok_30, ok_50, ok_180, ok_192, ok_200, ha, an0, f2, kb, kb0]
  refine ⟨fun h => ?_, fun h => ?_⟩
  · have := hexit (Int32.not_lt.mpr h)
    simp only [q155_91, as_nil, as_i, as_r, Nat.reduceAdd, Nat.reduceLeDiff, z_eq0, z_eq1, z_or, z_em, Classical.not_not, not_false_eq_true, not_true_eq_false, true_and, and_true, false_and, and_false, and_self, true_implies, false_implies, implies_true, Option.toList_some, Option.toList_none, List.cons_append, List.nil_append, Nat.add_eq_zero_iff, a_nl_i, a_nl_r, a_nl_n, true_or, or_true, eq_self, a_isRA_22, a_isRA_24, a_isRA_32, a_isA_20, ok_4, ok_5, ok_6, ok_7, ok_9, ok_20, ok_21, ok_30, ok_50, ok_180, ok_192, ok_200]
    exact this
  · have h := Int32.not_le.mp h
    have h20 := ix4 hi ⟨q0, Int32.lt_of_lt_of_le h pl.2⟩
    have hgo := hgo h
    simp only [q155_57, q155_58, q155_59, q155_62, q155_63, q155_64, q155_66, q155_67, q155_68, q155_71, q155_72, q155_75, q155_76, q155_77, q155_78, q155_80, q155_81, q155_82, k_35 hS, z_35, r_35_5 hS, k_40 hS, l_40 hS, z_40, r_35_6 hS, k_41 hS, l_41 hS, z_41, as_nil, as_i, as_r, Nat.reduceAdd, Nat.reduceLeDiff, z_eq0, z_eq1, z_or, z_em, Classical.not_not, not_false_eq_true, not_true_eq_false, true_and, and_true, false_and, and_false, and_self, true_implies, false_implies, implies_true, Option.toList_some, Option.toList_none, List.cons_append, List.nil_append, Nat.add_eq_zero_iff, a_nl_i, a_nl_r, a_nl_n, true_or, or_true, eq_self, a_isRA_22, a_isRA_24, a_isRA_32, a_isA_20, ok_4, ok_5, ok_6, ok_7, ok_9, ok_20, ok_21, ok_30, ok_50, ok_180, ok_192, ok_200, ha, an0, f4, f40, kb, kb0]
    try simp only [true_and, and_true, true_implies, false_implies, implies_true, not_true_eq_false, not_false_eq_true]
    first
      | exact ⟨hi, h20, hgo⟩
      | exact ⟨hi, h20.1, h20.2, hgo⟩
theorem cx_restore (hT0 : cT C K L I R) (hc : cpP C K L I R Y) (hse : seP C R Y) (tp : tuP C R Y m g) (kv : ∀ k, k < m → (I (C + 39) k = Y 20 (g k).toNatClampNeg ∧ I (C + 40) k = (Y 21 (g k).toNatClampNeg)) ∧ ∀ y, y < (Y 10 (g 0).toNatClampNeg).toNatClampNeg → I (C + 41) (4 * k + y) = I ((R (C + 16) (Y 20 (g k).toNatClampNeg).toNatClampNeg) + 2) ((Y 21 (g k).toNatClampNeg).toNatClampNeg + y)) {i : Int32} (hi : 0 ≤ i ∧ i < 5) (him : i.toNatClampNeg < m) (hT : cT C K L J R) (hq : qF C R Y g i.toNatClampNeg m I J) (hP : ∀ J, cT C K L J R → qF C R Y g (i.toNatClampNeg + 1) m I J → P none (n, t, K, L, J, R)) : a_does (d + 3) 155 [a_rf (C + 35), .int i] (n, t, K, L, J, R) P := by
  have hS := hT.s
  have gA := hT.g_asksR
  have gB := hT.g_benchesR
  have gX := hT.g_textsR
  obtain ⟨⟨pa, p6⟩, ⟨p21, p199⟩, psl, pl, e10⟩ := tp_pl hc tp him
  obtain ⟨⟨kb, kb0⟩, -⟩ := tp_B hT0 hc hse tp him
  obtain ⟨⟨a0, a1⟩, -, er⟩ := tp.1 _ him
  obtain ⟨ai, ⟨ha, an0, a4n⟩, am, al⟩ := aa_of hc a0 a1
  have hx96 := (hT0.g_ask _ ha).1
  have hv := kv _ him
  have f2 : J (R (C + 15) (g i.toNatClampNeg).toNatClampNeg) 2 = (Y 10 (g 0).toNatClampNeg) := by rw [qF_a hT0 hc hse tp hq ha (by decide), al.1.2.2.1, e10]
  have f39 : J (C + 39) i.toNatClampNeg = Y 20 (g i.toNatClampNeg).toNatClampNeg := by rw [qF_c hT0 hc hse tp hq (k := 39) (by omega)]; exact hv.1.1
  have f40 : J (C + 40) i.toNatClampNeg = (Y 21 (g i.toNatClampNeg).toNatClampNeg) := by rw [qF_c hT0 hc hse tp hq (k := 40) (by omega)]; exact hv.1.2
  have e5 : J (C + 14) 5 = Y 0 6 := by rw [qF_c hT0 hc hse tp hq (k := 14) (by omega)]; exact hc.2.1.1
  have b6 : Y 20 (g i.toNatClampNeg).toNatClampNeg < 6 := Int32.lt_of_lt_of_le p6 hc.2.2.2.2.2.2.2.2.2.1.2
  have hbc : 0 ≤ Y 20 (g i.toNatClampNeg).toNatClampNeg ∧ Y 20 (g i.toNatClampNeg).toNatClampNeg < Y 0 6 ∧ Y 20 (g i.toNatClampNeg).toNatClampNeg < 6 := ⟨pa, p6, b6⟩
  have hT2 : cT C K L (a_ui (a_ui J (R (C + 15) (g i.toNatClampNeg).toNatClampNeg) 13 (Y 20 (g i.toNatClampNeg).toNatClampNeg)) (R (C + 15) (g i.toNatClampNeg).toNatClampNeg) 14 (Y 21 (g i.toNatClampNeg).toNatClampNeg)) R := (dL_place (dL_refl hT) hx96 ha (fun _ => ⟨p21, p199, by rw [f2]; exact psl⟩)).1
  have n39 : ((R (C + 15) (g i.toNatClampNeg).toNatClampNeg) = C + 39) = False := eq_false (by omega)
  have n40 : ((R (C + 15) (g i.toNatClampNeg).toNatClampNeg) = C + 40) = False := eq_false (by omega)
  have m39 : (C + 39 = (R (C + 15) (g i.toNatClampNeg).toNatClampNeg)) = False := eq_false (by omega)
  have m40 : (C + 40 = (R (C + 15) (g i.toNatClampNeg).toNatClampNeg)) = False := eq_false (by omega)
  have n14 : (C + 14 = (R (C + 15) (g i.toNatClampNeg).toNatClampNeg)) = False := eq_false (by omega)
  have hg := le_restore_44 (d := d + 1) (n := n) (t := t) (P := P) hT0 hc hse tp kv hi him hP 0 (by decide) (a_ui (a_ui J (R (C + 15) (g i.toNatClampNeg).toNatClampNeg) 13 (Y 20 (g i.toNatClampNeg).toNatClampNeg)) (R (C + 15) (g i.toNatClampNeg).toNatClampNeg) 14 (Y 21 (g i.toNatClampNeg).toNatClampNeg)) (by decide) (Int32.le_trans (by decide) pl.1) hT2 (fun y j n1 n2 n3 n4 => by
    by_cases c14 : y = (R (C + 15) (g i.toNatClampNeg).toNatClampNeg) ∧ j = 14
    · rw [ui_ap, if_pos c14, c14.1, c14.2]
      exact al.2.2.2.1.2.symm
    · rw [ui_ap, if_neg c14]
      by_cases c13 : y = (R (C + 15) (g i.toNatClampNeg).toNatClampNeg) ∧ j = 13
      · rw [ui_ap, if_pos c13, c13.1, c13.2]
        exact al.2.2.2.1.1.symm
      · rw [ui_ap, if_neg c13]
        refine hq y j n1 n2 (fun k k1 k2 => ?_)
        by_cases e : k = i.toNatClampNeg
        · rw [e]
          rintro (w | w)
          · exact n4 ⟨w.1, by rw [show (0 : Int32).toNatClampNeg = 0 from rfl]; omega, w.2.2⟩
          · omega
        · exact n3 k (by omega) k2)
  clear hP hc tp kv hv hq al am
  rw [a_enter1 (M := a_m155) rfl (a_cat_rf (a_cat_int a_cat_nil)) (show 2 ≤ 5 by decide)]
  show a_at _ (a_xm a_m155) 0 [some (a_rf (C + 35)), some (.int i), none, none, none] [] _ _
  simp only [q155_0, q155_1, q155_4, q155_5, q155_6, q155_7, q155_8, q155_11, q155_12, q155_15, q155_16, q155_17, q155_20, q155_21, q155_22, q155_23, q155_26, q155_27, q155_28, q155_31, q155_32, q155_33, q155_36, q155_37, q155_38, q155_41, q155_42, k_35 hS, z_35, r_35_3 hS, k_38 hS, l_38 hS, z_38, r_35_0 hS, k_14 hS, z_14, r_35_4 hS, k_39 hS, l_39 hS, z_39, r_35_5 hS, k_40 hS, l_40 hS, z_40, sp_benchAt hS gB, as_nil, as_i, as_r, Nat.reduceAdd, Nat.reduceLeDiff, z_eq0, z_eq1, z_or, z_em, Classical.not_not, not_false_eq_true, not_true_eq_false, true_and, and_true, false_and, and_false, and_self, true_implies, false_implies, implies_true, Option.toList_some, Option.toList_none, List.cons_append, List.nil_append, Nat.add_eq_zero_iff, a_nl_i, a_nl_r, a_nl_n, true_or, or_true, eq_self, a_isRA_22, a_isRA_24, a_isRA_32, a_isA_20, ok_4, ok_5, ok_6, ok_7, ok_9, ok_20, ok_21, ok_30, ok_50, ok_180, ok_192, ok_200, ui_ap, cc_ne, cc_n0, cc_0n, Nat.reduceEqDiff, reduceIte, if_true, if_false, er, ha, an0, f39, f40, e5, hbc, kb, kb0, hi, n39, n40, m39, m40, n14]
  try simp only [true_and, and_true, true_implies, false_implies, implies_true, not_true_eq_false, not_false_eq_true]
  first
    | exact hg
    | exact ⟨hi, hg⟩
theorem le_turn_back_168 (hT0 : cT C K L I R) (hc : cpP C K L I R Y) (hse : seP C R Y) (tp : tuP C R Y m g) {z : Int32} (ez : z.toNatClampNeg = m) (hz : 1 ≤ z ∧ z ≤ 5) (es : I (C + 35) 7 = z) (kv : ∀ k, k < m → (I (C + 39) k = Y 20 (g k).toNatClampNeg ∧ I (C + 40) k = (Y 21 (g k).toNatClampNeg)) ∧ ∀ y, y < (Y 10 (g 0).toNatClampNeg).toNatClampNeg → I (C + 41) (4 * k + y) = I ((R (C + 16) (Y 20 (g k).toNatClampNeg).toNatClampNeg) + 2) ((Y 21 (g k).toNatClampNeg).toNatClampNeg + y)) {o : Int32} (hP : ∀ J, cT C K L J R → qF C R Y g m m I J → P (some (.int (if o = z then 1 else 0))) (n, t, K, L, J, R)) : ∀ i : Int32, i ≤ 5 → ∀ J w q r, 0 ≤ i → i ≤ z → cT C K L J R → qF C R Y g i.toNatClampNeg m I J → a_at (d + 5) (a_xm a_m153) 168 [some (a_rf (C + 35)), some (.int o), some (.int i), w, q, r] [] (n, t, K, L, J, R) P := by
  refine up_ind 5 (fun i hk ih => ?_)
  intro J w q r q0 q1 hT hq
  have hS := hT.s
  have e7 : J (C + 35) 7 = z := (qF_c hT0 hc hse tp hq (k := 35) (by omega) 7).trans es
  rw [q153_168]
  by_cases c : z ≤ i
  · have e : i = z := by clear hP ih; grind
    have hp := hP J hT (by rw [e, ez] at hq; exact hq)
    clear hP ih hc
    by_cases ce : o = z
    · rw [if_pos ce] at hp
      simp only [q153_169, q153_170, q153_173, q153_187, q153_188, q153_189, q153_192, q153_195, q153_196, q153_199, q153_200, k_35 hS, z_35, as_nil, as_i, as_r, Nat.reduceAdd, Nat.reduceLeDiff, z_eq0, z_eq1, z_or, z_em, Classical.not_not, not_false_eq_true, not_true_eq_false, true_and, and_true, false_and, and_false, and_self, true_implies, false_implies, implies_true, Option.toList_some, Option.toList_none, List.cons_append, List.nil_append, Nat.add_eq_zero_iff, a_nl_i, a_nl_r, a_nl_n, true_or, or_true, eq_self, a_isRA_22, a_isRA_24, a_isRA_32, a_isA_20, ok_4, ok_5, ok_6, ok_7, ok_9, ok_20, ok_21, ok_30, ok_50, ok_180, ok_192, ok_200, e7, ce]
      refine ⟨fun _ => ?_, fun h => absurd c h⟩
      try simp only [true_and, and_true, true_implies, false_implies, implies_true, not_true_eq_false, not_false_eq_true]
      first
        | exact hp
        | exact ⟨fun h => absurd rfl h, fun _ => ⟨by decide, hp⟩⟩
        | grind
    · rw [if_neg ce] at hp
      simp only [q153_169, q153_170, q153_173, q153_187, q153_188, q153_189, q153_192, q153_195, q153_196, q153_199, q153_200, k_35 hS, z_35, as_nil, as_i, as_r, Nat.reduceAdd, Nat.reduceLeDiff, z_eq0, z_eq1, z_or, z_em, Classical.not_not, not_false_eq_true, not_true_eq_false, true_and, and_true, false_and, and_false, and_self, true_implies, false_implies, implies_true, Option.toList_some, Option.toList_none, List.cons_append, List.nil_append, Nat.add_eq_zero_iff, a_nl_i, a_nl_r, a_nl_n, true_or, or_true, eq_self, a_isRA_22, a_isRA_24, a_isRA_32, a_isA_20, ok_4, ok_5, ok_6, ok_7, ok_9, ok_20, ok_21, ok_30, ok_50, ok_180, ok_192, ok_200, e7, ce]
      refine ⟨fun _ => ?_, fun h => absurd c h⟩
      try simp only [true_and, and_true, true_implies, false_implies, implies_true, not_true_eq_false, not_false_eq_true]
      first
        | exact hp
        | exact ⟨by decide, hp⟩
        | grind
  · have h1 := Int32.not_le.mp c
    have hi : 0 ≤ i ∧ i < 5 := ⟨q0, Int32.lt_of_lt_of_le h1 hz.2⟩
    have him : i.toNatClampNeg < m := by rw [← ez]; exact cl_lt q0 h1
    obtain ⟨t1, t2, t3, t4⟩ := lp_st q0 h1
    have hcall := cx_restore (d := d + 2) (n := n) (t := t) hT0 hc hse tp kv hi him hT hq (P := fun r' h' => a_at (d + 5) (a_xm a_m153) 181 [some (a_rf (C + 35)), some (.int o), some (.int i), w, q, r] (r'.toList ++ []) h' P) (fun J2 T2 h2 => by
      have hg := ih hi.2 J2 w q r t2 t3 T2 (by rw [t4]; exact h2)
      clear ih hP hc
      simp only [q153_181, q153_184, as_nil, as_i, as_r, Nat.reduceAdd, Nat.reduceLeDiff, z_eq0, z_eq1, z_or, z_em, Classical.not_not, not_false_eq_true, not_true_eq_false, true_and, and_true, false_and, and_false, and_self, true_implies, false_implies, implies_true, Option.toList_some, Option.toList_none, List.cons_append, List.nil_append, Nat.add_eq_zero_iff, a_nl_i, a_nl_r, a_nl_n, true_or, or_true, eq_self, a_isRA_22, a_isRA_24, a_isRA_32, a_isA_20, ok_4, ok_5, ok_6, ok_7, ok_9, ok_20, ok_21, ok_30, ok_50, ok_180, ok_192, ok_200]
      exact hg)
    clear ih hP hc
    simp only [q153_169, q153_170, q153_173, q153_176, q153_177, q153_178, k_35 hS, z_35, as_nil, as_i, as_r, Nat.reduceAdd, Nat.reduceLeDiff, z_eq0, z_eq1, z_or, z_em, Classical.not_not, not_false_eq_true, not_true_eq_false, true_and, and_true, false_and, and_false, and_self, true_implies, false_implies, implies_true, Option.toList_some, Option.toList_none, List.cons_append, List.nil_append, Nat.add_eq_zero_iff, a_nl_i, a_nl_r, a_nl_n, true_or, or_true, eq_self, a_isRA_22, a_isRA_24, a_isRA_32, a_isA_20, ok_4, ok_5, ok_6, ok_7, ok_9, ok_20, ok_21, ok_30, ok_50, ok_180, ok_192, ok_200, e7]
    exact ⟨fun h => absurd h c, fun _ => hcall⟩
theorem ce_canTurn (hT : cT C K L I R) (hc : cpP C K L I R Y) (hse : seP C R Y) (tp : tuP C R Y m g) {z : Int32} (ez : z.toNatClampNeg = m) (hz : 1 ≤ z ∧ z ≤ 5) (es : I (C + 35) 7 = z) (hsu : ∀ k, k < m → suB Y (g k) (Y 20 (g (nxN m k)).toNatClampNeg) (Y 21 (g (nxN m k)).toNatClampNeg) = true) (hP : ∀ (v : Int32) J, cT C K L J R → (∀ x j, ¬ x = C + 9 → ¬ x = C + 10 → ¬ x = C + 39 → ¬ x = C + 40 → ¬ x = C + 41 → J x j = I x j) → (v = 0 ∨ v = 1) → (v = 1 ↔ ∀ k, k < m → rgF Y m g k) → P (some (.int v)) (n, t, K, L, J, R)) : a_does (d + 6) 153 [a_rf (C + 35)] (n, t, K, L, I, R) P := by
  have hS := hT.s
  have hz0 : 0 ≤ z ∧ z ≤ 5 := ⟨Int32.le_trans (by decide) hz.1, hz.2⟩
  have hmain := ce_keep (d := d + 3) (n := n) (t := t) hT hc hse tp ez hz0 es (P := fun r' h' => a_at (d + 5) (a_xm a_m153) 4 [some (a_rf (C + 35)), none, none, none, none, none] (r'.toList ++ []) h' P) (fun J1 T1 k1 => by
    have hS1 := T1.s
    have fr := k1.1
    have hc1 : cpP C K L J1 R Y := cp_fr hT hc (fun k j hk => fr _ _ (by omega) (by omega) (by omega)) (fun x j kx => by
      have := (hT.g_ask x kx).1
      exact fr _ _ (by omega) (by omega) (by omega)) (fun x j kx _ => by
      have := (hT.g_bnc x kx).1
      exact fr _ _ (by omega) (by omega) (by omega)) (fun x j kx => by
      have := (hT.g_txt x kx).1
      exact fr _ _ (by omega) (by omega) (by omega)) (fun k k0 k1 j => by
      have := (hT.g_txt _ (hc.2.2.2.1.2 k k0 k1).1).2.1
      exact fr _ _ (by omega) (by omega) (by omega)) (fun b b0 b1 j => by
      obtain ⟨-, ⟨w1, -⟩, ⟨s1, -⟩, -⟩ := hT.g_bnc _ (hc.2.1.2.2.1 b b0 b1).1
      exact ⟨fr _ _ (by omega) (by omega) (by omega), fr _ _ (by omega) (by omega) (by omega)⟩)
    have es1 : J1 (C + 35) 7 = z := (fr _ _ (by omega) (by omega) (by omega)).trans es
    have kv1 : ∀ k, k < m → (J1 (C + 39) k = Y 20 (g k).toNatClampNeg ∧ J1 (C + 40) k = (Y 21 (g k).toNatClampNeg)) ∧ ∀ y, y < (Y 10 (g 0).toNatClampNeg).toNatClampNeg → J1 (C + 41) (4 * k + y) = J1 ((R (C + 16) (Y 20 (g k).toNatClampNeg).toNatClampNeg) + 2) ((Y 21 (g k).toNatClampNeg).toNatClampNeg + y) := fun k hk => ⟨k1.2.1 k hk, fun y hy => by
      have := tp_B hT hc hse tp hk
      rw [fr ((R (C + 16) (Y 20 (g k).toNatClampNeg).toNatClampNeg) + 2) _ (by omega) (by omega) (by omega)]
      exact k1.2.2 k y hk hy (Or.inr hy)⟩
    have hback : ∀ J (o : Int32), cT C K L J R → qF C R Y g 0 m J1 J → (o = z ↔ ∀ k, k < m → rgF Y m g k) → ∀ v w q r, a_at (d + 5) (a_xm a_m153) 166 [some (a_rf (C + 35)), some (.int o), v, w, q, r] [] (n, t, K, L, J, R) P := fun J o hTJ hqJ ho v w q r => by
      have hSJ := hTJ.s
      have hg := le_turn_back_168 (d := d) (n := n) (t := t) (P := P) (o := o) T1 hc1 hse tp ez hz es1 kv1 (fun J4 T4 h4 => by
        refine hP _ J4 T4 (fun x j n1 n2 n3 n4 n5 => (h4 x j n1 n2 (fun k q1 q2 => by omega)).trans (fr x j n3 n4 n5)) ?_ ?_
        · split
          · exact Or.inr rfl
          · exact Or.inl rfl
        · rw [← ho]
          split
          · exact ⟨fun _ => by assumption, fun _ => rfl⟩
          · exact ⟨fun e => absurd e (by decide), fun e => absurd e (by assumption)⟩) 0 (by decide) J w q r (by decide) hz0.1 hTJ hqJ
      clear hP hc hc1 fr k1
      simp only [q153_166, q153_167, as_nil, as_i, as_r, Nat.reduceAdd, Nat.reduceLeDiff, z_eq0, z_eq1, z_or, z_em, Classical.not_not, not_false_eq_true, not_true_eq_false, true_and, and_true, false_and, and_false, and_self, true_implies, false_implies, implies_true, Option.toList_some, Option.toList_none, List.cons_append, List.nil_append, Nat.add_eq_zero_iff, a_nl_i, a_nl_r, a_nl_n, true_or, or_true, eq_self, a_isRA_22, a_isRA_24, a_isRA_32, a_isA_20, ok_4, ok_5, ok_6, ok_7, ok_9, ok_20, ok_21, ok_30, ok_50, ok_180, ok_192, ok_200]
      exact hg
    have hl := le_turn_lift_6 (d := d) (n := n) (t := t) (P := P) T1 hc1 hse tp ez hz es1 (fun J2 T2 c2 q2 u v w q r => by
      have hS2 := T2.s
      have hg := le_turn_lay_37 (d := d) (n := n) (t := t) (P := P) T1 hc1 hse tp ez hz es1 kv1 hsu hback 0 (by decide) J2 w q r (by decide) hz0.1 T2 c2 q2 (fun k hk => absurd hk (Nat.not_lt_zero k))
      clear hP hc hc1 fr k1 hback
      simp only [q153_33, q153_34, q153_35, q153_36, as_nil, as_i, as_r, Nat.reduceAdd, Nat.reduceLeDiff, z_eq0, z_eq1, z_or, z_em, Classical.not_not, not_false_eq_true, not_true_eq_false, true_and, and_true, false_and, and_false, and_self, true_implies, false_implies, implies_true, Option.toList_some, Option.toList_none, List.cons_append, List.nil_append, Nat.add_eq_zero_iff, a_nl_i, a_nl_r, a_nl_n, true_or, or_true, eq_self, a_isRA_22, a_isRA_24, a_isRA_32, a_isA_20, ok_4, ok_5, ok_6, ok_7, ok_9, ok_20, ok_21, ok_30, ok_50, ok_180, ok_192, ok_200]
      exact hg) 0 (by decide) J1 none none none none (by decide) hz0.1 T1 hc1 (fun _ _ _ _ _ => rfl)
    clear hP hc hc1 fr k1 hback
    simp only [q153_4, q153_5, as_nil, as_i, as_r, Nat.reduceAdd, Nat.reduceLeDiff, z_eq0, z_eq1, z_or, z_em, Classical.not_not, not_false_eq_true, not_true_eq_false, true_and, and_true, false_and, and_false, and_self, true_implies, false_implies, implies_true, Option.toList_some, Option.toList_none, List.cons_append, List.nil_append, Nat.add_eq_zero_iff, a_nl_i, a_nl_r, a_nl_n, true_or, or_true, eq_self, a_isRA_22, a_isRA_24, a_isRA_32, a_isA_20, ok_4, ok_5, ok_6, ok_7, ok_9, ok_20, ok_21, ok_30, ok_50, ok_180, ok_192, ok_200]
    exact hl)
  clear hP hc
  rw [a_enter1 (M := a_m153) rfl (a_cat_rf a_cat_nil) (show 1 ≤ 6 by decide)]
  show a_at _ (a_xm a_m153) 0 [some (a_rf (C + 35)), none, none, none, none, none] [] _ _
  simp only [q153_0, q153_1, k_35 hS, z_35, as_nil, as_i, as_r, Nat.reduceAdd, Nat.reduceLeDiff, z_eq0, z_eq1, z_or, z_em, Classical.not_not, not_false_eq_true, not_true_eq_false, true_and, and_true, false_and, and_false, and_self, true_implies, false_implies, implies_true, Option.toList_some, Option.toList_none, List.cons_append, List.nil_append, Nat.add_eq_zero_iff, a_nl_i, a_nl_r, a_nl_n, true_or, or_true, eq_self, a_isRA_22, a_isRA_24, a_isRA_32, a_isA_20, ok_4, ok_5, ok_6, ok_7, ok_9, ok_20, ok_21, ok_30, ok_50, ok_180, ok_192, ok_200]
  exact hmain
end ZV0
end
section
/-! the class: which wishes are sound -/
section ZW0
variable {d n t C c : Nat} {K L : Nat → Nat} {I I0 J J0 J1 J2 : Nat → Nat → Int32} {R : Nat → Nat → Nat} {P : Option Value → AH → Prop}
variable {Y Z W : Nat → Nat → Int32} {m : Nat} {g : Nat → Int32}
/-- has a place that isn't begun -/
def mvY (Y : Nat → Nat → Int32) (o : Int32) : Prop := 0 ≤ Y 20 o.toNatClampNeg ∧ ¬ Y 21 o.toNatClampNeg * 8 < Y 0 0
/-- a wish that could come true as far as others don't count -/
def swP (Y : Nat → Nat → Int32) (i o : Int32) : Prop := ¬ Y 47 (30 * i.toNatClampNeg + o.toNatClampNeg) = 0 ∧ mvY Y o ∧ Y 10 o.toNatClampNeg = Y 10 i.toNatClampNeg ∧ suB Y i (Y 20 o.toNatClampNeg) (Y 21 o.toNatClampNeg) = true
theorem ft_su {a b s : Int32} : ∀ (k : Nat) (x : Int32), ftI Y a b s k x = 0 → suI Y a b s k x = true := by
  intro k
  induction k with
  | zero => intro x _; rfl
  | succ k ih =>
    intro x h
    have g0 := brY_rng (Y := Y) (x := a) (b := b) (s := s + x) (f := s)
    have hb := br_0 (Y := Y) (a := a) (b := b) (s := s + x) (f := s)
    unfold ftI at h
    unfold suI
    by_cases c : 0 < brY Y a b (s + x) s
    · rw [if_pos c] at h
      rw [h] at c
      exact absurd c (by decide)
    · rw [if_neg c] at h
      obtain ⟨c1, c2, c3, c4, c5, c6⟩ := hb.mp (by clear hb ih h; grind)
      rw [if_pos ⟨c1, c3, c6⟩]
      exact ih _ h
theorem rgA_su (r : rgA Y m g) {k : Nat} (hk : k < m) : suB Y (g k) (Y 20 (g (nxN m k)).toNatClampNeg) (Y 21 (g (nxN m k)).toNatClampNeg) = true := by
  have h := r.2 k hk
  have sW : ssE Y (rgP g m Y (rgU g Y m) k) := ss_tr (rgU_s m) (rgP_s _)
  unfold rgF ftY at h
  have h2 := ft_su _ _ h
  rw [← suB_b (ss_b sW)]
  exact h2
theorem ce_isIn {a b : Int32} {h : AH} (hb : 0 ≤ b ∧ b < 30) (hP : P (some (.int (if bq a b.toNatClampNeg = true then 1 else 0))) h) : a_does (d + 1) 130 [.int a, .int b] h P := by
  have w : b.toNatClampNeg < 30 := cl_lt hb.1 hb.2
  have e := bq_vi hb.1 (by omega) a
  rw [a_enter1 (M := a_m130) rfl (a_cat_int (a_cat_int a_cat_nil)) (show 2 ≤ 2 by decide)]
  show a_at _ (a_xm a_m130) 0 [some (.int a), some (.int b)] [] _ _
  by_cases c : bq a b.toNatClampNeg = true
  · rw [if_pos c] at e hP
    simp only [q130_0, q130_1, q130_4, q130_5, q130_7, q130_10, q130_11, q130_12, q130_13, q130_14, q130_15, q130_18, q130_19, q130_22, q130_23, as_nil, as_i, as_r, Nat.reduceAdd, Nat.reduceLeDiff, z_eq0, z_eq1, z_or, z_em, Classical.not_not, not_false_eq_true, not_true_eq_false, true_and, and_true, false_and, and_false, and_self, true_implies, false_implies, implies_true, Option.toList_some, Option.toList_none, List.cons_append, List.nil_append, Nat.add_eq_zero_iff, a_nl_i, a_nl_r, a_nl_n, true_or, or_true, eq_self, a_isRA_22, a_isRA_24, a_isRA_32, a_isA_20, ok_4, ok_5, ok_6, ok_7, ok_9, ok_20, ok_21, ok_30, ok_50, ok_180, ok_192, ok_200, e]
    try simp only [true_and, and_true, true_implies, false_implies, implies_true, not_true_eq_false, not_false_eq_true]
    grind
  · rw [if_neg c] at e hP
    simp only [q130_0, q130_1, q130_4, q130_5, q130_7, q130_10, q130_11, q130_12, q130_13, q130_14, q130_15, q130_18, q130_19, q130_22, q130_23, as_nil, as_i, as_r, Nat.reduceAdd, Nat.reduceLeDiff, z_eq0, z_eq1, z_or, z_em, Classical.not_not, not_false_eq_true, not_true_eq_false, true_and, and_true, false_and, and_false, and_self, true_implies, false_implies, implies_true, Option.toList_some, Option.toList_none, List.cons_append, List.nil_append, Nat.add_eq_zero_iff, a_nl_i, a_nl_r, a_nl_n, true_or, or_true, eq_self, a_isRA_22, a_isRA_24, a_isRA_32, a_isA_20, ok_4, ok_5, ok_6, ok_7, ok_9, ok_20, ok_21, ok_30, ok_50, ok_180, ok_192, ok_200, e]
    try simp only [true_and, and_true, true_implies, false_implies, implies_true, not_true_eq_false, not_false_eq_true]
    grind
theorem le_soundWishes_31 (hT0 : cT C K L I R) (hc : cpP C K L I R Y) (hw : ∀ a o : Nat, a < 30 → o < 30 → (bq (I (C + 36) a) o = true ↔ ¬ Y 47 (30 * a + o) = 0)) {q : Int32} (hq : 0 ≤ q ∧ q < Y 0 17) (hP : ∀ w J, dC C K L R I J → (∀ k, k < 32 → (bq w k = true ↔ k < (Y 0 17).toNatClampNeg ∧ swP Y q (Int32.ofNat k))) → P (some (.int w)) (n, t, K, L, J, R)) : ∀ i : Int32, i ≤ 30 → ∀ J w u, dC C K L R I J → 0 ≤ i → i ≤ Y 0 17 → (∀ k, k < 32 → (bq w k = true ↔ k < i.toNatClampNeg ∧ swP Y q (Int32.ofNat k))) → a_at (d + 5) (a_xm a_m151) 31 [some (a_rf (C + 35)), some (.int q), some (a_rf (R (C + 15) q.toNatClampNeg)), some (.int w), some (.int i), u] [] (n, t, K, L, J, R) P := by
  have hy := hc.2.2.2.2
  have y17 := hy.2.2.2.2.1
  refine up_ind 30 (fun i hk ih => ?_)
  intro J w u hJ h0 h1 hw2
  have hT := hJ.1
  have hS := hT.s
  have gA := hT.g_asksR
  have gB := hT.g_benchesR
  have gX := hT.g_textsR
  have hcJ := cpP_C hT0 hc hJ
  have apq := aa_of hcJ hq.1 hq.2
  obtain ⟨-, ⟨haq, aq0, -⟩, -, alq⟩ := id apq
  have e4 : J (C + 14) 4 = Y 0 17 := hcJ.2.2.1.1
  have e36 : J (C + 36) q.toNatClampNeg = I (C + 36) q.toNatClampNeg := hJ.2 _ _ (by omega) (by omega)
  have e16 : J (C + 1) 6 = Y 0 0 := hcJ.1.1
  have q30 : 0 ≤ q ∧ q < 30 := ⟨hq.1, Int32.lt_of_lt_of_le hq.2 y17.2⟩
  have qn : q.toNatClampNeg < 30 := cl_lt q30.1 q30.2
  have e2 : J (R (C + 15) q.toNatClampNeg) 2 = Y 10 q.toNatClampNeg := alq.1.2.2.1
  rw [q151_31]
  by_cases c : i < Y 0 17
  · obtain ⟨t1, t2, t3, t4⟩ := lp_st h0 c
    have hi30 : 0 ≤ i ∧ i < 30 := ⟨h0, Int32.lt_of_lt_of_le c y17.2⟩
    have hin : i.toNatClampNeg < 30 := cl_lt h0 hi30.2
    have ei : Int32.ofNat i.toNatClampNeg = i := (on_cl h0).symm
    have hia : 0 ≤ i ∧ i < Y 0 17 ∧ i < 30 := ⟨h0, c, hi30.2⟩
    obtain ⟨-, ⟨hai, ai0, -⟩, -, ali⟩ := aa_of hcJ h0 c
    have f2 : J (R (C + 15) i.toNatClampNeg) 2 = Y 10 i.toNatClampNeg := ali.1.2.2.1
    have f13 : J (R (C + 15) i.toNatClampNeg) 13 = Y 20 i.toNatClampNeg := ali.2.2.2.1.1
    have f14 : J (R (C + 15) i.toNatClampNeg) 14 = Y 21 i.toNatClampNeg := ali.2.2.2.1.2
    have hskip : ¬ swP Y q i → ∀ J u, dC C K L R I J → a_at (d + 5) (a_xm a_m151) 125 [some (a_rf (C + 35)), some (.int q), some (a_rf (R (C + 15) q.toNatClampNeg)), some (.int w), some (.int i), u] [] (n, t, K, L, J, R) P := fun hn J u hJ => by
      have hS := hJ.1.s
      have hg := ih hi30.2 J w u hJ t2 t3 (fun k hk => by
        rw [hw2 k hk, t4]
        refine ⟨fun r => ⟨by omega, r.2⟩, fun r => ⟨?_, r.2⟩⟩
        by_cases e : k = i.toNatClampNeg
        · rw [e, ei] at r
          exact absurd r.2 hn
        · omega)
      clear ih hP hc hcJ hw2
      simp only [q151_125, q151_128, as_nil, as_i, as_r, Nat.reduceAdd, Nat.reduceLeDiff, z_eq0, z_eq1, z_or, z_em, Classical.not_not, not_false_eq_true, not_true_eq_false, true_and, and_true, false_and, and_false, and_self, true_implies, false_implies, implies_true, Option.toList_some, Option.toList_none, List.cons_append, List.nil_append, Nat.add_eq_zero_iff, a_nl_i, a_nl_r, a_nl_n, true_or, or_true, eq_self, a_isRA_22, a_isRA_24, a_isRA_32, a_isA_20, ok_4, ok_5, ok_6, ok_7, ok_9, ok_20, ok_21, ok_30, ok_50, ok_180, ok_192, ok_200]
      exact hg
    have hset : swP Y q i → ∀ J u, dC C K L R I J → a_at (d + 5) (a_xm a_m151) 118 [some (a_rf (C + 35)), some (.int q), some (a_rf (R (C + 15) q.toNatClampNeg)), some (.int w), some (.int i), u] [] (n, t, K, L, J, R) P := fun hn J u hJ => by
      have hS := hJ.1.s
      have hg := ih hi30.2 J (w ||| ((1 : Int32) <<< (i &&& 31))) u hJ t2 t3 (fun k hk => by
        have hset := bq_set (k := i.toNatClampNeg) (i := k) (by omega) hk w
        rw [ei] at hset
        rw [hset, t4, Bool.or_eq_true, hw2 k hk]
        refine ⟨fun r => ?_, fun r => ?_⟩
        · rcases r with r | r
          · exact ⟨by omega, r.2⟩
          · have r := of_decide_eq_true r
            rw [r, ei]
            exact ⟨by omega, hn⟩
        · by_cases e : k = i.toNatClampNeg
          · exact Or.inr (decide_eq_true e)
          · exact Or.inl ⟨by omega, r.2⟩)
      clear ih hP hc hcJ hw2
      simp only [q151_118, q151_119, q151_120, q151_122, q151_123, q151_124, q151_125, q151_128, as_nil, as_i, as_r, Nat.reduceAdd, Nat.reduceLeDiff, z_eq0, z_eq1, z_or, z_em, Classical.not_not, not_false_eq_true, not_true_eq_false, true_and, and_true, false_and, and_false, and_self, true_implies, false_implies, implies_true, Option.toList_some, Option.toList_none, List.cons_append, List.nil_append, Nat.add_eq_zero_iff, a_nl_i, a_nl_r, a_nl_n, true_or, or_true, eq_self, a_isRA_22, a_isRA_24, a_isRA_32, a_isA_20, ok_4, ok_5, ok_6, ok_7, ok_9, ok_20, ok_21, ok_30, ok_50, ok_180, ok_192, ok_200]
      exact hg
    have hbq := hw q.toNatClampNeg i.toNatClampNeg qn hin
    have nc : ¬ Y 0 17 ≤ i := Int32.not_le.mpr c
    simp only [q151_33, q151_34, q151_37, q151_40, q151_43, q151_44, q151_47, q151_49, q151_52, q151_54, q151_56, q151_59, q151_60, q151_63, q151_64, q151_65, q151_67, k_35 hS, z_35, r_35_0 hS, k_14 hS, z_14, r_35_1 hS, k_36 hS, l_36 hS, z_36, sp_askAt hS gA, as_nil, as_i, as_r, Nat.reduceAdd, Nat.reduceLeDiff, z_eq0, z_eq1, z_or, z_em, Classical.not_not, not_false_eq_true, not_true_eq_false, true_and, and_true, false_and, and_false, and_self, true_implies, false_implies, implies_true, Option.toList_some, Option.toList_none, List.cons_append, List.nil_append, Nat.add_eq_zero_iff, a_nl_i, a_nl_r, a_nl_n, true_or, or_true, eq_self, a_isRA_22, a_isRA_24, a_isRA_32, a_isA_20, ok_4, ok_5, ok_6, ok_7, ok_9, ok_20, ok_21, ok_30, ok_50, ok_180, ok_192, ok_200, e4, hia, hai, ai0, e36, nc, q30]
    try simp only [true_and, and_true, true_implies, false_implies, implies_true, not_true_eq_false, not_false_eq_true]
    refine ce_isIn (d := d + 4) hi30 ?_
    by_cases c1 : bq (I (C + 36) q.toNatClampNeg) i.toNatClampNeg = true
    · rw [if_pos c1]
      by_cases c2 : 0 ≤ Y 20 i.toNatClampNeg ∧ ¬ Y 21 i.toNatClampNeg * 8 < Y 0 0
      · by_cases c3 : Y 10 i.toNatClampNeg = Y 10 q.toNatClampNeg
        · have hpl := hcJ.2.1.2.2.2.1 i h0 c c2.1
          obtain ⟨⟨p21, p200, psl⟩, -⟩ := hy.2.2.2.2.2.2.1 _ hin c2.1
          have l1 := hy.2.2.1 i h0 c
          have hs : 0 ≤ Y 21 i.toNatClampNeg ∧ Y 21 i.toNatClampNeg ≤ 199 := ⟨p21, by
            have l4 := (hy.2.1 i.toNatClampNeg).2
            clear ih hP hc hcJ hw2 hskip hset hpl hy hw hbq ali alq apq
            grind⟩
          have hsu := ce_suits (d := d + 1) (n := n) (t := t) hT hcJ apq (b := Y 20 i.toNatClampNeg) (s := Y 21 i.toNatClampNeg) ⟨c2.1, hpl.1⟩ hs (P := fun r' h' => a_at (d + 5) (a_xm a_m151) 115 [some (a_rf (C + 35)), some (.int q), some (a_rf (R (C + 15) q.toNatClampNeg)), some (.int w), some (.int i), some (a_rf (R (C + 15) i.toNatClampNeg))] (r'.toList ++ []) h' P) (fun J2 j2 => by
            have hJ2 := dC_C hJ j2
            by_cases c4 : suB Y q (Y 20 i.toNatClampNeg) (Y 21 i.toNatClampNeg) = true
            · rw [if_pos c4]
              have hg := hset ⟨hbq.mp c1, c2, c3, c4⟩ J2 (some (a_rf (R (C + 15) i.toNatClampNeg))) hJ2
              clear ih hP hc hcJ hw2 hskip hset
              simp only [q151_115, as_nil, as_i, as_r, Nat.reduceAdd, Nat.reduceLeDiff, z_eq0, z_eq1, z_or, z_em, Classical.not_not, not_false_eq_true, not_true_eq_false, true_and, and_true, false_and, and_false, and_self, true_implies, false_implies, implies_true, Option.toList_some, Option.toList_none, List.cons_append, List.nil_append, Nat.add_eq_zero_iff, a_nl_i, a_nl_r, a_nl_n, true_or, or_true, eq_self, a_isRA_22, a_isRA_24, a_isRA_32, a_isA_20, ok_4, ok_5, ok_6, ok_7, ok_9, ok_20, ok_21, ok_30, ok_50, ok_180, ok_192, ok_200]
              try simp only [true_and, and_true, true_implies, false_implies, implies_true, not_true_eq_false, not_false_eq_true]
              first
                | exact hg
                | grind
            · rw [if_neg c4]
              have hg := hskip (fun q => c4 q.2.2.2) J2 (some (a_rf (R (C + 15) i.toNatClampNeg))) hJ2
              clear ih hP hc hcJ hw2 hskip hset
              simp only [q151_115, as_nil, as_i, as_r, Nat.reduceAdd, Nat.reduceLeDiff, z_eq0, z_eq1, z_or, z_em, Classical.not_not, not_false_eq_true, not_true_eq_false, true_and, and_true, false_and, and_false, and_self, true_implies, false_implies, implies_true, Option.toList_some, Option.toList_none, List.cons_append, List.nil_append, Nat.add_eq_zero_iff, a_nl_i, a_nl_r, a_nl_n, true_or, or_true, eq_self, a_isRA_22, a_isRA_24, a_isRA_32, a_isA_20, ok_4, ok_5, ok_6, ok_7, ok_9, ok_20, ok_21, ok_30, ok_50, ok_180, ok_192, ok_200]
              try simp only [true_and, and_true, true_implies, false_implies, implies_true, not_true_eq_false, not_false_eq_true]
              first
                | exact hg
                | grind)
          clear ih hP hc hcJ hw2 hskip hset
          simp only [q151_70, q151_73, q151_74, q151_77, q151_79, q151_82, q151_85, q151_87, q151_90, q151_91, q151_94, q151_97, q151_98, q151_101, q151_102, q151_104, q151_107, q151_109, q151_112, k_35 hS, z_35, r_35_0 hS, k_14 hS, z_14, sp_mayMove hS, as_nil, as_i, as_r, Nat.reduceAdd, Nat.reduceLeDiff, z_eq0, z_eq1, z_or, z_em, Classical.not_not, not_false_eq_true, not_true_eq_false, true_and, and_true, false_and, and_false, and_self, true_implies, false_implies, implies_true, Option.toList_some, Option.toList_none, List.cons_append, List.nil_append, Nat.add_eq_zero_iff, a_nl_i, a_nl_r, a_nl_n, true_or, or_true, eq_self, a_isRA_22, a_isRA_24, a_isRA_32, a_isA_20, ok_4, ok_5, ok_6, ok_7, ok_9, ok_20, ok_21, ok_30, ok_50, ok_180, ok_192, ok_200, hai, ai0, haq, aq0, f2, e2, f13, f14, e16, c3, c2.1, c2.2]
          try simp only [true_and, and_true, true_implies, false_implies, implies_true, not_true_eq_false, not_false_eq_true]
          first
            | exact hsu
            | grind
        · have hg := hskip (fun q => c3 q.2.2.1) J (some (a_rf (R (C + 15) i.toNatClampNeg))) hJ
          clear ih hP hc hcJ hw2 hskip hset
          simp only [q151_70, q151_73, q151_74, q151_77, q151_79, q151_82, q151_85, q151_87, q151_90, q151_91, q151_94, k_35 hS, z_35, r_35_0 hS, k_14 hS, z_14, sp_mayMove hS, as_nil, as_i, as_r, Nat.reduceAdd, Nat.reduceLeDiff, z_eq0, z_eq1, z_or, z_em, Classical.not_not, not_false_eq_true, not_true_eq_false, true_and, and_true, false_and, and_false, and_self, true_implies, false_implies, implies_true, Option.toList_some, Option.toList_none, List.cons_append, List.nil_append, Nat.add_eq_zero_iff, a_nl_i, a_nl_r, a_nl_n, true_or, or_true, eq_self, a_isRA_22, a_isRA_24, a_isRA_32, a_isA_20, ok_4, ok_5, ok_6, ok_7, ok_9, ok_20, ok_21, ok_30, ok_50, ok_180, ok_192, ok_200, hai, ai0, haq, aq0, f2, e2, f13, f14, e16, c3, c2.1, c2.2]
          try simp only [true_and, and_true, true_implies, false_implies, implies_true, not_true_eq_false, not_false_eq_true]
          first
            | exact hg
            | grind
      · have hg := hskip (fun q => c2 q.2.1) J (some (a_rf (R (C + 15) i.toNatClampNeg))) hJ
        clear ih hP hc hcJ hw2 hskip hset
        simp only [q151_70, q151_73, q151_74, q151_77, q151_79, q151_82, k_35 hS, z_35, r_35_0 hS, k_14 hS, z_14, sp_mayMove hS, as_nil, as_i, as_r, Nat.reduceAdd, Nat.reduceLeDiff, z_eq0, z_eq1, z_or, z_em, Classical.not_not, not_false_eq_true, not_true_eq_false, true_and, and_true, false_and, and_false, and_self, true_implies, false_implies, implies_true, Option.toList_some, Option.toList_none, List.cons_append, List.nil_append, Nat.add_eq_zero_iff, a_nl_i, a_nl_r, a_nl_n, true_or, or_true, eq_self, a_isRA_22, a_isRA_24, a_isRA_32, a_isA_20, ok_4, ok_5, ok_6, ok_7, ok_9, ok_20, ok_21, ok_30, ok_50, ok_180, ok_192, ok_200, hai, ai0, haq, aq0, f13, f14, e16, c2]
        try simp only [true_and, and_true, true_implies, false_implies, implies_true, not_true_eq_false, not_false_eq_true]
        first
          | exact hg
          | grind
    · rw [if_neg c1]
      have hg := hskip (fun q => c1 (hbq.mpr q.1)) J (some (a_rf (R (C + 15) i.toNatClampNeg))) hJ
      clear ih hP hc hcJ hw2 hskip hset
      simp only [q151_70, as_nil, as_i, as_r, Nat.reduceAdd, Nat.reduceLeDiff, z_eq0, z_eq1, z_or, z_em, Classical.not_not, not_false_eq_true, not_true_eq_false, true_and, and_true, false_and, and_false, and_self, true_implies, false_implies, implies_true, Option.toList_some, Option.toList_none, List.cons_append, List.nil_append, Nat.add_eq_zero_iff, a_nl_i, a_nl_r, a_nl_n, true_or, or_true, eq_self, a_isRA_22, a_isRA_24, a_isRA_32, a_isA_20, ok_4, ok_5, ok_6, ok_7, ok_9, ok_20, ok_21, ok_30, ok_50, ok_180, ok_192, ok_200]
      try simp only [true_and, and_true, true_implies, false_implies, implies_true, not_true_eq_false, not_false_eq_true]
      first
        | exact hg
        | grind
  · have e := (lp_end h1 c).2
    have hp := hP w J hJ (by rw [e] at hw2; exact hw2)
    have c' : Y 0 17 ≤ i := Int32.not_lt.mp c
    clear ih hP hc hcJ hw2
    simp only [q151_33, q151_34, q151_37, q151_40, q151_131, q151_132, k_35 hS, z_35, r_35_0 hS, k_14 hS, z_14, as_nil, as_i, as_r, Nat.reduceAdd, Nat.reduceLeDiff, z_eq0, z_eq1, z_or, z_em, Classical.not_not, not_false_eq_true, not_true_eq_false, true_and, and_true, false_and, and_false, and_self, true_implies, false_implies, implies_true, Option.toList_some, Option.toList_none, List.cons_append, List.nil_append, Nat.add_eq_zero_iff, a_nl_i, a_nl_r, a_nl_n, true_or, or_true, eq_self, a_isRA_22, a_isRA_24, a_isRA_32, a_isA_20, ok_4, ok_5, ok_6, ok_7, ok_9, ok_20, ok_21, ok_30, ok_50, ok_180, ok_192, ok_200, e4, c']
    try simp only [true_and, and_true, true_implies, false_implies, implies_true, not_true_eq_false, not_false_eq_true]
    first
      | exact hp
      | grind
theorem ce_soundWishes (hT : cT C K L I R) (hc : cpP C K L I R Y) (hw : ∀ a o : Nat, a < 30 → o < 30 → (bq (I (C + 36) a) o = true ↔ ¬ Y 47 (30 * a + o) = 0)) {q : Int32} (hq : 0 ≤ q ∧ q < Y 0 17) (hP : ∀ w J, dC C K L R I J → (mvY Y q → ∀ k, k < 32 → (bq w k = true ↔ k < (Y 0 17).toNatClampNeg ∧ swP Y q (Int32.ofNat k))) → (¬ mvY Y q → w = 0) → P (some (.int w)) (n, t, K, L, J, R)) : a_does (d + 6) 151 [a_rf (C + 35), .int q] (n, t, K, L, I, R) P := by
  have hS := hT.s
  have gA := hT.g_asksR
  have gB := hT.g_benchesR
  have gX := hT.g_textsR
  have y17 := hc.2.2.2.2.2.2.2.2.1
  obtain ⟨-, ⟨haq, aq0, -⟩, -, alq⟩ := aa_of hc hq.1 hq.2
  have e4 : I (C + 14) 4 = Y 0 17 := hc.2.2.1.1
  have e16 : I (C + 1) 6 = Y 0 0 := hc.1.1
  have f13 : I (R (C + 15) q.toNatClampNeg) 13 = Y 20 q.toNatClampNeg := alq.2.2.2.1.1
  have f14 : I (R (C + 15) q.toNatClampNeg) 14 = Y 21 q.toNatClampNeg := alq.2.2.2.1.2
  have hia : 0 ≤ q ∧ q < Y 0 17 ∧ q < 30 := ⟨hq.1, hq.2, Int32.lt_of_lt_of_le hq.2 y17.2⟩
  by_cases c : 0 ≤ Y 20 q.toNatClampNeg ∧ ¬ Y 21 q.toNatClampNeg * 8 < Y 0 0
  · have hl := fun u => le_soundWishes_31 (d := d) (n := n) (t := t) (P := P) hT hc hw hq (fun w J j h => hP w J j (fun _ => h) (fun h => absurd c h)) 0 (by decide) I 0 u (dC_refl hT) (by decide) y17.1 (fun k hk => by
      rw [bq_0, show (0 : Int32).toNatClampNeg = 0 from rfl]
      exact ⟨fun q => absurd q Bool.false_ne_true, fun q => absurd q.1 (Nat.not_lt_zero k)⟩)
    clear hP hc
    rw [a_enter1 (M := a_m151) rfl (a_cat_rf (a_cat_int a_cat_nil)) (show 2 ≤ 6 by decide)]
    show a_at _ (a_xm a_m151) 0 [some (a_rf (C + 35)), some (.int q), none, none, none, none] [] _ _
    simp only [q151_0, q151_1, q151_4, q151_5, q151_8, q151_9, q151_10, q151_13, q151_14, q151_17, q151_18, q151_21, q151_24, q151_25, q151_26, q151_27, q151_28, q151_29, k_35 hS, z_35, r_35_0 hS, k_14 hS, z_14, sp_askAt hS gA, sp_mayMove hS, as_nil, as_i, as_r, Nat.reduceAdd, Nat.reduceLeDiff, z_eq0, z_eq1, z_or, z_em, Classical.not_not, not_false_eq_true, not_true_eq_false, true_and, and_true, false_and, and_false, and_self, true_implies, false_implies, implies_true, Option.toList_some, Option.toList_none, List.cons_append, List.nil_append, Nat.add_eq_zero_iff, a_nl_i, a_nl_r, a_nl_n, true_or, or_true, eq_self, a_isRA_22, a_isRA_24, a_isRA_32, a_isA_20, ok_4, ok_5, ok_6, ok_7, ok_9, ok_20, ok_21, ok_30, ok_50, ok_180, ok_192, ok_200, e4, hia, haq, aq0, f13, f14, e16, c.1, c.2]
    try simp only [true_and, and_true, true_implies, false_implies, implies_true, not_true_eq_false, not_false_eq_true]
    first
      | exact hl _
      | grind
  · have hp := hP 0 I (dC_refl hT) (fun h => absurd h c) (fun _ => rfl)
    clear hP hc
    rw [a_enter1 (M := a_m151) rfl (a_cat_rf (a_cat_int a_cat_nil)) (show 2 ≤ 6 by decide)]
    show a_at _ (a_xm a_m151) 0 [some (a_rf (C + 35)), some (.int q), none, none, none, none] [] _ _
    simp only [q151_0, q151_1, q151_4, q151_5, q151_8, q151_9, q151_10, q151_13, q151_14, q151_17, q151_18, q151_21, q151_24, q151_25, k_35 hS, z_35, r_35_0 hS, k_14 hS, z_14, sp_askAt hS gA, sp_mayMove hS, as_nil, as_i, as_r, Nat.reduceAdd, Nat.reduceLeDiff, z_eq0, z_eq1, z_or, z_em, Classical.not_not, not_false_eq_true, not_true_eq_false, true_and, and_true, false_and, and_false, and_self, true_implies, false_implies, implies_true, Option.toList_some, Option.toList_none, List.cons_append, List.nil_append, Nat.add_eq_zero_iff, a_nl_i, a_nl_r, a_nl_n, true_or, or_true, eq_self, a_isRA_22, a_isRA_24, a_isRA_32, a_isA_20, ok_4, ok_5, ok_6, ok_7, ok_9, ok_20, ok_21, ok_30, ok_50, ok_180, ok_192, ok_200, e4, hia, haq, aq0, f13, f14, e16, c]
    try simp only [true_and, and_true, true_implies, false_implies, implies_true, not_true_eq_false, not_false_eq_true]
    first
      | exact hp
      | grind
theorem le_isNewGroup_2 (hT : cT C K L I R) (hc : cpP C K L I R Y) {z a : Int32} (ha : 0 ≤ a ∧ a ≤ 5) (hg : ∀ k, k < a.toNatClampNeg → (0 ≤ g k ∧ g k < Y 0 17) ∧ R (C + 38) k = R (C + 15) (g k).toNatClampNeg) {v : Int32} (hv : v = 0 ∨ v = 1) (hvv : v = 0 ↔ ∃ k, k < a.toNatClampNeg ∧ Y 8 (g k).toNatClampNeg = z) (hP : P (some (.int v)) (n, t, K, L, I, R)) : ∀ i : Int32, i ≤ 5 → 0 ≤ i → i ≤ a → (∀ k, k < i.toNatClampNeg → ¬ Y 8 (g k).toNatClampNeg = z) → a_at d (a_xm a_m156) 2 [some (a_rf (C + 35)), some (.int z), some (.int a), some (.int i)] [] (n, t, K, L, I, R) P := by
  have hS := hT.s
  refine up_ind 5 (fun i hk ih => ?_)
  intro h0 h1 hn
  rw [q156_2]
  by_cases c : i < a
  · obtain ⟨t1, t2, t3, t4⟩ := lp_st h0 c
    have hi : 0 ≤ i ∧ i < 5 := ⟨h0, Int32.lt_of_lt_of_le c ha.2⟩
    obtain ⟨⟨g0, g1⟩, er⟩ := hg i.toNatClampNeg (cl_lt h0 c)
    obtain ⟨-, ⟨hai, ai0, -⟩, -, ali⟩ := aa_of hc g0 g1
    have f0 : I (R (C + 15) (g i.toNatClampNeg).toNatClampNeg) 0 = Y 8 (g i.toNatClampNeg).toNatClampNeg := ali.1.1
    have nc : ¬ a ≤ i := Int32.not_le.mpr c
    by_cases c2 : Y 8 (g i.toNatClampNeg).toNatClampNeg = z
    · have ev : v = 0 := hvv.mpr ⟨_, cl_lt h0 c, c2⟩
      rw [ev] at hP
      clear ih hc hg hvv hn
      simp only [q156_3, q156_4, q156_7, q156_8, q156_11, q156_12, q156_13, q156_16, q156_17, q156_20, q156_21, k_35 hS, z_35, r_35_3 hS, k_38 hS, l_38 hS, z_38, as_nil, as_i, as_r, Nat.reduceAdd, Nat.reduceLeDiff, z_eq0, z_eq1, z_or, z_em, Classical.not_not, not_false_eq_true, not_true_eq_false, true_and, and_true, false_and, and_false, and_self, true_implies, false_implies, implies_true, Option.toList_some, Option.toList_none, List.cons_append, List.nil_append, Nat.add_eq_zero_iff, a_nl_i, a_nl_r, a_nl_n, true_or, or_true, eq_self, a_isRA_22, a_isRA_24, a_isRA_32, a_isA_20, ok_4, ok_5, ok_6, ok_7, ok_9, ok_20, ok_21, ok_30, ok_50, ok_180, ok_192, ok_200, er, hai, ai0, f0, c2, nc, hi]
      try simp only [true_and, and_true, true_implies, false_implies, implies_true, not_true_eq_false, not_false_eq_true]
      first
        | exact hP
        | exact ⟨by decide, hP⟩
        | grind
    · have hgo := ih hi.2 t2 t3 (fun k hk => by
        rw [t4] at hk
        by_cases e : k = i.toNatClampNeg
        · rw [e]; exact c2
        · exact hn k (by omega))
      clear ih hc hg hvv hn hP
      simp only [q156_3, q156_4, q156_7, q156_8, q156_11, q156_12, q156_13, q156_16, q156_17, q156_20, q156_21, q156_22, q156_25, k_35 hS, z_35, r_35_3 hS, k_38 hS, l_38 hS, z_38, as_nil, as_i, as_r, Nat.reduceAdd, Nat.reduceLeDiff, z_eq0, z_eq1, z_or, z_em, Classical.not_not, not_false_eq_true, not_true_eq_false, true_and, and_true, false_and, and_false, and_self, true_implies, false_implies, implies_true, Option.toList_some, Option.toList_none, List.cons_append, List.nil_append, Nat.add_eq_zero_iff, a_nl_i, a_nl_r, a_nl_n, true_or, or_true, eq_self, a_isRA_22, a_isRA_24, a_isRA_32, a_isA_20, ok_4, ok_5, ok_6, ok_7, ok_9, ok_20, ok_21, ok_30, ok_50, ok_180, ok_192, ok_200, er, hai, ai0, f0, c2, nc, hi]
      try simp only [true_and, and_true, true_implies, false_implies, implies_true, not_true_eq_false, not_false_eq_true]
      first
        | exact hgo
        | grind
  · have e := (lp_end h1 c).2
    have ev : v = 1 := hv.resolve_left (fun q => by
      obtain ⟨k, k1, k2⟩ := hvv.mp q
      exact hn k (by rw [e]; exact k1) k2)
    rw [ev] at hP
    have c' : a ≤ i := Int32.not_lt.mp c
    clear ih hc hg hvv hn
    simp only [q156_3, q156_4, q156_28, q156_29, as_nil, as_i, as_r, Nat.reduceAdd, Nat.reduceLeDiff, z_eq0, z_eq1, z_or, z_em, Classical.not_not, not_false_eq_true, not_true_eq_false, true_and, and_true, false_and, and_false, and_self, true_implies, false_implies, implies_true, Option.toList_some, Option.toList_none, List.cons_append, List.nil_append, Nat.add_eq_zero_iff, a_nl_i, a_nl_r, a_nl_n, true_or, or_true, eq_self, a_isRA_22, a_isRA_24, a_isRA_32, a_isA_20, ok_4, ok_5, ok_6, ok_7, ok_9, ok_20, ok_21, ok_30, ok_50, ok_180, ok_192, ok_200, c']
    try simp only [true_and, and_true, true_implies, false_implies, implies_true, not_true_eq_false, not_false_eq_true]
    first
      | exact hP
      | exact ⟨by decide, hP⟩
      | grind
theorem ce_isNewGroup (hT : cT C K L I R) (hc : cpP C K L I R Y) {z a : Int32} (ha : 0 ≤ a ∧ a ≤ 5) (hg : ∀ k, k < a.toNatClampNeg → (0 ≤ g k ∧ g k < Y 0 17) ∧ R (C + 38) k = R (C + 15) (g k).toNatClampNeg) (hP : ∀ v : Int32, (v = 0 ∨ v = 1) → (v = 0 ↔ ∃ k, k < a.toNatClampNeg ∧ Y 8 (g k).toNatClampNeg = z) → P (some (.int v)) (n, t, K, L, I, R)) : a_does (d + 1) 156 [a_rf (C + 35), .int z, .int a] (n, t, K, L, I, R) P := by
  have hS := hT.s
  have hl : a_at d (a_xm a_m156) 2 [some (a_rf (C + 35)), some (.int z), some (.int a), some (.int 0)] [] (n, t, K, L, I, R) P := by
    by_cases c : ∃ k, k < a.toNatClampNeg ∧ Y 8 (g k).toNatClampNeg = z
    · exact le_isNewGroup_2 (d := d) (n := n) (t := t) (v := 0) hT hc ha hg (Or.inl rfl) ⟨fun _ => c, fun _ => rfl⟩ (hP 0 (Or.inl rfl) ⟨fun _ => c, fun _ => rfl⟩) 0 (by decide) (by decide) ha.1 (fun k hk => absurd hk (Nat.not_lt_zero k))
    · have hx : (1 : Int32) = 0 ↔ ∃ k, k < a.toNatClampNeg ∧ Y 8 (g k).toNatClampNeg = z := ⟨fun h => absurd h (by decide), fun h => absurd h c⟩
      exact le_isNewGroup_2 (d := d) (n := n) (t := t) (v := 1) hT hc ha hg (Or.inr rfl) hx (hP 1 (Or.inr rfl) hx) 0 (by decide) (by decide) ha.1 (fun k hk => absurd hk (Nat.not_lt_zero k))
  clear hP hc hg
  rw [a_enter1 (M := a_m156) rfl (a_cat_rf (a_cat_int (a_cat_int a_cat_nil))) (show 3 ≤ 4 by decide)]
  show a_at _ (a_xm a_m156) 0 [some (a_rf (C + 35)), some (.int z), some (.int a), none] [] _ _
  simp only [q156_0, q156_1, as_nil, as_i, as_r, Nat.reduceAdd, Nat.reduceLeDiff, z_eq0, z_eq1, z_or, z_em, Classical.not_not, not_false_eq_true, not_true_eq_false, true_and, and_true, false_and, and_false, and_self, true_implies, false_implies, implies_true, Option.toList_some, Option.toList_none, List.cons_append, List.nil_append, Nat.add_eq_zero_iff, a_nl_i, a_nl_r, a_nl_n, true_or, or_true, eq_self, a_isRA_22, a_isRA_24, a_isRA_32, a_isA_20, ok_4, ok_5, ok_6, ok_7, ok_9, ok_20, ok_21, ok_30, ok_50, ok_180, ok_192, ok_200]
  exact hl
end ZW0
end
section
/-! the class: the RING is found -/
section ZX0
variable {d n t C c : Nat} {K L : Nat → Nat} {I I0 J J0 J1 J2 : Nat → Nat → Int32} {R : Nat → Nat → Nat} {P : Option Value → AH → Prop}
variable {Y Z W : Nat → Nat → Int32} {g : Nat → Int32} {R' R1 R2 : Nat → Nat → Nat}
/-- what a search for a ring may change -/
def fqP (C c n t : Nat) (K L : Nat → Nat) (I : Nat → Nat → Int32) (R : Nat → Nat → Nat) (J : Nat → Nat → Int32) (R' : Nat → Nat → Nat) : Prop := cH C c n t K L J R' ∧ rfP C R R' ∧ ∀ x j, ¬ x = C + 9 → ¬ x = C + 10 → ¬ x = C + 35 → ¬ x = C + 37 → ¬ x = C + 39 → ¬ x = C + 40 → ¬ x = C + 41 → J x j = I x j
theorem fq_refl (hH : cH C c n t K L I R) : fqP C c n t K L I R I R := ⟨hH, fun _ _ _ _ _ => rfl, fun _ _ _ _ _ _ _ _ _ => rfl⟩
theorem fq_T (h : fqP C c n t K L I R J R1) (hT : cT C K L J2 R1) (f : ∀ x j, ¬ x = C + 9 → ¬ x = C + 10 → ¬ x = C + 35 → ¬ x = C + 37 → ¬ x = C + 39 → ¬ x = C + 40 → ¬ x = C + 41 → J2 x j = J x j) : fqP C c n t K L I R J2 R1 := ⟨cH_J h.1 hT, h.2.1, fun x j a1 a2 a3 a4 a5 a6 a7 => (f x j a1 a2 a3 a4 a5 a6 a7).trans (h.2.2 x j a1 a2 a3 a4 a5 a6 a7)⟩
theorem fq_C (h : fqP C c n t K L I R J R1) (h2 : dC C K L R1 J J2) : fqP C c n t K L I R J2 R1 := fq_T h h2.1 (fun x j a1 a2 _ _ _ _ _ => h2.2 x j a1 a2)
theorem fq_R (h : fqP C c n t K L I R J R1) {j v : Nat} (hv : v = 0 ∨ K v = 1) : fqP C c n t K L I R J (a_ur R1 (C + 38) j v) := ⟨(cZ_R38 (cZ_refl h.1) hv).2.1, fun x y a1 a2 a3 => by rw [ur_ap, if_neg (fun e => a3 e.1)]; exact h.2.1 x y a1 a2 a3, h.2.2⟩
theorem fq_cp (hT : cT C K L I R) (hc : cpP C K L I R Y) (h : fqP C c n t K L I R J R1) : cpP C K L J R1 Y := by
  have fr : ∀ x j, ¬ (C + 9 ≤ x ∧ x ≤ C + 10) → ¬ (C + 35 ≤ x ∧ x ≤ C + 41 ∧ ¬ x = C + 36 ∧ ¬ x = C + 38) → J x j = I x j := fun x j a b => h.2.2 x j (by omega) (by omega) (by omega) (by omega) (by omega) (by omega) (by omega)
  have r16 : ∀ j, R1 (C + 16) j = R (C + 16) j := fun j => h.2.1 _ _ (by omega) (by omega) (by omega)
  have rb : ∀ b : Int32, 0 ≤ b → b < Y 0 6 → C + 96 < R (C + 16) b.toNatClampNeg ∧ C + 96 < R (R (C + 16) b.toNatClampNeg) 2 ∧ C + 96 < R (R (C + 16) b.toNatClampNeg) 3 := fun b b0 b1 => by
    obtain ⟨w0, ⟨w1, -⟩, ⟨s1, -⟩, -⟩ := hT.g_bnc _ (hc.2.1.2.2.1 b b0 b1).1
    exact ⟨w0, w1, s1⟩
  refine cp_mk hT hc (fun _ _ _ => rfl) hc.2.2.2.2.2.2.2.2.2.2.1 (fun _ _ => ⟨rfl, rfl⟩) (fun x j _ _ h1 h2 h3 => h.2.1 x j h1 h2 h3) (fun k j hk => fr _ _ (by omega) (by omega)) (fun x j kx _ _ => ?_) (fun x j kx _ => ?_) (fun x j kx => ?_) (fun k k0 k1 j => ?_) (fun o o0 o1 => ?_) (plP_eq hc.2.1.2.2.2 (fun b b0 b1 => ?_) (fun b b0 b1 => ?_))
  · have := (hT.g_ask x kx).1
    exact fr _ _ (by omega) (by omega)
  · have := (hT.g_bnc x kx).1
    exact fr _ _ (by omega) (by omega)
  · have := (hT.g_txt x kx).1
    exact fr _ _ (by omega) (by omega)
  · have := (hT.g_txt _ (hc.2.2.2.1.2 k k0 k1).1).2.1
    exact fr _ _ (by omega) (by omega)
  · have ao := hc.2.2.1.2.1 o o0 o1
    have := (hT.g_ask _ ao.1).1
    rw [fr _ _ (by omega) (by omega), fr _ _ (by omega) (by omega)]
    exact (hc.2.2.1.2.2.2 o o0 o1).2.2.2.1
  · have := rb b b0 b1
    funext j
    unfold whC
    rw [fr _ _ (by omega) (by omega)]
  · have := rb b b0 b1
    funext j
    unfold snC
    rw [fr _ _ (by omega) (by omega)]
theorem fq_se (hT : cT C K L I R) (hc : cpP C K L I R Y) (hse : seP C R Y) (h : fqP C c n t K L I R J R1) : seP C R1 Y := se_rf hT hc hse h.2.1
theorem fq_cu (hH : cH C c n t K L I R) (hu : cuP C K L I R Y) (h : fqP C c n t K L I R J R1) : cuP C K L J R1 Y := by
  have hT := hH.1
  have hz : fZ C n K (noA C R Y) I R n K J R1 := ⟨⟨hH.2.2.1, Nat.le_refl _⟩, hH.2.1, fun _ _ => rfl, fun x j hx => by
    have : ¬ (C + 9 ≤ x ∧ x ≤ C + 10) ∧ ¬ (C + 35 ≤ x ∧ x ≤ C + 41 ∧ ¬ x = C + 36 ∧ ¬ x = C + 38) := by
      have := sz_K hT (x := x)
      unfold siX at hx
      omega
    exact h.2.2 x j (by omega) (by omega) (by omega) (by omega) (by omega) (by omega) (by omega), fun x j _ _ a1 a2 a3 => h.2.1 x j a1 a2 a3⟩
  exact ⟨fq_cp hT hu.1 h, fq_se hT hu.1 hu.2.1 h, siP_z hT hu.2.2.1 hz, hu.2.2.2.1, stP_z hT hu.1 hu.2.2.2.2 hz⟩
/-- the sound wishes of the first p -/
def sdP (C : Nat) (Y : Nat → Nat → Int32) (p : Nat) (J : Nat → Nat → Int32) : Prop := ∀ q : Int32, 0 ≤ q → q.toNatClampNeg < p → (mvY Y q → ∀ k, k < 32 → (bq (J (C + 37) q.toNatClampNeg) k = true ↔ k < (Y 0 17).toNatClampNeg ∧ swP Y q (Int32.ofNat k))) ∧ (¬ mvY Y q → J (C + 37) q.toNatClampNeg = 0)
def mbP (C : Nat) (R : Nat → Nat → Nat) (Y : Nat → Nat → Int32) (p : Nat) (g : Nat → Int32) : Prop := ∀ k, k < p → (0 ≤ g k ∧ g k < Y 0 17) ∧ R (C + 38) k = R (C + 15) (g k).toNatClampNeg
/-- a prefix of a ring -/
def pfP (Y : Nat → Nat → Int32) (p : Nat) (g : Nat → Int32) : Prop := (∀ i, i < p → mvY Y (g i)) ∧ (∀ i, i + 1 < p → g 0 < g (i + 1) ∧ swP Y (g i) (g (i + 1))) ∧ ∀ i j, i < j → j < p → ¬ Y 8 (g i).toNatClampNeg = Y 8 (g j).toNatClampNeg
theorem ix47 {a o : Int32} (h17 : Y 0 17 ≤ 30) (ha : 0 ≤ a ∧ a < Y 0 17) (ho : 0 ≤ o ∧ o < Y 0 17) : (30 * a + o).toNatClampNeg = 30 * a.toNatClampNeg + o.toNatClampNeg := (ix_900 ⟨ha.1, Int32.lt_of_lt_of_le ha.2 h17⟩ ⟨ho.1, Int32.lt_of_lt_of_le ho.2 h17⟩).1
theorem rg_sw {m k : Nat} (h17 : Y 0 17 ≤ 30) (r : rgA Y m g) (hk : k + 1 < m) : swP Y (g k) (g (k + 1)) := by
  have r1 := r.1.1
  obtain ⟨-, w1, w2⟩ := r.1.2.1 k hk
  rw [ix47 h17 (r1 k (by omega)).1 (r1 _ hk).1] at w1
  have su := rgA_su r (k := k) (by omega)
  rw [show nxN m k = k + 1 by unfold nxN; rw [if_pos hk]] at su
  refine ⟨w1, (r1 _ hk).2, ?_, su⟩
  rw [w2]
  by_cases c : k = 0
  · rw [c]
  · have := (r.1.2.1 (k - 1) (by omega)).2.2
    rw [show k - 1 + 1 = k by omega] at this
    exact this.symm
theorem rg_cl {m : Nat} (h17 : Y 0 17 ≤ 30) (hm : 2 ≤ m) (r : rgA Y m g) : swP Y (g (m - 1)) (g 0) := by
  have r1 := r.1.1
  have w1 := r.1.2.2.2
  rw [ix47 h17 (r1 _ (by omega)).1 (r1 0 (by omega)).1] at w1
  have su := rgA_su r (k := m - 1) (by omega)
  rw [show nxN m (m - 1) = 0 by unfold nxN; rw [if_neg (by omega)]] at su
  have := (r.1.2.1 (m - 2) (by omega)).2.2
  rw [show m - 2 + 1 = m - 1 by omega] at this
  exact ⟨w1, (r1 0 (by omega)).2, this.symm, su⟩
theorem pf_len {m : Nat} (pf : pfP Y m g) : ∀ k, k < m → Y 10 (g k).toNatClampNeg = Y 10 (g 0).toNatClampNeg := by
  intro k
  induction k with
  | zero => intro _; rfl
  | succ k ih =>
    intro hk
    rw [(pf.2.1 k hk).2.2.2.1]
    exact ih (by omega)
theorem pf_all {m : Nat} (h17 : Y 0 17 ≤ 30) (hm : 2 ≤ m) (hb : ∀ k, k < m → 0 ≤ g k ∧ g k < Y 0 17) (pf : pfP Y m g) (cl : swP Y (g (m - 1)) (g 0)) : rgS Y m g ∧ ∀ k, k < m → suB Y (g k) (Y 20 (g (nxN m k)).toNatClampNeg) (Y 21 (g (nxN m k)).toNatClampNeg) = true := by
  refine ⟨⟨fun i hi => ⟨hb i hi, pf.1 i hi⟩, fun i hi => ⟨(pf.2.1 i hi).1, ?_, pf_len pf _ hi⟩, pf.2.2, ?_⟩, fun k hk => ?_⟩
  · rw [ix47 h17 (hb i (by omega)) (hb _ hi)]
    exact (pf.2.1 i hi).2.1
  · rw [ix47 h17 (hb _ (by omega)) (hb _ (by omega))]
    exact cl.1
  · by_cases c : k + 1 < m
    · rw [show nxN m k = k + 1 by unfold nxN; rw [if_pos c]]
      exact (pf.2.1 k c).2.2.2.2
    · rw [show nxN m k = 0 by unfold nxN; rw [if_neg c], show k = m - 1 by omega]
      exact cl.2.2.2
theorem pf_tu {m : Nat} (hb : mbP C R Y m g) (pf : pfP Y m g) : tuP C R Y m g := by
  refine ⟨fun k hk => ⟨(hb k hk).1, (pf.1 k hk).1, (hb k hk).2⟩, fun k j hk hj e => ?_, pf_len pf⟩
  rcases Nat.lt_trichotomy k j with w | w | w
  · exact absurd (by rw [e]) (pf.2.2 k j w hj)
  · exact w
  · exact absurd (by rw [e]) (pf.2.2 j k w hk)
theorem sd_at (h : sdP C Y (Y 0 17).toNatClampNeg J) {q o : Int32} (hq : 0 ≤ q ∧ q < Y 0 17) (ho : 0 ≤ o ∧ o < Y 0 17) (h17 : Y 0 17 ≤ 30) (mv : mvY Y q) : bq (J (C + 37) q.toNatClampNeg) o.toNatClampNeg = true ↔ swP Y q o := by
  have hon : o.toNatClampNeg < (Y 0 17).toNatClampNeg := cl_lt ho.1 ho.2
  have h30 : o.toNatClampNeg < 30 := cl_lt ho.1 (Int32.lt_of_lt_of_le ho.2 h17)
  have := ((h q hq.1 (cl_lt hq.1 hq.2)).1 mv) o.toNatClampNeg (by omega)
  rw [← on_cl ho.1] at this
  exact this.trans ⟨fun q => q.2, fun q => ⟨hon, q⟩⟩
def kcP (C c n t : Nat) (K L : Nat → Nat) (I : Nat → Nat → Int32) (R : Nat → Nat → Nat) (Y : Nat → Nat → Int32) (m : Int32) (z : Nat) : Prop := ∀ (a : Int32) (g : Nat → Int32) (J : Nat → Nat → Int32) (R1 : Nat → Nat → Nat) (D : Nat) (P : Option Value → AH → Prop), 1 ≤ a → a.toInt + z = m.toInt → z + 20 ≤ D → fqP C c n t K L I R J R1 → J (C + 35) 7 = m → sdP C Y (Y 0 17).toNatClampNeg J → mbP C R1 Y a.toNatClampNeg g → pfP Y a.toNatClampNeg g → (hP : ∀ (v : Int32) J2 R2 g2, fqP C c n t K L I R J2 R2 → J2 (C + 35) 7 = m → sdP C Y (Y 0 17).toNatClampNeg J2 → (∀ k, k < a.toNatClampNeg → R2 (C + 38) k = R1 (C + 38) k) → (v = 0 ∧ noR Y m.toNatClampNeg a.toNatClampNeg g) ∨ (v = 1 ∧ (∀ k, k < a.toNatClampNeg → g2 k = g k) ∧ fsR Y m.toNatClampNeg a.toNatClampNeg g2 ∧ mbP C R2 Y m.toNatClampNeg g2) → P (some (.int v)) (n, t, K, L, J2, R2)) → a_does D 152 [a_rf (C + 35), .int a] (n, t, K, L, J, R1) P
end ZX0
end
section
/-! the class: closes, find -/
section ZY0
variable {d n t C c : Nat} {K L : Nat → Nat} {I I0 J J0 J1 J2 : Nat → Nat → Int32} {R : Nat → Nat → Nat} {P : Option Value → AH → Prop}
variable {Y Z W : Nat → Nat → Int32} {g : Nat → Int32} {R' R1 R2 : Nat → Nat → Nat}
theorem a_1 {a : Int32} (h : 1 ≤ a) (h5 : a ≤ 5) : (a - 1).toNatClampNeg = a.toNatClampNeg - 1 ∧ 1 ≤ a.toNatClampNeg ∧ (a - 1).toNatClampNeg < a.toNatClampNeg ∧ 0 ≤ a - 1 ∧ a - 1 < 5 ∧ 0 < a := by
  have h0 : 0 ≤ a - 1 := by grind
  have h1 : a - 1 < a := by grind
  have := (lp_st h0 h1).2.2.2
  rw [show a - 1 + 1 = a by grind] at this
  exact ⟨by omega, by omega, by omega, h0, by grind, by grind⟩
theorem le_closes_66 (hT0 : cT C K L I R) (hc : cpP C K L I R Y) {E : Nat} {m a : Int32} (hm : 2 ≤ m ∧ m ≤ 5) (h1a : 1 ≤ a) (ham : a < m) {R0 : Nat → Nat → Nat} (hr : ∀ (g : Nat → Int32) (J : Nat → Nat → Int32) (R1 : Nat → Nat → Nat) (P : Option Value → AH → Prop), fqP C c n t K L I R J R1 → J (C + 35) 7 = m → sdP C Y (Y 0 17).toNatClampNeg J → mbP C R1 Y (a + 1).toNatClampNeg g → pfP Y (a + 1).toNatClampNeg g → (hP : ∀ (v : Int32) J2 R2 g2, fqP C c n t K L I R J2 R2 → J2 (C + 35) 7 = m → sdP C Y (Y 0 17).toNatClampNeg J2 → (∀ k, k < (a + 1).toNatClampNeg → R2 (C + 38) k = R1 (C + 38) k) → (v = 0 ∧ noR Y m.toNatClampNeg (a + 1).toNatClampNeg g) ∨ (v = 1 ∧ (∀ k, k < (a + 1).toNatClampNeg → g2 k = g k) ∧ fsR Y m.toNatClampNeg (a + 1).toNatClampNeg g2 ∧ mbP C R2 Y m.toNatClampNeg g2) → P (some (.int v)) (n, t, K, L, J2, R2)) → a_does (E + 19) 152 [a_rf (C + 35), .int (a + 1)] (n, t, K, L, J, R1) P) (pf : pfP Y a.toNatClampNeg g) (hP : ∀ (v : Int32) J2 R2 g2, fqP C c n t K L I R J2 R2 → J2 (C + 35) 7 = m → sdP C Y (Y 0 17).toNatClampNeg J2 → (∀ k, k < a.toNatClampNeg → R2 (C + 38) k = R0 (C + 38) k) → (v = 0 ∧ noR Y m.toNatClampNeg a.toNatClampNeg g) ∨ (v = 1 ∧ (∀ k, k < a.toNatClampNeg → g2 k = g k) ∧ fsR Y m.toNatClampNeg a.toNatClampNeg g2 ∧ mbP C R2 Y m.toNatClampNeg g2) → P (some (.int v)) (n, t, K, L, J2, R2)) : ∀ i : Int32, i ≤ 30 → ∀ J R1 u, 0 ≤ i → i ≤ Y 0 17 → fqP C c n t K L I R J R1 → J (C + 35) 7 = m → sdP C Y (Y 0 17).toNatClampNeg J → mbP C R1 Y a.toNatClampNeg g → (∀ k, k < a.toNatClampNeg → R1 (C + 38) k = R0 (C + 38) k) → g 0 < i → blR Y m.toNatClampNeg a.toNatClampNeg g i → a_at (E + 19) (a_xm a_m152) 66 [some (a_rf (C + 35)), some (.int a), some (.int (g 0)), some (.int (g (a - 1).toNatClampNeg)), some (.int i), u] [] (n, t, K, L, J, R1) P := by
  have y17 := hc.2.2.2.2.2.2.2.2.1
  have am5 : a ≤ 5 := Int32.le_trans (Int32.le_of_lt ham) hm.2
  obtain ⟨e1, a1, a1l, b0, b5, apos⟩ := a_1 h1a am5
  have amn : a.toNatClampNeg < m.toNatClampNeg := cl_lt (Int32.le_of_lt apos) ham
  have a50 : 0 ≤ a ∧ a < 5 := ⟨Int32.le_of_lt apos, Int32.lt_of_lt_of_le ham hm.2⟩
  have eup : (a + 1).toNatClampNeg = a.toNatClampNeg + 1 := (lp_st a50.1 ham).2.2.2
  refine up_ind 30 (fun i hk ih => ?_)
  intro J R1 u h0 h1 hq es hs hb hR hg0 hbl
  have hT := hq.1.1
  have hS := hT.s
  have gA := hT.g_asksR
  have gB := hT.g_benchesR
  have gX := hT.g_textsR
  have hcJ := fq_cp hT0 hc hq
  have e4 : J (C + 14) 4 = Y 0 17 := hcJ.2.2.1.1
  rw [q152_66]
  by_cases ci : i < Y 0 17
  · obtain ⟨t1, t2, t3, t4⟩ := lp_st h0 ci
    have hi30 : 0 ≤ i ∧ i < 30 := ⟨h0, Int32.lt_of_lt_of_le ci y17.2⟩
    have hia : 0 ≤ i ∧ i < Y 0 17 ∧ i < 30 := ⟨h0, ci, hi30.2⟩
    obtain ⟨-, ⟨hai, ai0, -⟩, -, ali⟩ := aa_of hcJ h0 ci
    have f0 : J (R1 (C + 15) i.toNatClampNeg) 0 = Y 8 i.toNatClampNeg := ali.1.1
    have nc : ¬ Y 0 17 ≤ i := Int32.not_le.mpr ci
    have hg0' : g 0 < i + 1 := by clear ih hP hr hc hcJ hbl hb; grind
    have hnext : (∀ t, (∀ j, j < a.toNatClampNeg → t j = g j) → t a.toNatClampNeg = i → ¬ rgA Y m.toNatClampNeg t) → ∀ J R1 u, fqP C c n t K L I R J R1 → J (C + 35) 7 = m → sdP C Y (Y 0 17).toNatClampNeg J → mbP C R1 Y a.toNatClampNeg g → (∀ k, k < a.toNatClampNeg → R1 (C + 38) k = R0 (C + 38) k) → a_at (E + 19) (a_xm a_m152) 141 [some (a_rf (C + 35)), some (.int a), some (.int (g 0)), some (.int (g (a - 1).toNatClampNeg)), some (.int i), u] [] (n, t, K, L, J, R1) P := fun hv J R1 u hq es hs hb hR => by
      have hS := hq.1.1.s
      have hg := ih hi30.2 J R1 u t2 t3 hq es hs hb hR hg0' (bl_up hi30.2 hbl hv)
      clear ih hP hr hc hcJ hbl
      simp only [q152_141, q152_144, as_nil, as_i, as_r, Nat.reduceAdd, Nat.reduceLeDiff, z_eq0, z_eq1, z_or, z_em, Classical.not_not, not_false_eq_true, not_true_eq_false, true_and, and_true, false_and, and_false, and_self, true_implies, false_implies, implies_true, Option.toList_some, Option.toList_none, List.cons_append, List.nil_append, Nat.add_eq_zero_iff, a_nl_i, a_nl_r, a_nl_n, true_or, or_true, eq_self, a_isRA_22, a_isRA_24, a_isRA_32, a_isA_20, ok_4, ok_5, ok_6, ok_7, ok_9, ok_20, ok_21, ok_30, ok_50, ok_180, ok_192, ok_200]
      exact hg
    have gf := (hb (a - 1).toNatClampNeg a1l).1
    have gf30 : 0 ≤ (g (a - 1).toNatClampNeg) ∧ (g (a - 1).toNatClampNeg) < 30 := ⟨gf.1, Int32.lt_of_lt_of_le gf.2 y17.2⟩
    have hsd := sd_at hs gf ⟨h0, ci⟩ y17.2 (pf.1 _ a1l)
    have hsame := fun hv u => hnext hv J R1 u hq es hs hb hR
    have hmain : a_does (E + 19) 130 [.int (J (C + 37) (g (a - 1).toNatClampNeg).toNatClampNeg), .int i] (n, t, K, L, J, R1) (fun r h' => a_at (E + 19) (a_xm a_m152) 105 [some (a_rf (C + 35)), some (.int a), some (.int (g 0)), some (.int (g (a - 1).toNatClampNeg)), some (.int i), some (a_rf (R1 (C + 15) i.toNatClampNeg))] (r.toList ++ []) h' P) := by
      refine ce_isIn (d := E + 18) hi30 ?_
      by_cases c1 : bq (J (C + 37) (g (a - 1).toNatClampNeg).toNatClampNeg) i.toNatClampNeg = true
      · rw [if_pos c1]
        have hsw := hsd.mp c1
        simp only [q152_105, q152_108, q152_109, q152_111, q152_114, q152_115, k_35 hS, z_35, as_nil, as_i, as_r, Nat.reduceAdd, Nat.reduceLeDiff, z_eq0, z_eq1, z_or, z_em, Classical.not_not, not_false_eq_true, not_true_eq_false, true_and, and_true, false_and, and_false, and_self, true_implies, false_implies, implies_true, Option.toList_some, Option.toList_none, List.cons_append, List.nil_append, Nat.add_eq_zero_iff, a_nl_i, a_nl_r, a_nl_n, true_or, or_true, eq_self, a_isRA_22, a_isRA_24, a_isRA_32, a_isA_20, ok_4, ok_5, ok_6, ok_7, ok_9, ok_20, ok_21, ok_30, ok_50, ok_180, ok_192, ok_200, hai, ai0, f0]
        try simp only [true_and, and_true, true_implies, false_implies, implies_true, not_true_eq_false, not_false_eq_true]
        refine ⟨fun h => absurd h (by decide), fun _ => ?_⟩
        refine ce_isNewGroup (d := E + 18) (g := g) hT hcJ ⟨a50.1, am5⟩ hb (fun v hv hvv => ?_)
        by_cases c2 : v = 0
        · obtain ⟨k, k1, k2⟩ := hvv.mp c2
          have hg := hsame (fun t ht et r => by
            have := r.1.2.2.1 k a.toNatClampNeg k1 amn
            rw [ht k k1, et] at this
            exact this k2) (some (a_rf (R1 (C + 15) i.toNatClampNeg)))
          clear ih hP hr hc hcJ hbl hnext hsame hsd hsw
          simp only [q152_118, as_nil, as_i, as_r, Nat.reduceAdd, Nat.reduceLeDiff, z_eq0, z_eq1, z_or, z_em, Classical.not_not, not_false_eq_true, not_true_eq_false, true_and, and_true, false_and, and_false, and_self, true_implies, false_implies, implies_true, Option.toList_some, Option.toList_none, List.cons_append, List.nil_append, Nat.add_eq_zero_iff, a_nl_i, a_nl_r, a_nl_n, true_or, or_true, eq_self, a_isRA_22, a_isRA_24, a_isRA_32, a_isA_20, ok_4, ok_5, ok_6, ok_7, ok_9, ok_20, ok_21, ok_30, ok_50, ok_180, ok_192, ok_200, c2]
          try simp only [true_and, and_true, true_implies, false_implies, implies_true, not_true_eq_false, not_false_eq_true]
          first
            | exact hg
            | grind
        · have hnew : ∀ k, k < a.toNatClampNeg → ¬ Y 8 (g k).toNatClampNeg = Y 8 i.toNatClampNeg := fun k k1 k2 => c2 (hvv.mpr ⟨k, k1, k2⟩)
          obtain ⟨g', gA', gL⟩ : ∃ g' : Nat → Int32, g' a.toNatClampNeg = i ∧ ∀ k, ¬ k = a.toNatClampNeg → g' k = g k := ⟨fun k => if k = a.toNatClampNeg then i else g k, if_pos rfl, fun k h => if_neg h⟩
          have hgo := hr g' J (a_ur R1 (C + 38) a.toNatClampNeg (R1 (C + 15) i.toNatClampNeg)) (fun r h' => a_at (E + 19) (a_xm a_m152) 136 [some (a_rf (C + 35)), some (.int a), some (.int (g 0)), some (.int (g (a - 1).toNatClampNeg)), some (.int i), some (a_rf (R1 (C + 15) i.toNatClampNeg))] (r.toList ++ []) h' P) (fq_R hq (Or.inr hai)) es hs (fun k hk => by
            rw [eup] at hk
            by_cases e : k = a.toNatClampNeg
            · rw [e, gA', ur_ap, if_pos ⟨rfl, rfl⟩, ur_ap, if_neg (by omega)]
              exact ⟨⟨h0, ci⟩, rfl⟩
            · rw [gL k e, ur_ap, if_neg (fun q => e q.2), ur_ap, if_neg (by omega)]
              exact hb k (by omega)) (by
            rw [eup]
            refine ⟨fun k hk => ?_, fun k hk => ?_, fun x y hxy hy => ?_⟩
            · by_cases e : k = a.toNatClampNeg
              · rw [e, gA']; exact hsw.2.1
              · rw [gL k e]; exact pf.1 k (by omega)
            · rw [gL 0 (by omega)]
              by_cases e : k + 1 = a.toNatClampNeg
              · rw [e, gA', gL k (by omega), show k = (a - 1).toNatClampNeg by omega]
                exact ⟨hg0, hsw⟩
              · rw [gL _ e, gL k (by omega)]
                exact pf.2.1 k (by omega)
            · by_cases e : y = a.toNatClampNeg
              · rw [e, gA', gL x (by omega)]
                exact hnew x (by omega)
              · rw [gL y e, gL x (by omega)]
                exact pf.2.2 x y hxy (by omega)) (fun v3 J3 R3 g3 q3 es3 s3 f3 h3 => by
            have hS3 := q3.1.1.s
            have f3' : ∀ k, k < a.toNatClampNeg → R3 (C + 38) k = R1 (C + 38) k := fun k hk => by
              rw [f3 k (by omega), ur_ap, if_neg (by omega)]
            rcases h3 with ⟨v0, h3⟩ | ⟨v1, g3e, h3, hb3⟩
            · have hr15 : ∀ j, R3 (C + 15) j = R1 (C + 15) j := fun j => (q3.2.1 _ _ (by omega) (by omega) (by omega)).trans (hq.2.1 _ _ (by omega) (by omega) (by omega)).symm
              have hg := hnext (fun t ht et => h3 t (fun j hj => by
                rw [eup] at hj
                by_cases e : j = a.toNatClampNeg
                · rw [e, gA']; exact et
                · rw [gL j e]; exact ht j (by omega))) J3 R3 (some (a_rf (R1 (C + 15) i.toNatClampNeg))) q3 es3 s3 (fun k hk => by
                  rw [f3' k hk, hr15]
                  exact hb k hk) (fun k hk => (f3' k hk).trans (hR k hk))
              clear ih hP hr hc hcJ hbl hnext hsame hsd hsw
              simp only [q152_136, as_nil, as_i, as_r, Nat.reduceAdd, Nat.reduceLeDiff, z_eq0, z_eq1, z_or, z_em, Classical.not_not, not_false_eq_true, not_true_eq_false, true_and, and_true, false_and, and_false, and_self, true_implies, false_implies, implies_true, Option.toList_some, Option.toList_none, List.cons_append, List.nil_append, Nat.add_eq_zero_iff, a_nl_i, a_nl_r, a_nl_n, true_or, or_true, eq_self, a_isRA_22, a_isRA_24, a_isRA_32, a_isA_20, ok_4, ok_5, ok_6, ok_7, ok_9, ok_20, ok_21, ok_30, ok_50, ok_180, ok_192, ok_200, v0]
              try simp only [true_and, and_true, true_implies, false_implies, implies_true, not_true_eq_false, not_false_eq_true]
              first
                | exact hg
                | grind
            · have g3a : g3 a.toNatClampNeg = i := by rw [g3e _ (by omega), gA']
              have g3l : ∀ j, j < a.toNatClampNeg → g3 j = g j := fun j hj => by rw [g3e j (by omega), gL j (by omega)]
              have hg := hP 1 J3 R3 g3 q3 es3 s3 (fun k hk => (f3' k hk).trans (hR k hk)) (Or.inr ⟨rfl, g3l, bl_fs amn (by
                rw [g3a]
                exact fun t ht => hbl t (fun j hj => (ht j hj).trans (g3l j hj))) (by rw [← eup]; exact h3), hb3⟩)
              clear ih hP hr hc hcJ hbl hnext hsame hsd hsw
              simp only [q152_136, q152_139, q152_140, as_nil, as_i, as_r, Nat.reduceAdd, Nat.reduceLeDiff, z_eq0, z_eq1, z_or, z_em, Classical.not_not, not_false_eq_true, not_true_eq_false, true_and, and_true, false_and, and_false, and_self, true_implies, false_implies, implies_true, Option.toList_some, Option.toList_none, List.cons_append, List.nil_append, Nat.add_eq_zero_iff, a_nl_i, a_nl_r, a_nl_n, true_or, or_true, eq_self, a_isRA_22, a_isRA_24, a_isRA_32, a_isA_20, ok_4, ok_5, ok_6, ok_7, ok_9, ok_20, ok_21, ok_30, ok_50, ok_180, ok_192, ok_200, v1]
              try simp only [true_and, and_true, true_implies, false_implies, implies_true, not_true_eq_false, not_false_eq_true]
              first
                | exact hg
                | exact ⟨by decide, hg⟩
                | grind)
          clear ih hP hr hc hcJ hbl hnext hsame hsd hsw
          simp only [q152_118, q152_121, q152_122, q152_125, q152_126, q152_128, q152_129, q152_130, q152_131, q152_132, q152_133, k_35 hS, z_35, r_35_3 hS, k_38 hS, l_38 hS, z_38, as_nil, as_i, as_r, Nat.reduceAdd, Nat.reduceLeDiff, z_eq0, z_eq1, z_or, z_em, Classical.not_not, not_false_eq_true, not_true_eq_false, true_and, and_true, false_and, and_false, and_self, true_implies, false_implies, implies_true, Option.toList_some, Option.toList_none, List.cons_append, List.nil_append, Nat.add_eq_zero_iff, a_nl_i, a_nl_r, a_nl_n, true_or, or_true, eq_self, a_isRA_22, a_isRA_24, a_isRA_32, a_isA_20, ok_4, ok_5, ok_6, ok_7, ok_9, ok_20, ok_21, ok_30, ok_50, ok_180, ok_192, ok_200, c2, hai, ai0]
          try simp only [true_and, and_true, true_implies, false_implies, implies_true, not_true_eq_false, not_false_eq_true]
          repeat' first
            | with_reducible apply And.intro
            | with_reducible assumption
            | exact a50.1
            | exact a50.2
            | exact hgo
            | (right; rfl)
            | trivial
      · rw [if_neg c1]
        have hg := hsame (fun t ht et r => c1 (hsd.mpr (by
          have := rg_sw (k := (a - 1).toNatClampNeg) y17.2 r (by omega)
          rw [show (a - 1).toNatClampNeg + 1 = a.toNatClampNeg by omega, et, ht _ a1l] at this
          exact this))) (some (a_rf (R1 (C + 15) i.toNatClampNeg)))
        clear ih hP hr hc hcJ hbl hnext hsame hsd
        simp only [q152_105, as_nil, as_i, as_r, Nat.reduceAdd, Nat.reduceLeDiff, z_eq0, z_eq1, z_or, z_em, Classical.not_not, not_false_eq_true, not_true_eq_false, true_and, and_true, false_and, and_false, and_self, true_implies, false_implies, implies_true, Option.toList_some, Option.toList_none, List.cons_append, List.nil_append, Nat.add_eq_zero_iff, a_nl_i, a_nl_r, a_nl_n, true_or, or_true, eq_self, a_isRA_22, a_isRA_24, a_isRA_32, a_isA_20, ok_4, ok_5, ok_6, ok_7, ok_9, ok_20, ok_21, ok_30, ok_50, ok_180, ok_192, ok_200]
        try simp only [true_and, and_true, true_implies, false_implies, implies_true, not_true_eq_false, not_false_eq_true]
        first
          | exact hg
          | grind
    clear ih hP hr hc hcJ hbl hnext hsame hsd
    simp only [q152_68, q152_69, q152_72, q152_75, q152_78, q152_79, q152_82, q152_84, q152_87, q152_89, q152_91, q152_94, q152_95, q152_98, q152_99, q152_100, q152_102, k_35 hS, z_35, r_35_0 hS, k_14 hS, z_14, r_35_2 hS, k_37 hS, l_37 hS, z_37, sp_askAt hS gA, as_nil, as_i, as_r, Nat.reduceAdd, Nat.reduceLeDiff, z_eq0, z_eq1, z_or, z_em, Classical.not_not, not_false_eq_true, not_true_eq_false, true_and, and_true, false_and, and_false, and_self, true_implies, false_implies, implies_true, Option.toList_some, Option.toList_none, List.cons_append, List.nil_append, Nat.add_eq_zero_iff, a_nl_i, a_nl_r, a_nl_n, true_or, or_true, eq_self, a_isRA_22, a_isRA_24, a_isRA_32, a_isA_20, ok_4, ok_5, ok_6, ok_7, ok_9, ok_20, ok_21, ok_30, ok_50, ok_180, ok_192, ok_200, e4, hia, hai, ai0, nc, gf30]
    try simp only [true_and, and_true, true_implies, false_implies, implies_true, not_true_eq_false, not_false_eq_true]
    first
      | exact hmain
      | grind
  · have e := (lp_end h1 ci).2
    have c' : Y 0 17 ≤ i := Int32.not_lt.mp ci
    have hg := hP 0 J R1 g hq es hs hR (Or.inl ⟨rfl, bl_no amn hbl c'⟩)
    clear ih hP hr hc hcJ hbl
    simp only [q152_68, q152_69, q152_72, q152_75, q152_147, q152_148, k_35 hS, z_35, r_35_0 hS, k_14 hS, z_14, as_nil, as_i, as_r, Nat.reduceAdd, Nat.reduceLeDiff, z_eq0, z_eq1, z_or, z_em, Classical.not_not, not_false_eq_true, not_true_eq_false, true_and, and_true, false_and, and_false, and_self, true_implies, false_implies, implies_true, Option.toList_some, Option.toList_none, List.cons_append, List.nil_append, Nat.add_eq_zero_iff, a_nl_i, a_nl_r, a_nl_n, true_or, or_true, eq_self, a_isRA_22, a_isRA_24, a_isRA_32, a_isA_20, ok_4, ok_5, ok_6, ok_7, ok_9, ok_20, ok_21, ok_30, ok_50, ok_180, ok_192, ok_200, e4, c']
    try simp only [true_and, and_true, true_implies, false_implies, implies_true, not_true_eq_false, not_false_eq_true]
    first
      | exact hg
      | exact ⟨by decide, hg⟩
      | grind
theorem kc_all (hT0 : cT C K L I R) (hc : cpP C K L I R Y) (hse : seP C R Y) {m : Int32} (hm : 2 ≤ m ∧ m ≤ 5) : ∀ z, kcP C c n t K L I R Y m z := by
  intro z
  have y17 := hc.2.2.2.2.2.2.2.2.1
  have s0 := Int32.le_iff_toInt_le.mp hm.1
  have s1 := Int32.le_iff_toInt_le.mp hm.2
  have c1 : (1 : Int32).toInt = 1 := rfl
  have c2 : (2 : Int32).toInt = 2 := rfl
  have c5 : (5 : Int32).toInt = 5 := rfl
  have mn : 2 ≤ m.toNatClampNeg ∧ m.toNatClampNeg ≤ 5 := by
    have : (m.toNatClampNeg : Int) = m.toInt := by
      show ((m.toInt.toNat : Nat) : Int) = _
      omega
    omega
  -- the first and the last one so far
  have pre : ∀ (a : Int32) (g : Nat → Int32) (J : Nat → Nat → Int32) (R1 : Nat → Nat → Nat), 1 ≤ a → a ≤ m → fqP C c n t K L I R J R1 → mbP C R1 Y a.toNatClampNeg g → (K (R1 (C + 15) (g 0).toNatClampNeg) = 1 ∧ ¬ (R1 (C + 15) (g 0).toNatClampNeg) = 0 ∧ J (R1 (C + 15) (g 0).toNatClampNeg) 4 = g 0 ∧ R1 (C + 38) (0 : Int32).toNatClampNeg = (R1 (C + 15) (g 0).toNatClampNeg)) ∧ (K (R1 (C + 15) (g (a - 1).toNatClampNeg).toNatClampNeg) = 1 ∧ ¬ (R1 (C + 15) (g (a - 1).toNatClampNeg).toNatClampNeg) = 0 ∧ J (R1 (C + 15) (g (a - 1).toNatClampNeg).toNatClampNeg) 4 = (g (a - 1).toNatClampNeg) ∧ R1 (C + 38) (a - 1).toNatClampNeg = (R1 (C + 15) (g (a - 1).toNatClampNeg).toNatClampNeg)) ∧ (0 ≤ (g (a - 1).toNatClampNeg) ∧ (g (a - 1).toNatClampNeg) < 30) ∧ (0 ≤ a - 1 ∧ a - 1 < 5) ∧ ((0 ≤ g 0 ∧ g 0 < Y 0 17) ∧ (0 ≤ (g (a - 1).toNatClampNeg) ∧ (g (a - 1).toNatClampNeg) < Y 0 17)) := fun a g J R1 h1 h2 hq hb => by
    obtain ⟨e1, a1, a1l, b0, b5, apos⟩ := a_1 h1 (Int32.le_trans h2 hm.2)
    have hcJ := fq_cp hT0 hc hq
    obtain ⟨⟨p0, p1⟩, er0⟩ := hb 0 (by omega)
    obtain ⟨⟨q0, q1⟩, er1⟩ := hb (a - 1).toNatClampNeg a1l
    obtain ⟨-, ⟨h1, h2, h3⟩, -⟩ := aa_of hcJ p0 p1
    obtain ⟨-, ⟨k1, k2, k3⟩, -⟩ := aa_of hcJ q0 q1
    exact ⟨⟨h1, h2, h3, er0⟩, ⟨k1, k2, k3, er1⟩, ⟨q0, Int32.lt_of_lt_of_le q1 y17.2⟩, ⟨b0, b5⟩, ⟨p0, p1⟩, ⟨q0, q1⟩⟩
  induction z with
  | zero =>
    intro a g J R1 D P h1 ha hD hq es hs hb pf hP
    obtain ⟨E, rfl⟩ : ∃ E, D = E + 20 := ⟨D - 20, by omega⟩
    have ea : a = m := Int32.toInt_inj.mp (by omega)
    subst ea
    obtain ⟨⟨k0, y0, n0, r0⟩, ⟨k1, y1, n1, r1⟩, g29, x5, gg0, gg1⟩ := pre a g J R1 h1 (Int32.le_refl _) hq hb
    obtain ⟨e1, a1, a1l, b0, b5, apos⟩ := a_1 h1 hm.2
    have hT := hq.1.1
    have hS := hT.s
    have hcJ := fq_cp hT0 hc hq
    have hseJ := fq_se hT0 hc hse hq
    have g30 : 0 ≤ g 0 ∧ g 0 < 30 := ⟨gg0.1, Int32.lt_of_lt_of_le gg0.2 y17.2⟩
    have hsd := sd_at hs gg1 gg0 y17.2 (pf.1 _ a1l)
    have rng : ∀ k, k < a.toNatClampNeg → 0 ≤ g k ∧ g k < Y 0 17 := fun k hk => (hb k hk).1
    have hno : (¬ rgA Y a.toNatClampNeg g) → noR Y a.toNatClampNeg a.toNatClampNeg g := fun h t ht r => h (rgA_c (by omega) ht r)
    have hmain : a_does (E + 19) 130 [.int (J (C + 37) (g (a - 1).toNatClampNeg).toNatClampNeg), .int (g 0)] (n, t, K, L, J, R1) (fun r h' => a_at (E + 19) (a_xm a_m152) 45 [some (a_rf (C + 35)), some (.int a), some (.int (g 0)), some (.int (g (a - 1).toNatClampNeg)), none, none] (r.toList ++ []) h' P) := by
      refine ce_isIn (d := E + 18) g30 ?_
      by_cases c1 : bq (J (C + 37) (g (a - 1).toNatClampNeg).toNatClampNeg) (g 0).toNatClampNeg = true
      · rw [if_pos c1]
        have hcl := hsd.mp c1
        rw [e1] at hcl
        obtain ⟨hS1, hsu⟩ := pf_all y17.2 mn.1 rng pf hcl
        have hct := ce_canTurn (d := E + 13) (n := n) (t := t) hT hcJ hseJ (pf_tu hb pf) (z := a) rfl ⟨h1, hm.2⟩ es hsu (P := fun r h' => a_at (E + 19) (a_xm a_m152) 52 [some (a_rf (C + 35)), some (.int a), some (.int (g 0)), some (.int (g (a - 1).toNatClampNeg)), none, none] (r.toList ++ []) h' P) (fun v J2 T2 f2 hv hvv => by
          have hS2 := T2.s
          have q2 := fq_T hq T2 (fun x j a1 a2 _ _ a5 a6 a7 => f2 x j a1 a2 a5 a6 a7)
          have es2 : J2 (C + 35) 7 = a := (f2 _ _ (by omega) (by omega) (by omega) (by omega) (by omega)).trans es
          have s2 : sdP C Y (Y 0 17).toNatClampNeg J2 := fun q x1 x2 => by
            have := f2 (C + 37) q.toNatClampNeg (by omega) (by omega) (by omega) (by omega) (by omega)
            rw [this]
            exact hs q x1 x2
          by_cases c2 : v = 1
          · have hg := hP 1 J2 R1 g q2 es2 s2 (fun _ _ => rfl) (Or.inr ⟨rfl, fun _ _ => rfl, ⟨⟨hS1, hvv.mp c2⟩, fun t ht ⟨k, k1, k2, k3⟩ => absurd k3 (by rw [ht k k1]; exact Int32.lt_irrefl)⟩, hb⟩)
            clear hP hc hcJ hsd hno hvv pre
            simp only [q152_52, q152_55, q152_56, q152_59, q152_60, as_nil, as_i, as_r, Nat.reduceAdd, Nat.reduceLeDiff, z_eq0, z_eq1, z_or, z_em, Classical.not_not, not_false_eq_true, not_true_eq_false, true_and, and_true, false_and, and_false, and_self, true_implies, false_implies, implies_true, Option.toList_some, Option.toList_none, List.cons_append, List.nil_append, Nat.add_eq_zero_iff, a_nl_i, a_nl_r, a_nl_n, true_or, or_true, eq_self, a_isRA_22, a_isRA_24, a_isRA_32, a_isA_20, ok_4, ok_5, ok_6, ok_7, ok_9, ok_20, ok_21, ok_30, ok_50, ok_180, ok_192, ok_200, c2]
            try simp only [true_and, and_true, true_implies, false_implies, implies_true, not_true_eq_false, not_false_eq_true]
            first
              | exact hg
              | exact ⟨by decide, hg⟩
              | grind
          · have c3 := hv.resolve_right c2
            have hg := hP 0 J2 R1 g q2 es2 s2 (fun _ _ => rfl) (Or.inl ⟨rfl, hno (fun r => c2 (hvv.mpr r.2))⟩)
            clear hP hc hcJ hsd hno hvv pre
            simp only [q152_52, q152_55, q152_56, q152_59, q152_60, as_nil, as_i, as_r, Nat.reduceAdd, Nat.reduceLeDiff, z_eq0, z_eq1, z_or, z_em, Classical.not_not, not_false_eq_true, not_true_eq_false, true_and, and_true, false_and, and_false, and_self, true_implies, false_implies, implies_true, Option.toList_some, Option.toList_none, List.cons_append, List.nil_append, Nat.add_eq_zero_iff, a_nl_i, a_nl_r, a_nl_n, true_or, or_true, eq_self, a_isRA_22, a_isRA_24, a_isRA_32, a_isA_20, ok_4, ok_5, ok_6, ok_7, ok_9, ok_20, ok_21, ok_30, ok_50, ok_180, ok_192, ok_200, c3]
            try simp only [true_and, and_true, true_implies, false_implies, implies_true, not_true_eq_false, not_false_eq_true]
            first
              | exact hg
              | exact ⟨by decide, hg⟩
              | grind)
        clear hP hc hcJ hsd hno pre
        simp only [q152_45, q152_48, q152_49, k_35 hS, z_35, as_nil, as_i, as_r, Nat.reduceAdd, Nat.reduceLeDiff, z_eq0, z_eq1, z_or, z_em, Classical.not_not, not_false_eq_true, not_true_eq_false, true_and, and_true, false_and, and_false, and_self, true_implies, false_implies, implies_true, Option.toList_some, Option.toList_none, List.cons_append, List.nil_append, Nat.add_eq_zero_iff, a_nl_i, a_nl_r, a_nl_n, true_or, or_true, eq_self, a_isRA_22, a_isRA_24, a_isRA_32, a_isA_20, ok_4, ok_5, ok_6, ok_7, ok_9, ok_20, ok_21, ok_30, ok_50, ok_180, ok_192, ok_200]
        try simp only [true_and, and_true, true_implies, false_implies, implies_true, not_true_eq_false, not_false_eq_true]
        first
          | exact hct
          | grind
      · rw [if_neg c1]
        have hg := hP 0 J R1 g hq es hs (fun _ _ => rfl) (Or.inl ⟨rfl, hno (fun r => c1 (hsd.mpr (by
          have := rg_cl y17.2 mn.1 r
          rw [← e1] at this
          exact this)))⟩)
        clear hP hc hcJ hsd hno pre
        simp only [q152_45, q152_48, q152_49, q152_52, q152_55, q152_56, q152_59, q152_60, k_35 hS, z_35, as_nil, as_i, as_r, Nat.reduceAdd, Nat.reduceLeDiff, z_eq0, z_eq1, z_or, z_em, Classical.not_not, not_false_eq_true, not_true_eq_false, true_and, and_true, false_and, and_false, and_self, true_implies, false_implies, implies_true, Option.toList_some, Option.toList_none, List.cons_append, List.nil_append, Nat.add_eq_zero_iff, a_nl_i, a_nl_r, a_nl_n, true_or, or_true, eq_self, a_isRA_22, a_isRA_24, a_isRA_32, a_isA_20, ok_4, ok_5, ok_6, ok_7, ok_9, ok_20, ok_21, ok_30, ok_50, ok_180, ok_192, ok_200]
        try simp only [true_and, and_true, true_implies, false_implies, implies_true, not_true_eq_false, not_false_eq_true]
        first
          | exact hg
          | exact ⟨by decide, hg⟩
          | grind
    clear hP hc hcJ hsd hno pre
    rw [a_enter1 (M := a_m152) rfl (a_cat_rf (a_cat_int a_cat_nil)) (show 2 ≤ 6 by decide)]
    show a_at _ (a_xm a_m152) 0 [some (a_rf (C + 35)), some (.int a), none, none, none, none] [] _ _
    simp only [q152_0, q152_1, q152_4, q152_5, q152_6, q152_9, q152_10, q152_11, q152_14, q152_15, q152_16, q152_17, q152_18, q152_21, q152_22, q152_23, q152_24, q152_27, q152_30, q152_31, q152_32, q152_35, q152_36, q152_39, q152_40, q152_41, q152_42, k_35 hS, z_35, r_35_3 hS, k_38 hS, l_38 hS, z_38, r_35_2 hS, k_37 hS, l_37 hS, z_37, as_nil, as_i, as_r, Nat.reduceAdd, Nat.reduceLeDiff, z_eq0, z_eq1, z_or, z_em, Classical.not_not, not_false_eq_true, not_true_eq_false, true_and, and_true, false_and, and_false, and_self, true_implies, false_implies, implies_true, Option.toList_some, Option.toList_none, List.cons_append, List.nil_append, Nat.add_eq_zero_iff, a_nl_i, a_nl_r, a_nl_n, true_or, or_true, eq_self, a_isRA_22, a_isRA_24, a_isRA_32, a_isA_20, ok_4, ok_5, ok_6, ok_7, ok_9, ok_20, ok_21, ok_30, ok_50, ok_180, ok_192, ok_200, r0, r1, k0, k1, y0, y1, n0, n1, es, Int32.le_refl]
    try simp only [true_and, and_true, true_implies, false_implies, implies_true, not_true_eq_false, not_false_eq_true]
    first
      | exact ⟨by decide, x5, g29, hmain⟩
      | exact ⟨x5, g29, hmain⟩
      | grind
  | succ z ih =>
    intro a g J R1 D P h1 ha hD hq es hs hb pf hP
    obtain ⟨E, rfl⟩ : ∃ E, D = E + 20 := ⟨D - 20, by omega⟩
    have h1i := Int32.le_iff_toInt_le.mp h1
    have ham : a < m := by rw [Int32.lt_iff_toInt_lt]; omega
    obtain ⟨⟨k0, y0, n0, r0⟩, ⟨k1, y1, n1, r1⟩, g29, x5, gg0, gg1⟩ := pre a g J R1 h1 (Int32.le_of_lt ham) hq hb
    obtain ⟨ee1, a1, a1l, b0, b5, apos⟩ := a_1 h1 (Int32.le_trans (Int32.le_of_lt ham) hm.2)
    have hT := hq.1.1
    have hS := hT.s
    have nm : ¬ m ≤ a := Int32.not_le.mpr ham
    have a5 : a < 5 := Int32.lt_of_lt_of_le ham hm.2
    have e1 : (a + 1).toInt = a.toInt + 1 := by rw [ti_add (by omega)]; omega
    have hl0 : 0 ≤ g 0 + 1 ∧ g 0 + 1 ≤ Y 0 17 ∧ g 0 < g 0 + 1 ∧ g 0 + 1 ≤ 30 := by clear hP hc ih pre hs hb pf; grind
    have amn : a.toNatClampNeg < m.toNatClampNeg := cl_lt (Int32.le_of_lt apos) ham
    have hl := fun u => le_closes_66 (E := E) (n := n) (t := t) (P := P) (R0 := R1) hT0 hc hm h1 ham (fun g J R1 P q e s b p hP => ih (a + 1) g J R1 (E + 19) P (by rw [Int32.le_iff_toInt_le]; omega) (by omega) (by omega) q e s b p hP) pf hP (g 0 + 1) hl0.2.2.2 J R1 u hl0.1 hl0.2.1 hq es hs hb (fun _ _ => rfl) hl0.2.2.1 (fun t ht h r => by
      have := (r.1.2.1 (a.toNatClampNeg - 1) (by omega)).1
      rw [show a.toNatClampNeg - 1 + 1 = a.toNatClampNeg by omega, ht 0 (by omega)] at this
      clear hP hc ih pre hs hb pf
      grind)
    clear hP hc ih pre
    rw [a_enter1 (M := a_m152) rfl (a_cat_rf (a_cat_int a_cat_nil)) (show 2 ≤ 6 by decide)]
    show a_at _ (a_xm a_m152) 0 [some (a_rf (C + 35)), some (.int a), none, none, none, none] [] _ _
    simp only [q152_0, q152_1, q152_4, q152_5, q152_6, q152_9, q152_10, q152_11, q152_14, q152_15, q152_16, q152_17, q152_18, q152_21, q152_22, q152_23, q152_24, q152_27, q152_30, q152_31, q152_32, q152_35, q152_36, q152_39, q152_40, q152_41, q152_42, q152_45, q152_48, q152_49, q152_52, q152_55, q152_56, q152_59, q152_60, q152_61, q152_62, q152_63, q152_64, k_35 hS, z_35, r_35_3 hS, k_38 hS, l_38 hS, z_38, r_35_2 hS, k_37 hS, l_37 hS, z_37, as_nil, as_i, as_r, Nat.reduceAdd, Nat.reduceLeDiff, z_eq0, z_eq1, z_or, z_em, Classical.not_not, not_false_eq_true, not_true_eq_false, true_and, and_true, false_and, and_false, and_self, true_implies, false_implies, implies_true, Option.toList_some, Option.toList_none, List.cons_append, List.nil_append, Nat.add_eq_zero_iff, a_nl_i, a_nl_r, a_nl_n, true_or, or_true, eq_self, a_isRA_22, a_isRA_24, a_isRA_32, a_isA_20, ok_4, ok_5, ok_6, ok_7, ok_9, ok_20, ok_21, ok_30, ok_50, ok_180, ok_192, ok_200, r0, r1, k0, k1, y0, y1, n0, n1, es, nm, a5]
    try simp only [true_and, and_true, true_implies, false_implies, implies_true, not_true_eq_false, not_false_eq_true]
    first
      | exact ⟨by decide, x5, hl _⟩
      | exact ⟨x5, hl _⟩
      | grind
end ZY0
end
section
/-! the class: find, ring -/
section ZZ0
variable {d n t C c : Nat} {K L : Nat → Nat} {I I0 J J0 J1 J2 : Nat → Nat → Int32} {R : Nat → Nat → Nat} {P : Option Value → AH → Prop}
variable {Y Z W : Nat → Nat → Int32} {R' R1 R2 : Nat → Nat → Nat}
theorem le_find_44 (hT0 : cT C K L I R) (hc : cpP C K L I R Y) (hse : seP C R Y) {m : Int32} (hm : 2 ≤ m ∧ m ≤ 5) (hno : (∀ z t, 2 ≤ z → z < m.toNatClampNeg → ¬ rgA Y z t)) (hP : ∀ (v : Int32) J R1 g, fqP C c n t K L I R J R1 → J (C + 35) 7 = v → (v = 0 ∨ (2 ≤ v ∧ v ≤ 5)) → rgR Y v.toNatClampNeg g → mbP C R1 Y v.toNatClampNeg g → P (some (.int v)) (n, t, K, L, J, R1)) (hn : ∀ J R1 u, fqP C c n t K L I R J R1 → sdP C Y (Y 0 17).toNatClampNeg J → (∀ t, ¬ rgA Y m.toNatClampNeg t) → a_at (d + 40) (a_xm a_m150) 94 [some (a_rf (C + 35)), some (.int m), u] [] (n, t, K, L, J, R1) P) : ∀ i : Int32, i ≤ 30 → ∀ J R1, 0 ≤ i → i ≤ Y 0 17 → fqP C c n t K L I R J R1 → J (C + 35) 7 = m → sdP C Y (Y 0 17).toNatClampNeg J → blR Y m.toNatClampNeg 0 (fun _ => 0) i → a_at (d + 40) (a_xm a_m150) 44 [some (a_rf (C + 35)), some (.int m), some (.int i)] [] (n, t, K, L, J, R1) P := by
  have y17 := hc.2.2.2.2.2.2.2.2.1
  have s0 := Int32.le_iff_toInt_le.mp hm.1
  have s1 := Int32.le_iff_toInt_le.mp hm.2
  have c1 : (1 : Int32).toInt = 1 := rfl
  have c2 : (2 : Int32).toInt = 2 := rfl
  have c5 : (5 : Int32).toInt = 5 := rfl
  have mn : 2 ≤ m.toNatClampNeg ∧ m.toNatClampNeg ≤ 5 := by
    have : (m.toNatClampNeg : Int) = m.toInt := by
      show ((m.toInt.toNat : Nat) : Int) = _
      omega
    omega
  refine up_ind 30 (fun i hk ih => ?_)
  intro J R1 h0 h1 hq es hs hbl
  have hT := hq.1.1
  have hS := hT.s
  have gA := hT.g_asksR
  have gB := hT.g_benchesR
  have gX := hT.g_textsR
  have hcJ := fq_cp hT0 hc hq
  have e4 : J (C + 14) 4 = Y 0 17 := hcJ.2.2.1.1
  rw [q150_44]
  by_cases ci : i < Y 0 17
  · obtain ⟨t1, t2, t3, t4⟩ := lp_st h0 ci
    have hi30 : 0 ≤ i ∧ i < 30 := ⟨h0, Int32.lt_of_lt_of_le ci y17.2⟩
    have hia : 0 ≤ i ∧ i < Y 0 17 ∧ i < 30 := ⟨h0, ci, hi30.2⟩
    obtain ⟨-, ⟨hai, ai0, -⟩, -, ali⟩ := aa_of hcJ h0 ci
    have nc : ¬ Y 0 17 ≤ i := Int32.not_le.mpr ci
    have hnext : (∀ t, t 0 = i → ¬ rgA Y m.toNatClampNeg t) → ∀ J R1, fqP C c n t K L I R J R1 → J (C + 35) 7 = m → sdP C Y (Y 0 17).toNatClampNeg J → a_at (d + 40) (a_xm a_m150) 88 [some (a_rf (C + 35)), some (.int m), some (.int i)] [] (n, t, K, L, J, R1) P := fun hv J R1 hq es hs => by
      have hS := hq.1.1.s
      have hg := ih hi30.2 J R1 t2 t3 hq es hs (bl_up hi30.2 hbl (fun t _ e => hv t e))
      clear ih hP hn hc hcJ hbl
      simp only [q150_88, q150_91, as_nil, as_i, as_r, Nat.reduceAdd, Nat.reduceLeDiff, z_eq0, z_eq1, z_or, z_em, Classical.not_not, not_false_eq_true, not_true_eq_false, true_and, and_true, false_and, and_false, and_self, true_implies, false_implies, implies_true, Option.toList_some, Option.toList_none, List.cons_append, List.nil_append, Nat.add_eq_zero_iff, a_nl_i, a_nl_r, a_nl_n, true_or, or_true, eq_self, a_isRA_22, a_isRA_24, a_isRA_32, a_isA_20, ok_4, ok_5, ok_6, ok_7, ok_9, ok_20, ok_21, ok_30, ok_50, ok_180, ok_192, ok_200]
      exact hg
    have hsd := hs i h0 (cl_lt h0 ci)
    have q2 := fq_R (j := 0) hq (Or.inr hai)
    by_cases c0 : J (C + 37) i.toNatClampNeg = 0
    · have hg := hnext (fun t et r => by
        have mv := (r.1.1 0 (by omega)).2
        rw [et] at mv
        have sw := rg_sw y17.2 r (k := 0) (by omega)
        rw [et] at sw
        have := (sd_at hs ⟨h0, ci⟩ (r.1.1 1 (by omega)).1 y17.2 mv).mpr sw
        rw [c0, bq_0] at this
        exact Bool.false_ne_true this) J (a_ur R1 (C + 38) 0 (R1 (C + 15) i.toNatClampNeg)) q2 es hs
      clear ih hP hn hc hcJ hbl hnext
      simp only [q150_45, q150_46, q150_49, q150_52, q150_55, q150_56, q150_59, q150_60, q150_61, q150_64, q150_65, q150_68, q150_69, q150_70, q150_73, q150_74, q150_75, k_35 hS, z_35, r_35_0 hS, k_14 hS, z_14, r_35_3 hS, k_38 hS, l_38 hS, z_38, r_35_2 hS, k_37 hS, l_37 hS, z_37, sp_askAt hS gA, as_nil, as_i, as_r, Nat.reduceAdd, Nat.reduceLeDiff, z_eq0, z_eq1, z_or, z_em, Classical.not_not, not_false_eq_true, not_true_eq_false, true_and, and_true, false_and, and_false, and_self, true_implies, false_implies, implies_true, Option.toList_some, Option.toList_none, List.cons_append, List.nil_append, Nat.add_eq_zero_iff, a_nl_i, a_nl_r, a_nl_n, true_or, or_true, eq_self, a_isRA_22, a_isRA_24, a_isRA_32, a_isA_20, ok_4, ok_5, ok_6, ok_7, ok_9, ok_20, ok_21, ok_30, ok_50, ok_180, ok_192, ok_200, ur_ap, cc_ne, Nat.reduceEqDiff, if_false, e4, hia, nc, cn00, hai, c0, hi30]
      try simp only [true_and, and_true, true_implies, false_implies, implies_true, not_true_eq_false, not_false_eq_true]
      repeat' first
        | with_reducible apply And.intro
        | exact hg
        | decide
        | (right; rfl)
        | trivial
    · have mv : mvY Y i := Classical.byContradiction (fun h => c0 (hsd.2 h))
      have hmb : mbP C (a_ur R1 (C + 38) 0 (R1 (C + 15) i.toNatClampNeg)) Y (1 : Int32).toNatClampNeg (fun _ => i) := fun k hk => by
        have hk : k < 1 := hk
        have e : k = 0 := by omega
        rw [e, ur_ap, if_pos ⟨rfl, rfl⟩, ur_ap, if_neg (by omega)]
        exact ⟨⟨h0, ci⟩, rfl⟩
      have hcl := kc_all (n := n) (t := t) hT0 hc hse hm (m.toInt - 1).toNat 1 (fun _ => i) J (a_ur R1 (C + 38) 0 (R1 (C + 15) i.toNatClampNeg)) (d + 40) (fun r' h' => a_at (d + 40) (a_xm a_m150) 83 [some (a_rf (C + 35)), some (.int m), some (.int i)] (r'.toList ++ []) h' P) (by decide) (by omega) (by omega) q2 es hs hmb ⟨fun _ _ => mv, fun x hx => absurd hx (by show ¬ x + 1 < 1; omega), fun x y hxy hy => absurd hy (by show ¬ y < 1; omega)⟩ (fun v J2 R2 g2 q3 es3 s3 _ h3 => by
        have hS2 := q3.1.1.s
        rcases h3 with ⟨v0, h3⟩ | ⟨v1, g3e, h3, hb3⟩
        · have hg := hnext (fun t et => h3 t (fun j hj => by
            have hj : j < 1 := hj
            rw [show j = 0 by omega]
            exact et)) J2 R2 q3 es3 s3
          clear ih hP hn hc hcJ hbl hnext
          simp only [q150_83, as_nil, as_i, as_r, Nat.reduceAdd, Nat.reduceLeDiff, z_eq0, z_eq1, z_or, z_em, Classical.not_not, not_false_eq_true, not_true_eq_false, true_and, and_true, false_and, and_false, and_self, true_implies, false_implies, implies_true, Option.toList_some, Option.toList_none, List.cons_append, List.nil_append, Nat.add_eq_zero_iff, a_nl_i, a_nl_r, a_nl_n, true_or, or_true, eq_self, a_isRA_22, a_isRA_24, a_isRA_32, a_isA_20, ok_4, ok_5, ok_6, ok_7, ok_9, ok_20, ok_21, ok_30, ok_50, ok_180, ok_192, ok_200, v0]
          try simp only [true_and, and_true, true_implies, false_implies, implies_true, not_true_eq_false, not_false_eq_true]
          first
            | exact hg
            | grind
        · have g0 : g2 0 = i := g3e 0 (by decide)
          have hf : fsR Y m.toNatClampNeg 0 g2 := bl_fs (by omega) (by rw [g0]; exact fun t _ => hbl t (fun j hj => absurd hj (Nat.not_lt_zero j))) h3
          have hg := hP m J2 R2 g2 q3 es3 (Or.inr hm) (Or.inr ⟨mn, hf.1, hno, fun t ht => hf.2 t (fun j hj => absurd hj (Nat.not_lt_zero j)) ht⟩) hb3
          clear ih hP hn hc hcJ hbl hnext
          simp only [q150_83, q150_86, q150_87, as_nil, as_i, as_r, Nat.reduceAdd, Nat.reduceLeDiff, z_eq0, z_eq1, z_or, z_em, Classical.not_not, not_false_eq_true, not_true_eq_false, true_and, and_true, false_and, and_false, and_self, true_implies, false_implies, implies_true, Option.toList_some, Option.toList_none, List.cons_append, List.nil_append, Nat.add_eq_zero_iff, a_nl_i, a_nl_r, a_nl_n, true_or, or_true, eq_self, a_isRA_22, a_isRA_24, a_isRA_32, a_isA_20, ok_4, ok_5, ok_6, ok_7, ok_9, ok_20, ok_21, ok_30, ok_50, ok_180, ok_192, ok_200, v1]
          try simp only [true_and, and_true, true_implies, false_implies, implies_true, not_true_eq_false, not_false_eq_true]
          first
            | exact hg
            | exact ⟨by decide, hg⟩
            | grind)
      clear ih hP hn hc hcJ hbl hnext
      simp only [q150_45, q150_46, q150_49, q150_52, q150_55, q150_56, q150_59, q150_60, q150_61, q150_64, q150_65, q150_68, q150_69, q150_70, q150_73, q150_74, q150_75, q150_78, q150_79, q150_80, k_35 hS, z_35, r_35_0 hS, k_14 hS, z_14, r_35_3 hS, k_38 hS, l_38 hS, z_38, r_35_2 hS, k_37 hS, l_37 hS, z_37, sp_askAt hS gA, as_nil, as_i, as_r, Nat.reduceAdd, Nat.reduceLeDiff, z_eq0, z_eq1, z_or, z_em, Classical.not_not, not_false_eq_true, not_true_eq_false, true_and, and_true, false_and, and_false, and_self, true_implies, false_implies, implies_true, Option.toList_some, Option.toList_none, List.cons_append, List.nil_append, Nat.add_eq_zero_iff, a_nl_i, a_nl_r, a_nl_n, true_or, or_true, eq_self, a_isRA_22, a_isRA_24, a_isRA_32, a_isA_20, ok_4, ok_5, ok_6, ok_7, ok_9, ok_20, ok_21, ok_30, ok_50, ok_180, ok_192, ok_200, ur_ap, cc_ne, Nat.reduceEqDiff, if_false, e4, hia, nc, cn00, hai, c0, hi30]
      try simp only [true_and, and_true, true_implies, false_implies, implies_true, not_true_eq_false, not_false_eq_true]
      repeat' first
        | with_reducible apply And.intro
        | exact hcl
        | decide
        | (right; rfl)
        | trivial
  · have e := (lp_end h1 ci).2
    have c' : Y 0 17 ≤ i := Int32.not_lt.mp ci
    have hg := hn J R1 (some (.int i)) hq hs (fun t => bl_no (by omega) hbl c' t (fun j hj => absurd hj (Nat.not_lt_zero j)))
    clear ih hP hn hc hcJ hbl
    simp only [q150_45, q150_46, q150_49, q150_52, k_35 hS, z_35, r_35_0 hS, k_14 hS, z_14, as_nil, as_i, as_r, Nat.reduceAdd, Nat.reduceLeDiff, z_eq0, z_eq1, z_or, z_em, Classical.not_not, not_false_eq_true, not_true_eq_false, true_and, and_true, false_and, and_false, and_self, true_implies, false_implies, implies_true, Option.toList_some, Option.toList_none, List.cons_append, List.nil_append, Nat.add_eq_zero_iff, a_nl_i, a_nl_r, a_nl_n, true_or, or_true, eq_self, a_isRA_22, a_isRA_24, a_isRA_32, a_isA_20, ok_4, ok_5, ok_6, ok_7, ok_9, ok_20, ok_21, ok_30, ok_50, ok_180, ok_192, ok_200, e4, c']
    try simp only [true_and, and_true, true_implies, false_implies, implies_true, not_true_eq_false, not_false_eq_true]
    first
      | exact hg
      | grind
theorem le_find_32 (hT0 : cT C K L I R) (hc : cpP C K L I R Y) (hse : seP C R Y) (hP : ∀ (v : Int32) J R1 g, fqP C c n t K L I R J R1 → J (C + 35) 7 = v → (v = 0 ∨ (2 ≤ v ∧ v ≤ 5)) → rgR Y v.toNatClampNeg g → mbP C R1 Y v.toNatClampNeg g → P (some (.int v)) (n, t, K, L, J, R1)) : ∀ m : Int32, m ≤ 6 → ∀ J R1 u, 2 ≤ m → fqP C c n t K L I R J R1 → sdP C Y (Y 0 17).toNatClampNeg J → (∀ z t, 2 ≤ z → z < m.toNatClampNeg → ¬ rgA Y z t) → a_at (d + 40) (a_xm a_m150) 32 [some (a_rf (C + 35)), some (.int m), u] [] (n, t, K, L, J, R1) P := by
  have y17 := hc.2.2.2.2.2.2.2.2.1
  refine up_ind 6 (fun m hk ih => ?_)
  intro J R1 u q0 hq hs hno
  have hT := hq.1.1
  have hS := hT.s
  have hup : m < 6 → (m + 1).toNatClampNeg = m.toNatClampNeg + 1 ∧ 2 ≤ m + 1 := fun w => ⟨(lp_st (Int32.le_trans (by decide) q0) w).2.2.2, by clear ih hP hc hno; grind⟩
  have fsz : ∀ v : Int32, 0 ≤ v ∧ v ≤ 5 → fqP C c n t K L I R (a_ui J (C + 35) 7 v) R1 ∧ sdP C Y (Y 0 17).toNatClampNeg (a_ui J (C + 35) 7 v) := fun v hv => ⟨fq_T hq (sT_Circle_size hT hv) (fun x j _ _ a3 _ _ _ _ => by rw [ui_ap, if_neg (fun e => a3 e.1)]), fun q x1 x2 => by
    rw [ui_ap, if_neg (by omega)]
    have := hs q x1 x2
    exact this⟩
  rw [q150_32]
  by_cases ci : 5 < m
  · have em : m = 6 := by clear ih hP hc hno; grind
    obtain ⟨q2, -⟩ := fsz 0 (by decide)
    have hg := hP 0 _ R1 (fun _ => 0) q2 (by rw [ui_ap, if_pos ⟨rfl, rfl⟩]) (Or.inl rfl) (Or.inl ⟨rfl, fun z t z1 z2 => hno z t z1 (by rw [em]; show z < 6; omega)⟩) (fun k hk => absurd hk (Nat.not_lt_zero k))
    clear ih hP hc hno fsz
    simp only [q150_33, q150_34, q150_100, q150_101, q150_102, q150_105, q150_106, k_35 hS, z_35, as_nil, as_i, as_r, Nat.reduceAdd, Nat.reduceLeDiff, z_eq0, z_eq1, z_or, z_em, Classical.not_not, not_false_eq_true, not_true_eq_false, true_and, and_true, false_and, and_false, and_self, true_implies, false_implies, implies_true, Option.toList_some, Option.toList_none, List.cons_append, List.nil_append, Nat.add_eq_zero_iff, a_nl_i, a_nl_r, a_nl_n, true_or, or_true, eq_self, a_isRA_22, a_isRA_24, a_isRA_32, a_isA_20, ok_4, ok_5, ok_6, ok_7, ok_9, ok_20, ok_21, ok_30, ok_50, ok_180, ok_192, ok_200, ui_ap, cc_ne, cc_n0, cc_0n, Nat.reduceEqDiff, reduceIte, if_true, if_false, ci]
    try simp only [true_and, and_true, true_implies, false_implies, implies_true, not_true_eq_false, not_false_eq_true]
    first
      | exact hg
      | exact ⟨by decide, hg⟩
      | grind
  · have hm : 2 ≤ m ∧ m ≤ 5 := ⟨q0, Int32.not_lt.mp ci⟩
    have m6 : m < 6 := Int32.lt_of_le_of_lt hm.2 (by decide)
    obtain ⟨u1, u2⟩ := hup m6
    have mn := cl_lt (i := 1) (j := m) (by decide) (Int32.lt_of_lt_of_le (by decide) q0)
    have mn2 : 1 < m.toNatClampNeg := mn
    obtain ⟨q2, s2⟩ := fsz m ⟨Int32.le_trans (by decide) hm.1, hm.2⟩
    have hg := le_find_44 (d := d) (n := n) (t := t) (P := P) hT0 hc hse hm hno hP (fun J R1 u hq hs hall => by
      have hS := hq.1.1.s
      have hg := ih m6 J R1 u u2 hq hs (fun z t z1 z2 => by
        rw [u1] at z2
        by_cases e : z = m.toNatClampNeg
        · rw [e]; exact hall t
        · exact hno z t z1 (by omega))
      clear ih hP hc hno
      simp only [q150_94, q150_97, as_nil, as_i, as_r, Nat.reduceAdd, Nat.reduceLeDiff, z_eq0, z_eq1, z_or, z_em, Classical.not_not, not_false_eq_true, not_true_eq_false, true_and, and_true, false_and, and_false, and_self, true_implies, false_implies, implies_true, Option.toList_some, Option.toList_none, List.cons_append, List.nil_append, Nat.add_eq_zero_iff, a_nl_i, a_nl_r, a_nl_n, true_or, or_true, eq_self, a_isRA_22, a_isRA_24, a_isRA_32, a_isA_20, ok_4, ok_5, ok_6, ok_7, ok_9, ok_20, ok_21, ok_30, ok_50, ok_180, ok_192, ok_200]
      exact hg) 0 (by decide) _ R1 (by decide) y17.1 q2 (by rw [ui_ap, if_pos ⟨rfl, rfl⟩]) s2 (bl_0 (by omega))
    clear ih hP hc hno fsz
    simp only [q150_33, q150_34, q150_37, q150_38, q150_39, q150_42, q150_43, k_35 hS, z_35, as_nil, as_i, as_r, Nat.reduceAdd, Nat.reduceLeDiff, z_eq0, z_eq1, z_or, z_em, Classical.not_not, not_false_eq_true, not_true_eq_false, true_and, and_true, false_and, and_false, and_self, true_implies, false_implies, implies_true, Option.toList_some, Option.toList_none, List.cons_append, List.nil_append, Nat.add_eq_zero_iff, a_nl_i, a_nl_r, a_nl_n, true_or, or_true, eq_self, a_isRA_22, a_isRA_24, a_isRA_32, a_isA_20, ok_4, ok_5, ok_6, ok_7, ok_9, ok_20, ok_21, ok_30, ok_50, ok_180, ok_192, ok_200, ui_ap, cc_ne, cc_n0, cc_0n, Nat.reduceEqDiff, reduceIte, if_true, if_false, ci]
    try simp only [true_and, and_true, true_implies, false_implies, implies_true, not_true_eq_false, not_false_eq_true]
    first
      | exact hg
      | grind
theorem le_find_2 (hT0 : cT C K L I R) (hc : cpP C K L I R Y) (hw : ∀ a o : Nat, a < 30 → o < 30 → (bq (I (C + 36) a) o = true ↔ ¬ Y 47 (30 * a + o) = 0)) (hse : seP C R Y) (hP : ∀ (v : Int32) J R1 g, fqP C c n t K L I R J R1 → J (C + 35) 7 = v → (v = 0 ∨ (2 ≤ v ∧ v ≤ 5)) → rgR Y v.toNatClampNeg g → mbP C R1 Y v.toNatClampNeg g → P (some (.int v)) (n, t, K, L, J, R1)) : ∀ i : Int32, i ≤ 30 → ∀ J u, 0 ≤ i → i ≤ Y 0 17 → fqP C c n t K L I R J R → sdP C Y i.toNatClampNeg J → a_at (d + 40) (a_xm a_m150) 2 [some (a_rf (C + 35)), some (.int i), u] [] (n, t, K, L, J, R) P := by
  have y17 := hc.2.2.2.2.2.2.2.2.1
  refine up_ind 30 (fun i hk ih => ?_)
  intro J u h0 h1 hq hs
  have hT := hq.1.1
  have hS := hT.s
  have hcJ := fq_cp hT0 hc hq
  have e4 : J (C + 14) 4 = Y 0 17 := hcJ.2.2.1.1
  rw [q150_2]
  by_cases ci : i < Y 0 17
  · obtain ⟨t1, t2, t3, t4⟩ := lp_st h0 ci
    have hi30 : 0 ≤ i ∧ i < 30 := ⟨h0, Int32.lt_of_lt_of_le ci y17.2⟩
    have nc : ¬ Y 0 17 ≤ i := Int32.not_le.mpr ci
    have hwJ : ∀ a o : Nat, a < 30 → o < 30 → (bq (J (C + 36) a) o = true ↔ ¬ Y 47 (30 * a + o) = 0) := fun a o ha ho => by
      rw [hq.2.2 _ _ (by omega) (by omega) (by omega) (by omega) (by omega) (by omega) (by omega)]
      exact hw a o ha ho
    have hcall := ce_soundWishes (d := d + 34) (n := n) (t := t) hT hcJ hwJ (q := i) ⟨h0, ci⟩ (P := fun r' h' => a_at (d + 40) (a_xm a_m150) 23 [some (a_rf (C + 35)), some (.int i), u] ((r'.toList ++ [.int i]) ++ [a_rf (C + 37)]) h' P) (fun w J2 j2 h3 h4 => by
      have hS2 := j2.1.s
      have q3 : fqP C c n t K L I R (a_ui J2 (C + 37) i.toNatClampNeg w) R := fq_T (fq_C hq j2) (sT_Circle_sound j2.1) (fun x j _ _ _ a4 _ _ _ => by rw [ui_ap, if_neg (fun e => a4 e.1)])
      have hg := ih hi30.2 _ u t2 t3 q3 (fun q x1 x2 => by
        rw [t4] at x2
        by_cases e : q = i
        · rw [e]
          refine ⟨fun mv k hk => ?_, fun mv => ?_⟩
          · rw [ui_ap, if_pos ⟨rfl, rfl⟩]
            exact h3 mv k hk
          · rw [ui_ap, if_pos ⟨rfl, rfl⟩]
            exact h4 mv
        · have ne : ¬ q.toNatClampNeg = i.toNatClampNeg := fun r => e (cl_inj x1 h0 r)
          have := hs q x1 (by omega)
          have f := j2.2 (C + 37) q.toNatClampNeg (by omega) (by omega)
          refine ⟨fun mv k hk => ?_, fun mv => ?_⟩
          · rw [ui_ap, if_neg (fun r => ne r.2), f]
            exact this.1 mv k hk
          · rw [ui_ap, if_neg (fun r => ne r.2), f]
            exact this.2 mv)
      clear ih hP hc hcJ hwJ hw
      simp only [q150_23, q150_24, q150_27, as_nil, as_i, as_r, Nat.reduceAdd, Nat.reduceLeDiff, z_eq0, z_eq1, z_or, z_em, Classical.not_not, not_false_eq_true, not_true_eq_false, true_and, and_true, false_and, and_false, and_self, true_implies, false_implies, implies_true, Option.toList_some, Option.toList_none, List.cons_append, List.nil_append, Nat.add_eq_zero_iff, a_nl_i, a_nl_r, a_nl_n, true_or, or_true, eq_self, a_isRA_22, a_isRA_24, a_isRA_32, a_isA_20, ok_4, ok_5, ok_6, ok_7, ok_9, ok_20, ok_21, ok_30, ok_50, ok_180, ok_192, ok_200, ui_ap, cc_ne, cc_n0, cc_0n, Nat.reduceEqDiff, reduceIte, if_true, if_false, k_37 hS2, l_37 hS2, z_37]
      try simp only [true_and, and_true, true_implies, false_implies, implies_true, not_true_eq_false, not_false_eq_true]
      first
        | exact ⟨hi30, hg⟩
        | exact hg
        | grind)
    clear ih hP hc hcJ hwJ hw
    simp only [q150_3, q150_4, q150_7, q150_10, q150_13, q150_14, q150_17, q150_18, q150_19, q150_20, k_35 hS, z_35, r_35_0 hS, k_14 hS, z_14, r_35_2 hS, k_37 hS, l_37 hS, z_37, as_nil, as_i, as_r, Nat.reduceAdd, Nat.reduceLeDiff, z_eq0, z_eq1, z_or, z_em, Classical.not_not, not_false_eq_true, not_true_eq_false, true_and, and_true, false_and, and_false, and_self, true_implies, false_implies, implies_true, Option.toList_some, Option.toList_none, List.cons_append, List.nil_append, Nat.add_eq_zero_iff, a_nl_i, a_nl_r, a_nl_n, true_or, or_true, eq_self, a_isRA_22, a_isRA_24, a_isRA_32, a_isA_20, ok_4, ok_5, ok_6, ok_7, ok_9, ok_20, ok_21, ok_30, ok_50, ok_180, ok_192, ok_200, ui_ap, cc_ne, cc_n0, cc_0n, Nat.reduceEqDiff, reduceIte, if_true, if_false, e4, nc]
    try simp only [true_and, and_true, true_implies, false_implies, implies_true, not_true_eq_false, not_false_eq_true]
    first
      | exact hcall
      | grind
  · have e := (lp_end h1 ci).2
    have c' : Y 0 17 ≤ i := Int32.not_lt.mp ci
    have hg := le_find_32 (d := d) (n := n) (t := t) (P := P) hT0 hc hse hP 2 (by decide) J R u (by decide) hq (by rw [← e]; exact hs) (fun z t z1 z2 => by
      have z2 : z < 2 := z2
      omega)
    clear ih hP hc hcJ hw
    simp only [q150_3, q150_4, q150_7, q150_10, q150_30, q150_31, k_35 hS, z_35, r_35_0 hS, k_14 hS, z_14, as_nil, as_i, as_r, Nat.reduceAdd, Nat.reduceLeDiff, z_eq0, z_eq1, z_or, z_em, Classical.not_not, not_false_eq_true, not_true_eq_false, true_and, and_true, false_and, and_false, and_self, true_implies, false_implies, implies_true, Option.toList_some, Option.toList_none, List.cons_append, List.nil_append, Nat.add_eq_zero_iff, a_nl_i, a_nl_r, a_nl_n, true_or, or_true, eq_self, a_isRA_22, a_isRA_24, a_isRA_32, a_isA_20, ok_4, ok_5, ok_6, ok_7, ok_9, ok_20, ok_21, ok_30, ok_50, ok_180, ok_192, ok_200, ui_ap, cc_ne, cc_n0, cc_0n, Nat.reduceEqDiff, reduceIte, if_true, if_false, e4, c']
    try simp only [true_and, and_true, true_implies, false_implies, implies_true, not_true_eq_false, not_false_eq_true]
    first
      | exact hg
      | grind
theorem ce_find (hH : cH C c n t K L I R) (hu : cuP C K L I R Y) (hP : ∀ (v : Int32) J R1 g, fqP C c n t K L I R J R1 → J (C + 35) 7 = v → (v = 0 ∨ (2 ≤ v ∧ v ≤ 5)) → rgR Y v.toNatClampNeg g → mbP C R1 Y v.toNatClampNeg g → P (some (.int v)) (n, t, K, L, J, R1)) : a_does (d + 41) 150 [a_rf (C + 35)] (n, t, K, L, I, R) P := by
  have hS := hH.1.s
  have hw := hu.2.2.1.1.2.2.2.2
  have hl := fun u => le_find_2 (d := d) (n := n) (t := t) (P := P) hH.1 hu.1 hw hu.2.1 hP 0 (by decide) I u (by decide) hu.1.2.2.2.2.2.2.2.2.1.1 (fq_refl hH) (fun q _ x2 => absurd x2 (Nat.not_lt_zero _))
  clear hP hu hw
  rw [a_enter1 (M := a_m150) rfl (a_cat_rf a_cat_nil) (show 1 ≤ 3 by decide)]
  show a_at _ (a_xm a_m150) 0 [some (a_rf (C + 35)), none, none] [] _ _
  simp only [q150_0, q150_1, as_nil, as_i, as_r, Nat.reduceAdd, Nat.reduceLeDiff, z_eq0, z_eq1, z_or, z_em, Classical.not_not, not_false_eq_true, not_true_eq_false, true_and, and_true, false_and, and_false, and_self, true_implies, false_implies, implies_true, Option.toList_some, Option.toList_none, List.cons_append, List.nil_append, Nat.add_eq_zero_iff, a_nl_i, a_nl_r, a_nl_n, true_or, or_true, eq_self, a_isRA_22, a_isRA_24, a_isRA_32, a_isA_20, ok_4, ok_5, ok_6, ok_7, ok_9, ok_20, ok_21, ok_30, ok_50, ok_180, ok_192, ok_200, ui_ap, cc_ne, cc_n0, cc_0n, Nat.reduceEqDiff, reduceIte, if_true, if_false]
  exact hl _
/-- what ring answers -/
def rgV (m : Nat) (g : Nat → Int32) (w : Int32) : Int32 := if w = -1 then Int32.ofNat m else if w < Int32.ofNat m then g w.toNatClampNeg else -9
def rgO (Y : Nat → Nat → Int32) (w v : Int32) : Prop := (w < -1 ∧ v = -2) ∨ (¬ w < -1 ∧ ∃ m g, rgR Y m g ∧ v = rgV m g w)
theorem rgV_u {m z : Nat} {g t : Nat → Int32} {w : Int32} (hw : ¬ w < -1) (h : rgR Y m g) (h2 : rgR Y z t) : rgV z t w = rgV m g w := by
  obtain ⟨e1, e2⟩ := rgR_u h h2
  have m5 : m ≤ 5 := by
    rcases h with ⟨h, -⟩ | ⟨h, -⟩ <;> omega
  subst e1
  unfold rgV
  by_cases c1 : w = -1
  · rw [if_pos c1, if_pos c1]
  · rw [if_neg c1, if_neg c1]
    by_cases c2 : w < Int32.ofNat z
    · have w0 : 0 ≤ w := by clear h h2 e2 c2; grind
      have ez : (Int32.ofNat z).toNatClampNeg = z := (on_p (p := z) (by omega)).2.2.1
      have := cl_lt w0 c2
      rw [if_pos c2, if_pos c2, e2 _ (by omega)]
    · rw [if_neg c2, if_neg c2]
theorem rgO_u {w v u : Int32} (h : rgO Y w v) (h2 : rgO Y w u) : v = u := by
  rcases h with ⟨h, e⟩ | ⟨h, m, g, r, e⟩
  · rcases h2 with ⟨q, f⟩ | ⟨q, z, t, s, f⟩
    · rw [e, f]
    · exact absurd h q
  · rcases h2 with ⟨q, f⟩ | ⟨q, z, t, s, f⟩
    · exact absurd q h
    · rw [e, f]
      exact rgV_u h s r
theorem ce_memberAt (hT : cT C K L I R) (hc : cpP C K L I R Y) {g : Nat → Int32} {q z : Int32} (hz : 0 ≤ z ∧ z ≤ 5) (es : I (C + 35) 7 = z) (hb : mbP C R Y z.toNatClampNeg g) (hP : P (some (.int (if 0 ≤ q ∧ q < z then g q.toNatClampNeg else -9))) (n, t, K, L, I, R)) : a_does (d + 1) 157 [a_rf (C + 35), .int q] (n, t, K, L, I, R) P := by
  have hS := hT.s
  by_cases c : 0 ≤ q ∧ q < z
  · have q5 : 0 ≤ q ∧ q < 5 := ⟨c.1, Int32.lt_of_lt_of_le c.2 hz.2⟩
    obtain ⟨⟨g0, g1⟩, er⟩ := hb q.toNatClampNeg (cl_lt c.1 c.2)
    obtain ⟨-, ⟨ha, a0, a4⟩, -⟩ := aa_of hc g0 g1
    have nq : ¬ q < 0 := Int32.not_lt.mpr c.1
    have nz : ¬ z ≤ q := Int32.not_le.mpr c.2
    rw [if_pos c] at hP
    clear hc hb
    rw [a_enter1 (M := a_m157) rfl (a_cat_rf (a_cat_int a_cat_nil)) (show 2 ≤ 2 by decide)]
    show a_at _ (a_xm a_m157) 0 [some (a_rf (C + 35)), some (.int q)] [] _ _
    simp only [q157_0, q157_1, q157_4, q157_5, q157_6, q157_9, q157_12, q157_13, q157_16, q157_17, q157_18, q157_21, q157_24, q157_26, k_35 hS, z_35, r_35_3 hS, k_38 hS, l_38 hS, z_38, as_nil, as_i, as_r, Nat.reduceAdd, Nat.reduceLeDiff, z_eq0, z_eq1, z_or, z_em, Classical.not_not, not_false_eq_true, not_true_eq_false, true_and, and_true, false_and, and_false, and_self, true_implies, false_implies, implies_true, Option.toList_some, Option.toList_none, List.cons_append, List.nil_append, Nat.add_eq_zero_iff, a_nl_i, a_nl_r, a_nl_n, true_or, or_true, eq_self, a_isRA_22, a_isRA_24, a_isRA_32, a_isA_20, ok_4, ok_5, ok_6, ok_7, ok_9, ok_20, ok_21, ok_30, ok_50, ok_180, ok_192, ok_200, es, er, ha, a0, a4, q5, nq, nz]
    try simp only [true_and, and_true, true_implies, false_implies, implies_true, not_true_eq_false, not_false_eq_true]
    first
      | exact hP
      | exact ⟨q5, hP⟩
      | grind
  · rw [if_neg c] at hP
    clear hc hb
    rw [a_enter1 (M := a_m157) rfl (a_cat_rf (a_cat_int a_cat_nil)) (show 2 ≤ 2 by decide)]
    show a_at _ (a_xm a_m157) 0 [some (a_rf (C + 35)), some (.int q)] [] _ _
    simp only [q157_0, q157_1, q157_4, q157_5, q157_6, q157_9, q157_12, q157_13, q157_16, q157_17, q157_18, q157_21, q157_24, q157_26, k_35 hS, z_35, r_35_3 hS, k_38 hS, l_38 hS, z_38, as_nil, as_i, as_r, Nat.reduceAdd, Nat.reduceLeDiff, z_eq0, z_eq1, z_or, z_em, Classical.not_not, not_false_eq_true, not_true_eq_false, true_and, and_true, false_and, and_false, and_self, true_implies, false_implies, implies_true, Option.toList_some, Option.toList_none, List.cons_append, List.nil_append, Nat.add_eq_zero_iff, a_nl_i, a_nl_r, a_nl_n, true_or, or_true, eq_self, a_isRA_22, a_isRA_24, a_isRA_32, a_isA_20, ok_4, ok_5, ok_6, ok_7, ok_9, ok_20, ok_21, ok_30, ok_50, ok_180, ok_192, ok_200, es]
    try simp only [true_and, and_true, true_implies, false_implies, implies_true, not_true_eq_false, not_false_eq_true]
    grind
theorem ge_ring (hH : cH C c (n + 1) t K L I R) (hu : cuP C K L I R Y) {w : Int32} (hP : ∀ v J R1, rgO Y w v → cH C c (n + 1) t K L J R1 → cuP C K L J R1 Y → P (some (.int v)) (n + 1, t, K, L, J, R1)) : a_does (d + 70) 149 [a_rf C, .int w] (n + 1, t, K, L, I, R) P := by
  have hS := hH.1.s
  by_cases c1 : w < -1
  · have hl := ge_refuse (d := d + 68) (v := -2) hH hu (P := fun r' h' => a_at (d + 69) (a_xm a_m149) 11 [some (a_rf C), some (.int w), none] (r'.toList ++ []) h' P) (fun J z u2 => by
      have hS2 := z.1.s
      have hp := hP (-2) J R (Or.inl ⟨c1, rfl⟩) z u2
      clear hP hu
      simp only [q149_11, as_nil, as_i, as_r, Nat.reduceAdd, Nat.reduceLeDiff, z_eq0, z_eq1, z_or, z_em, Classical.not_not, not_false_eq_true, not_true_eq_false, true_and, and_true, false_and, and_false, and_self, true_implies, false_implies, implies_true, Option.toList_some, Option.toList_none, List.cons_append, List.nil_append, Nat.add_eq_zero_iff, a_nl_i, a_nl_r, a_nl_n, true_or, or_true, eq_self, a_isRA_22, a_isRA_24, a_isRA_32, a_isA_20, ok_4, ok_5, ok_6, ok_7, ok_9, ok_20, ok_21, ok_30, ok_50, ok_180, ok_192, ok_200]
      exact hp)
    clear hP hu
    rw [a_enter1 (M := a_m149) rfl (a_cat_rf (a_cat_int a_cat_nil)) (show 2 ≤ 3 by decide)]
    show a_at _ (a_xm a_m149) 0 [some (a_rf C), some (.int w), none] [] _ _
    simp only [q149_0, q149_1, q149_2, q149_5, q149_6, q149_8, k_0 hS, z_C hS, as_nil, as_i, as_r, Nat.reduceAdd, Nat.reduceLeDiff, z_eq0, z_eq1, z_or, z_em, Classical.not_not, not_false_eq_true, not_true_eq_false, true_and, and_true, false_and, and_false, and_self, true_implies, false_implies, implies_true, Option.toList_some, Option.toList_none, List.cons_append, List.nil_append, Nat.add_eq_zero_iff, a_nl_i, a_nl_r, a_nl_n, true_or, or_true, eq_self, a_isRA_22, a_isRA_24, a_isRA_32, a_isA_20, ok_4, ok_5, ok_6, ok_7, ok_9, ok_20, ok_21, ok_30, ok_50, ok_180, ok_192, ok_200, c1]
    try simp only [true_and, and_true, true_implies, false_implies, implies_true, not_true_eq_false, not_false_eq_true]
    first
      | exact hl
      | grind
  · have hl := ce_find (d := d + 28) (n := n + 1) hH hu (P := fun r' h' => a_at (d + 69) (a_xm a_m149) 19 [some (a_rf C), some (.int w), none] (r'.toList ++ []) h' P) (fun v J R1 g q es hv hr hb => by
      have hT2 := q.1.1
      have hS := hT2.s
      have hu2 := fq_cu hH hu q
      have v05 : 0 ≤ v ∧ v ≤ 5 := by clear hP hu hu2 hr hb q; grind
      have eo : v = Int32.ofNat v.toNatClampNeg := on_cl v05.1
      by_cases c2 : w = -1
      · have hp := hP v J R1 (Or.inr ⟨c1, _, g, hr, by unfold rgV; rw [if_pos c2]; exact eo⟩) q.1 hu2
        clear hP hu hu2 hr hb q
        simp only [q149_19, q149_20, q149_21, q149_22, q149_25, q149_26, q149_37, as_nil, as_i, as_r, Nat.reduceAdd, Nat.reduceLeDiff, z_eq0, z_eq1, z_or, z_em, Classical.not_not, not_false_eq_true, not_true_eq_false, true_and, and_true, false_and, and_false, and_self, true_implies, false_implies, implies_true, Option.toList_some, Option.toList_none, List.cons_append, List.nil_append, Nat.add_eq_zero_iff, a_nl_i, a_nl_r, a_nl_n, true_or, or_true, eq_self, a_isRA_22, a_isRA_24, a_isRA_32, a_isA_20, ok_4, ok_5, ok_6, ok_7, ok_9, ok_20, ok_21, ok_30, ok_50, ok_180, ok_192, ok_200, c2]
        try simp only [true_and, and_true, true_implies, false_implies, implies_true, not_true_eq_false, not_false_eq_true]
        first
          | exact hp
          | grind
      · have w0 : 0 ≤ w := by clear hP hu hu2 hr hb q; grind
        have hp := hP _ J R1 (Or.inr ⟨c1, _, g, hr, rfl⟩) q.1 hu2
        unfold rgV at hp
        rw [if_neg c2, ← eo] at hp
        have hm := ce_memberAt (d := d + 68) (n := n + 1) (t := t) (q := w) hT2 hu2.1 v05 es hb (P := fun r' h' => a_at (d + 69) (a_xm a_m149) 37 [some (a_rf C), some (.int w), some (.int v)] (r'.toList ++ []) h' P) (by
          by_cases c3 : w < v
          · rw [if_pos c3] at hp
            rw [if_pos ⟨w0, c3⟩]
            clear hP hu hu2 hr hb q
            simp only [q149_37, as_nil, as_i, as_r, Nat.reduceAdd, Nat.reduceLeDiff, z_eq0, z_eq1, z_or, z_em, Classical.not_not, not_false_eq_true, not_true_eq_false, true_and, and_true, false_and, and_false, and_self, true_implies, false_implies, implies_true, Option.toList_some, Option.toList_none, List.cons_append, List.nil_append, Nat.add_eq_zero_iff, a_nl_i, a_nl_r, a_nl_n, true_or, or_true, eq_self, a_isRA_22, a_isRA_24, a_isRA_32, a_isA_20, ok_4, ok_5, ok_6, ok_7, ok_9, ok_20, ok_21, ok_30, ok_50, ok_180, ok_192, ok_200]
            exact hp
          · rw [if_neg c3] at hp
            rw [if_neg (fun q => c3 q.2)]
            clear hP hu hu2 hr hb q
            simp only [q149_37, as_nil, as_i, as_r, Nat.reduceAdd, Nat.reduceLeDiff, z_eq0, z_eq1, z_or, z_em, Classical.not_not, not_false_eq_true, not_true_eq_false, true_and, and_true, false_and, and_false, and_self, true_implies, false_implies, implies_true, Option.toList_some, Option.toList_none, List.cons_append, List.nil_append, Nat.add_eq_zero_iff, a_nl_i, a_nl_r, a_nl_n, true_or, or_true, eq_self, a_isRA_22, a_isRA_24, a_isRA_32, a_isA_20, ok_4, ok_5, ok_6, ok_7, ok_9, ok_20, ok_21, ok_30, ok_50, ok_180, ok_192, ok_200]
            exact hp)
        clear hP hu hu2 hr hb q hp
        simp only [q149_19, q149_20, q149_21, q149_22, q149_25, q149_26, q149_29, q149_30, q149_33, q149_34, k_0 hS, z_C hS, r_0_7 hS, k_35 hS, z_35, as_nil, as_i, as_r, Nat.reduceAdd, Nat.reduceLeDiff, z_eq0, z_eq1, z_or, z_em, Classical.not_not, not_false_eq_true, not_true_eq_false, true_and, and_true, false_and, and_false, and_self, true_implies, false_implies, implies_true, Option.toList_some, Option.toList_none, List.cons_append, List.nil_append, Nat.add_eq_zero_iff, a_nl_i, a_nl_r, a_nl_n, true_or, or_true, eq_self, a_isRA_22, a_isRA_24, a_isRA_32, a_isA_20, ok_4, ok_5, ok_6, ok_7, ok_9, ok_20, ok_21, ok_30, ok_50, ok_180, ok_192, ok_200, c2]
        try simp only [true_and, and_true, true_implies, false_implies, implies_true, not_true_eq_false, not_false_eq_true]
        first
          | exact hm
          | grind)
    clear hP hu
    rw [a_enter1 (M := a_m149) rfl (a_cat_rf (a_cat_int a_cat_nil)) (show 2 ≤ 3 by decide)]
    show a_at _ (a_xm a_m149) 0 [some (a_rf C), some (.int w), none] [] _ _
    simp only [q149_0, q149_1, q149_2, q149_5, q149_6, q149_8, q149_11, q149_12, q149_13, q149_16, k_0 hS, z_C hS, r_0_7 hS, k_35 hS, z_35, as_nil, as_i, as_r, Nat.reduceAdd, Nat.reduceLeDiff, z_eq0, z_eq1, z_or, z_em, Classical.not_not, not_false_eq_true, not_true_eq_false, true_and, and_true, false_and, and_false, and_self, true_implies, false_implies, implies_true, Option.toList_some, Option.toList_none, List.cons_append, List.nil_append, Nat.add_eq_zero_iff, a_nl_i, a_nl_r, a_nl_n, true_or, or_true, eq_self, a_isRA_22, a_isRA_24, a_isRA_32, a_isA_20, ok_4, ok_5, ok_6, ok_7, ok_9, ok_20, ok_21, ok_30, ok_50, ok_180, ok_192, ok_200, c1]
    try simp only [true_and, and_true, true_implies, false_implies, implies_true, not_true_eq_false, not_false_eq_true]
    first
      | exact hl
      | grind
end ZZ0
end
section
/-! the class: swap -/
section ZAA
variable {d n t C c : Nat} {K L : Nat → Nat} {I I0 J J0 J1 J2 : Nat → Nat → Int32} {R : Nat → Nat → Nat} {P : Option Value → AH → Prop}
variable {Y Z W : Nat → Nat → Int32} {R' R1 R2 : Nat → Nat → Nat} {K' L' : Nat → Nat} {m : Nat} {g : Nat → Int32}
/-- one's wishes are gone -/
def clW (Y : Nat → Nat → Int32) (a : Int32) : Nat → Nat → Int32 := fun k j => if k = 47 ∧ 30 * a.toNatClampNeg ≤ j ∧ j < 30 * a.toNatClampNeg + 30 then 0 else Y k j
/-- the first k of a ring have changed -/
def swS (g : Nat → Int32) (m : Nat) (Y : Nat → Nat → Int32) : Nat → Nat → Nat → Int32
  | 0 => rgU g Y m
  | k + 1 => clW (puY (swS g m Y k) (g k) (Y 20 (g (nxN m k)).toNatClampNeg) (Y 21 (g (nxN m k)).toNatClampNeg)) (g k)
def swO (Y : Nat → Nat → Int32) (v : Int32) (Z : Nat → Nat → Int32) : Prop := ∃ m g, rgR Y m g ∧ ((m = 0 ∧ v = -3 ∧ Z = Y) ∨ (¬ m = 0 ∧ v = Int32.ofNat m ∧ Z = swS g m Y m))
theorem cl_no {a : Int32} {k j : Nat} (h : ¬ k = 47) : clW Y a k j = Y k j := by unfold clW; rw [if_neg (fun e => h e.1)]
theorem swS_c {g h : Nat → Int32} {m : Nat} (e : ∀ j, j < m → g j = h j) : ∀ k, k ≤ m → swS g m Y k = swS h m Y k := by
  intro k
  induction k with
  | zero => intro _; exact rgU_c e m (Nat.le_refl _)
  | succ k ih =>
    intro hk
    unfold swS
    rw [ih (by omega), e k (by omega), e _ (nxN_lt (by omega))]
theorem swO_u {v u : Int32} {X : Nat → Nat → Int32} (h : swO Y v Z) (h2 : swO Y u X) : u = v ∧ X = Z := by
  obtain ⟨m, g, r, h⟩ := h
  obtain ⟨z, t, s, h2⟩ := h2
  obtain ⟨e1, e2⟩ := rgR_u r s
  subst e1
  rcases h with ⟨a, b, c⟩ | ⟨a, b, c⟩
  · rcases h2 with ⟨a2, b2, c2⟩ | ⟨a2, b2, c2⟩
    · exact ⟨b2.trans b.symm, c2.trans c.symm⟩
    · exact absurd a a2
  · rcases h2 with ⟨a2, b2, c2⟩ | ⟨a2, b2, c2⟩
    · exact absurd a2 a
    · exact ⟨b2.trans b.symm, c2.trans ((swS_c e2 z (Nat.le_refl _)).trans c.symm)⟩
/-- rows but the wishes and who stands are a trial's -/
theorem sw_row {q : Nat} (hq : ¬ q = 22 ∧ ¬ q = 47) : ∀ k, swS g m Y k q = rgP g m Y (rgU g Y m) k q := by
  intro k
  induction k with
  | zero => rfl
  | succ k ih =>
    funext j
    unfold swS rgP
    rw [cl_no hq.2]
    unfold puY
    rw [if_neg (fun e : q = 22 ∧ _ => hq.1 e.1), if_neg (fun e : q = 22 ∧ _ => hq.1 e.1), ih]
theorem hgI_r (e : ∀ q, q = 20 ∨ q = 21 ∨ q = 10 ∨ q = 14 → Z q = Y q) {a b s : Int32} : ∀ (k : Nat) (o x : Int32), hgI Z a b s k o x = hgI Y a b s k o x := by
  intro k
  induction k with
  | zero => intro o x; rfl
  | succ k ih =>
    intro o x
    unfold hgI
    rw [e 20 (by omega), e 21 (by omega), e 10 (by omega), e 14 (by omega), ih]
theorem hg_free (hc : cpP C K L I R Y) {b s i : Int32} (ai : 0 ≤ i ∧ i < Y 0 17) (hb : 0 ≤ b ∧ b < Y 0 6) (hs : 0 ≤ s ∧ s < 200) (un : ¬ 0 ≤ Y 20 i.toNatClampNeg) (hg : hgI Y i b s (Y 0 17).toNatClampNeg 0 0 = 0) : whC C I R b s.toNatClampNeg = -9 := by
  have hy := hc.2.2.2.2
  rw [hg_class hc.2.1.2.2.2 hy.2.1 hy.2.2.2.2.1.1 hy.2.2.2.2.2.1.1 hb hs] at hg
  refine Classical.byContradiction (fun q => ?_)
  have hi : ¬ whC C I R b s.toNatClampNeg = i := fun e => by
    have := ((who_is hc.2.1.2.2.2 hb hs ai).mp e).1
    exact un (by rw [this]; exact hb.1)
  rw [if_pos ⟨q, hi⟩] at hg
  exact absurd hg (by decide)
theorem cu_clW {m : Nat} (hH : cH C c m t K L I R) (hu : cuP C K L I R Y) {a : Int32} (ha : 0 ≤ a ∧ a < Y 0 17) : cuP C K L (a_ui I (C + 36) a.toNatClampNeg 0) R (clW Y a) := by
  have hT := hH.1
  have h17 := hu.1.2.2.2.2.2.2.2.2.1
  have a30 : a.toNatClampNeg < 30 := cl_lt ha.1 (Int32.lt_of_lt_of_le ha.2 h17.2)
  have hJ : ∀ k j, ¬ k = 36 → a_ui I (C + 36) a.toNatClampNeg 0 (C + k) j = I (C + k) j := fun k j hk => by rw [ui_ap, if_neg (by omega)]
  have hX : ∀ x j, C + 43 < x → a_ui I (C + 36) a.toNatClampNeg 0 x j = I x j := fun x j hx => by rw [ui_ap, if_neg (by omega)]
  have hz : ∀ k j : Nat, ¬ k = 47 → clW Y a k j = Y k j := fun k j h => cl_no h
  refine cu_gen hT hu ⟨fun k hk => funext (fun j => hz k j (by omega)), fun j hj => hz 0 j (by omega)⟩ (fE_of hH hX ⟨hJ 14 4 (by omega), hJ 14 5 (by omega)⟩ (hJ 7 3 (by omega))) (by rw [hJ 1 6 (by omega), hz 0 0 (by omega)]; exact hu.1.1.1) (fun j => by rw [hJ 2 j (by omega), hz 1 j (by omega)]; exact hu.1.1.2.1 j) (lsP_e hu.1.1.2.2 (fun j => hJ 3 j (by omega)) (fun k j hk => hz k j (by unfold kL at hk; omega))) ⟨by rw [hJ 14 6 (by omega), hz 0 9 (by omega)]; exact hu.1.2.1.2.1, by rw [hz 0 9 (by omega)]; exact hu.1.2.2.2.2.2.2.2.1⟩ (mr_e hu.1.2.2.1.2.1 hu.1.2.2.1.2.2.1 (fun x kx => hX _ _ (by have := (hT.g_ask x kx).1; omega)) (fun k j hk => hz k j (by unfold kK at hk; omega))) (mk_e hu.1.2.2.2.2.2.2.2.2.2.2.2.1 (fun k j hk => hz k j (by unfold kK at hk; omega))) ?_ (siT_e hu.2.2.1.2.1 (fun k j hk => hJ k j (by omega)) (fun k j hk => hz k j (by unfold kT at hk; omega))) ?_ (fun e => hX _ _ (by have := (hT.g_ask _ (hu.2.2.1.2.2.1.2 e).1).1; omega))
  · obtain ⟨⟨m1, m2⟩, m3, m4, m5, m6⟩ := hu.2.2.1.1
    refine ⟨⟨by rw [hJ _ _ (by omega), hz _ _ (by omega)]; exact m1, by rw [hJ _ _ (by omega), hz _ _ (by omega)]; exact m2⟩, fun k hk => by rw [hJ _ _ (by omega), hz 38 _ (by omega), hz 36 _ (by omega)]; exact m3 k hk, fun x y hx hy => by rw [hJ _ _ (by omega), hz 35 _ (by omega)]; exact m4 x y hx hy, fun x y hx hy => by rw [hJ _ _ (by omega), hz 37 _ (by omega)]; exact m5 x y hx hy, fun x y hx hy => ?_⟩
    unfold clW
    by_cases e : x = a.toNatClampNeg
    · rw [e, ui_ap, if_pos ⟨rfl, rfl⟩, bq_0, if_pos ⟨rfl, by omega, by omega⟩]
      exact ⟨fun q => absurd q Bool.false_ne_true, fun q => absurd rfl q⟩
    · rw [ui_ap, if_neg (fun q => e q.2), if_neg (by omega)]
      exact m6 x y hx hy
  · obtain ⟨s1, s2, s3, s4, s5, s6, s7, s8⟩ := hu.2.2.1.2.2.2
    have zr : ∀ k, ¬ k = 47 → clW Y a k = Y k := fun k h => funext (fun j => hz k j h)
    have z0 := zr 0 (by decide)
    have z47 : ∀ j, clW Y a 47 j = 0 ∨ clW Y a 47 j = Y 47 j := fun j => by
      unfold clW
      by_cases e : (47 : Nat) = 47 ∧ 30 * a.toNatClampNeg ≤ j ∧ j < 30 * a.toNatClampNeg + 30
      · rw [if_pos e]; exact Or.inl rfl
      · rw [if_neg e]; exact Or.inr rfl
    refine ⟨by rw [zr 38 (by decide), zr 37 (by decide)]; exact s1, by rw [z0, zr 37 (by decide)]; exact s2, by rw [zr 37 (by decide)]; exact s3, fun x o hx ho hxn => ?_, ?_, by rw [z0, zr 2 (by decide), zr 3 (by decide)]; exact s6, fun k => ?_, by rw [z0, zr 4 (by decide)]; exact s8⟩
    · rw [z0] at hxn
      rcases z47 (30 * x + o) with e | e
      · exact e
      · rw [e]; exact s4 x o hx ho hxn
    · intro q hq
      rw [z0] at hq
      have := s5 q hq
      unfold wtY at this ⊢
      rw [zr 29 (by decide), zr 28 (by decide)]
      exact this
    · rcases z47 k with e | e
      · rw [e]; exact Or.inl rfl
      · rw [e]; exact s7 k
end ZAA
end

/-! the class: a ring is tried just so -/
section ZS0
variable {d n t C c : Nat} {K L : Nat → Nat} {I I0 J J0 J1 J2 : Nat → Nat → Int32} {R : Nat → Nat → Nat} {P : Option Value → AH → Prop}
variable {Y Z W : Nat → Nat → Int32} {m : Nat} {g : Nat → Int32}
theorem nxt_nx {m i : Int32} (hm : m ≤ 5) (h0 : 0 ≤ i) (h : i < m) : (nxt m i).toNatClampNeg = nxN m.toNatClampNeg i.toNatClampNeg := by
  have key : ∀ a b : Fin 6, b.val < a.val → (nxt (Int32.ofNat a.val) (Int32.ofNat b.val)).toNatClampNeg = nxN (Int32.ofNat a.val).toNatClampNeg (Int32.ofNat b.val).toNatClampNeg := by decide +kernel
  have c0 : (0 : Int32).toInt = 0 := rfl
  have c5 : (5 : Int32).toInt = 5 := rfl
  have e0 := Int32.le_iff_toInt_le.mp h0
  have e1 := Int32.lt_iff_toInt_lt.mp h
  have e2 := Int32.le_iff_toInt_le.mp hm
  have em : m = Int32.ofNat (⟨m.toInt.toNat, by omega⟩ : Fin 6).val := Int32.toInt_inj.mp (by
    rw [Int32.toInt_ofNat', show Int32.size = 4294967296 from rfl]
    simp only [Int.bmod_def]
    show m.toInt = _
    omega)
  have ei : i = Int32.ofNat (⟨i.toInt.toNat, by omega⟩ : Fin 6).val := Int32.toInt_inj.mp (by
    rw [Int32.toInt_ofNat', show Int32.size = 4294967296 from rfl]
    simp only [Int.bmod_def]
    show i.toInt = _
    omega)
  have := key ⟨m.toInt.toNat, by omega⟩ ⟨i.toInt.toNat, by omega⟩ (by show i.toInt.toNat < m.toInt.toNat; omega)
  rw [← em, ← ei] at this
  exact this
theorem ix_20 {i c : Int32} (h : 0 ≤ i ∧ i < 5) (hc : 0 ≤ c ∧ c < 4) : (i * 4 + c).toNatClampNeg = 4 * i.toNatClampNeg + c.toNatClampNeg := by
  have c0 : (0 : Int32).toInt = 0 := rfl
  have c4 : (4 : Int32).toInt = 4 := rfl
  have c5 : (5 : Int32).toInt = 5 := rfl
  have e0 := Int32.le_iff_toInt_le.mp h.1
  have e1 := Int32.lt_iff_toInt_lt.mp h.2
  have e2 := Int32.le_iff_toInt_le.mp hc.1
  have e3 := Int32.lt_iff_toInt_lt.mp hc.2
  have em : (i * 4).toInt = i.toInt * 4 := by
    rw [Int32.toInt_mul, c4]
    simp only [Int.bmod_def]
    omega
  have e : (i * 4 + c).toInt = i.toInt * 4 + c.toInt := by rw [ti_add (by omega), em]
  have t1 : ∀ x : Int32, 0 ≤ x.toInt → (x.toNatClampNeg : Int) = x.toInt := fun x hx => by
    show ((x.toInt.toNat : Nat) : Int) = _
    omega
  have f0 := t1 i (by omega)
  have f1 := t1 c (by omega)
  have f2 := t1 (i * 4 + c) (by omega)
  omega
theorem suI_b (h : sbE Y Z) {a b s : Int32} : ∀ (k : Nat) (x : Int32), suI Z a b s k x = suI Y a b s k x := by
  intro k
  induction k with
  | zero => intro x; rfl
  | succ k ih =>
    intro x
    unfold suI
    rw [fxY_b h, wtA_b h, sbE_r h (k := 7) (by omega), sbE_r h (k := 16) (by omega), sbE_r h (k := 17) (by omega), ih]
theorem suB_b (h : sbE Y Z) {a b s : Int32} : suB Z a b s = suB Y a b s := by
  unfold suB
  rw [sbE_r h (k := 10) (by omega), suI_b h]
theorem cx_lift (hT : cT C K L I R) (hc : cpP C K L I R Y) (hse : seP C R Y) {a : Nat} {i : Int32} (ap : aaP C K I Y i a) (haa : (R (C + 15) i.toNatClampNeg) = a) (pa : 0 ≤ Y 20 i.toNatClampNeg) (hP : ∀ J, dL C K L R I J → cpP C K L J R (unY Y i) → (∀ x j, ¬ ((x = (R (C + 16) (Y 20 i.toNatClampNeg).toNatClampNeg) + 1 ∨ x = (R (C + 16) (Y 20 i.toNatClampNeg).toNatClampNeg) + 2) ∧ (Y 21 i.toNatClampNeg).toNatClampNeg ≤ j ∧ j < (Y 21 i.toNatClampNeg).toNatClampNeg + (Y 10 i.toNatClampNeg).toNatClampNeg) → ¬ (x = a ∧ (j = 13 ∨ j = 14)) → J x j = I x j) → P none (n, t, K, L, J, R)) : a_does (d + 4) 51 [a_rf (C + 14), a_rf a] (n, t, K, L, I, R) P := by
  have hS := hT.s
  obtain ⟨ai, ⟨ha, an0, a4n⟩, am, al⟩ := id ap
  obtain ⟨a1, a2, a4, a3⟩ := hT.g_ask a ha
  have a0 : (a = 0) = False := eq_false an0
  have gA := hT.g_asksR
  have gB := hT.g_benchesR
  have gX := hT.g_textsR
  have hy := hc.2.2.2.2
  have y10 := hy.2.1 i.toNatClampNeg
  have e13 : I a 13 = Y 20 i.toNatClampNeg := al.2.2.2.1.1
  have e14 : I a 14 = Y 21 i.toNatClampNeg := al.2.2.2.1.2
  have i30 : i.toNatClampNeg < 30 := a_lt30 ⟨ai.1, Int32.lt_of_lt_of_le ai.2 hy.2.2.2.2.1.2⟩
  obtain ⟨⟨p21, p200, psl⟩, p5⟩ := hy.2.2.2.2.2.2.1 _ i30 pa
  have p6 : Y 20 i.toNatClampNeg < Y 0 6 := (hc.2.1.2.2.2.1 i ai.1 ai.2 pa).1
  have s200 : 0 ≤ Y 21 i.toNatClampNeg ∧ Y 21 i.toNatClampNeg ≤ 200 := ⟨p21, p200⟩
  obtain ⟨kb, kb0, kb5, kb6⟩ := hc.2.1.2.2.1 _ pa p6
  obtain ⟨eB2, eB3, -⟩ := hse.1 _ pa p6
  obtain ⟨bB, ⟨w1, w2, w3⟩, ⟨s1, s2, s3⟩, -⟩ := hT.g_bnc _ kb
  have B1 : K ((R (C + 16) (Y 20 i.toNatClampNeg).toNatClampNeg) + 1) = 20 := by rw [← eB2]; exact w2
  have B2 : K ((R (C + 16) (Y 20 i.toNatClampNeg).toNatClampNeg) + 2) = 20 := by rw [← eB3]; exact s2
  have b6 : Y 20 i.toNatClampNeg < 6 := Int32.lt_of_lt_of_le p6 hy.2.2.2.2.2.1.2
  have hbc : 0 ≤ Y 20 i.toNatClampNeg ∧ Y 20 i.toNatClampNeg < I (C + 14) 5 ∧ Y 20 i.toNatClampNeg < 6 := ⟨pa, by rw [hc.2.1.1]; exact p6, b6⟩
  have rows : ∀ c : Int32, 0 ≤ c → c < Y 0 6 → R (R (C + 16) c.toNatClampNeg) 2 = R (C + 16) c.toNatClampNeg + 1 ∧ R (R (C + 16) c.toNatClampNeg) 3 = R (C + 16) c.toNatClampNeg + 2 ∧ ¬ R (C + 16) c.toNatClampNeg + 1 = a ∧ ¬ R (C + 16) c.toNatClampNeg + 2 = a := fun c c0 c1 => by
    obtain ⟨e1, e2, -⟩ := hse.1 c c0 c1
    have kc := (hc.2.1.2.2.1 c c0 c1).1
    obtain ⟨-, ⟨-, w1, -⟩, ⟨-, w2, -⟩, -⟩ := hT.g_bnc _ kc
    refine ⟨e1, e2, fun e => ?_, fun e => ?_⟩
    · rw [e1, e, ha] at w1
      cases w1
    · rw [e2, e, ha] at w2
      cases w2
  have hl := le_lift_14 (d := d) (n := n) (t := t) (P := P) hT ha kb eB2 eB3 s200 y10 psl e14 al.1.2.2.1 (fun J hJL hJ => by
    have hJa : ∀ x j, ¬ (x = a ∧ (j = 13 ∨ j = 14)) → a_ui (a_ui J a 13 (-9)) a 14 (-9) x j = lfI I (R (C + 16) (Y 20 i.toNatClampNeg).toNatClampNeg) (Y 21 i.toNatClampNeg) (Y 10 i.toNatClampNeg) x j := fun x j q => by
      rw [ui_ap, if_neg (by omega), ui_ap, if_neg (by omega), hJ]
    have f20 : ∀ x j, K x = 20 → ¬ x = (R (C + 16) (Y 20 i.toNatClampNeg).toNatClampNeg) + 1 → ¬ x = (R (C + 16) (Y 20 i.toNatClampNeg).toNatClampNeg) + 2 → a_ui (a_ui J a 13 (-9)) a 14 (-9) x j = I x j := fun x j kx n1 n2 => by
      rw [hJa x j (fun q => by rw [q.1, ha] at kx; cases kx)]
      unfold lfI
      rw [if_neg (fun q => n1 q.1), if_neg (fun q => n2 q.1)]
    have fk : ∀ x j, ¬ K x = 20 → ¬ (x = a ∧ (j = 13 ∨ j = 14)) → a_ui (a_ui J a 13 (-9)) a 14 (-9) x j = I x j := fun x j kx n1 => by
      rw [hJa x j n1]
      unfold lfI
      rw [if_neg (fun q => kx (by rw [q.1]; exact B1)), if_neg (fun q => kx (by rw [q.1]; exact B2))]
    have cin : ∀ k, k ≤ 43 → ∀ j, a_ui (a_ui J a 13 (-9)) a 14 (-9) (C + k) j = I (C + k) j := fun k hk j => by
      rw [hJa _ _ (by omega)]
      unfold lfI
      rw [if_neg (by omega), if_neg (by omega)]
    refine hP _ (dL_place hJL a1 ha (fun q => absurd q (by decide))) (cp_mk hT hc unY_b (inP_un hy.2.2.2.2.2.2.1) (fun _ _ => ⟨rfl, rfl⟩) (fun _ _ _ _ _ _ _ => rfl) (fun k j hk => cin k (by omega) j) (fun x j kx n1 n2 => fk x j (by rw [kx]; decide) (by omega)) (fun x j kx _ => fk x j (by rw [kx]; decide) (fun q => by rw [q.1, ha] at kx; cases kx)) (fun x j kx => fk x j (by rw [kx]; decide) (fun q => by rw [q.1, ha] at kx; cases kx)) (fun k k0 k1 j => ?_) (fun o o0 o1 => ?_) ?_) (fun x j q1 q2 => by
      rw [hJa x j q2]
      unfold lfI
      rw [if_neg (fun q => q1 ⟨Or.inl q.1, q.2⟩), if_neg (fun q => q1 ⟨Or.inr q.1, q.2⟩)])
    · have hk := (hc.2.2.2.1.2 k k0 k1).1
      obtain ⟨q, -⟩ := hse.2.2.1 k _ k0 k1 pa p6
      exact f20 _ _ (hT.g_txt _ hk).2.2.1 (by omega) (by omega)
    · have ao := hc.2.2.1.2.1 o o0 o1
      by_cases e : o = i
      · have ea : R (C + 15) o.toNatClampNeg = a := by rw [e]; exact haa
        rw [ea, e, un_a (Or.inl rfl), un_a (Or.inr rfl), ui_ap, ui_ap, if_neg (by omega), if_pos ⟨rfl, rfl⟩, ui_ap, if_pos ⟨rfl, rfl⟩]
        exact ⟨rfl, rfl⟩
      · have ea : ¬ R (C + 15) o.toNatClampNeg = a := fun q => e (by rw [← ao.2.2, q]; exact a4n)
        have hne : ¬ o.toNatClampNeg = i.toNatClampNeg := fun q => e (cl_inj o0 ai.1 q)
        rw [fk _ _ (by rw [ao.1]; decide) (fun q => ea q.1), fk _ _ (by rw [ao.1]; decide) (fun q => ea q.1), un_o (Or.inr hne), un_o (Or.inr hne)]
        exact (hc.2.2.1.2.2.2 o o0 o1).2.2.2.1
    · refine pl_un hc.2.1.2.2.2 hy.2.1 ai pa (fun c c0 c1 j => ?_) (fun c c0 c1 j => ?_)
      · obtain ⟨e1, e2, n1, n2⟩ := rows c c0 c1
        unfold whC
        rw [e1, hJa _ _ (fun q => n1 q.1)]
        unfold lfI
        by_cases e : c = Y 20 i.toNatClampNeg
        · subst e
          by_cases q : (Y 21 i.toNatClampNeg).toNatClampNeg ≤ j ∧ j < (Y 21 i.toNatClampNeg).toNatClampNeg + (Y 10 i.toNatClampNeg).toNatClampNeg
          · rw [if_pos ⟨rfl, q⟩, if_pos ⟨rfl, q⟩]
          · rw [if_neg (fun w => q w.2), if_neg (by omega), if_neg (fun w => q w.2)]
        · have := se_ne hT hc hse ⟨c0, c1⟩ ⟨pa, p6⟩ e
          rw [if_neg (by omega), if_neg (by omega), if_neg (fun w => e w.1)]
      · obtain ⟨e1, e2, n1, n2⟩ := rows c c0 c1
        unfold snC
        rw [e2, hJa _ _ (fun q => n2 q.1)]
        unfold lfI
        by_cases e : c = Y 20 i.toNatClampNeg
        · subst e
          by_cases q : (Y 21 i.toNatClampNeg).toNatClampNeg ≤ j ∧ j < (Y 21 i.toNatClampNeg).toNatClampNeg + (Y 10 i.toNatClampNeg).toNatClampNeg
          · rw [if_neg (by omega), if_pos ⟨rfl, q⟩, if_pos ⟨rfl, q⟩]
          · rw [if_neg (by omega), if_neg (fun w => q w.2), if_neg (fun w => q w.2)]
        · have := se_ne hT hc hse ⟨c0, c1⟩ ⟨pa, p6⟩ e
          rw [if_neg (by omega), if_neg (by omega), if_neg (fun w => e w.1)]) 0 (by decide) I (Y 21 i.toNatClampNeg) (by decide) y10.1 (Int32.add_zero _).symm (dL_refl hT) (fun y j => by
    unfold lfI
    rw [show (0 : Int32).toNatClampNeg = 0 from rfl, if_neg (by omega), if_neg (by omega)])
  clear hP rows
  rw [a_enter1 (M := a_m51) rfl (a_cat_rf (a_cat_rf a_cat_nil)) (show 2 ≤ 4 by decide)]
  show a_at _ (a_xm a_m51) 0 [some (a_rf (C + 14)), some (a_rf a), none, none] [] _ _
  simp only [q51_0, q51_1, q51_2, q51_5, q51_8, q51_9, q51_10, q51_13, k_14 hS, z_14, sp_benchAt hS gB, as_nil, as_i, as_r, Nat.reduceAdd, Nat.reduceLeDiff, z_eq0, z_eq1, z_or, z_em, Classical.not_not, not_false_eq_true, not_true_eq_false, true_and, and_true, false_and, and_false, and_self, true_implies, false_implies, implies_true, Option.toList_some, Option.toList_none, List.cons_append, List.nil_append, Nat.add_eq_zero_iff, a_nl_i, a_nl_r, a_nl_n, true_or, or_true, eq_self, a_isRA_22, a_isRA_24, a_isRA_32, a_isA_20, ok_4, ok_5, ok_6, ok_7, ok_9, ok_20, ok_21, ok_30, ok_50, ok_180, ok_192, ok_200, ha, a0, hbc, kb, kb0, e13, e14]
  try simp only [true_and, and_true, true_implies, false_implies, implies_true, not_true_eq_false, not_false_eq_true]
  exact hl
theorem cx_lay (hT : cT C K L I R) (hc : cpP C K L I R Y) (hse : seP C R Y) {a : Nat} {i : Int32} (ap : aaP C K I Y i a) (haa : (R (C + 15) i.toNatClampNeg) = a) {b s w : Int32} (hb : 0 ≤ b ∧ b < Y 0 6) (hs : 0 ≤ s ∧ s ≤ 199) (hsl : s + Y 10 i.toNatClampNeg ≤ 200) (un : ¬ 0 ≤ Y 20 i.toNatClampNeg) (fr : ∀ z : Int32, 0 ≤ z → z < Y 10 i.toNatClampNeg → whC C I R b (s + z).toNatClampNeg = -9) (hw : ∀ z : Int32, 0 ≤ z → z < Y 10 i.toNatClampNeg → ((w >>> (z &&& 31)) &&& 1 = 0 ↔ ¬ 0 ≤ wtA Y 87 i b (s + z))) (hP : ∀ J, dL C K L R I J → cpP C K L J R (puY Y i b s) → (∀ x j, ¬ ((x = (R (C + 16) b.toNatClampNeg) + 1 ∨ x = (R (C + 16) b.toNatClampNeg) + 2) ∧ s.toNatClampNeg ≤ j ∧ j < s.toNatClampNeg + (Y 10 i.toNatClampNeg).toNatClampNeg) → ¬ (x = a ∧ (j = 13 ∨ j = 14)) → J x j = I x j) → P none (n, t, K, L, J, R)) : a_does (d + 4) 115 [a_rf (C + 14), a_rf a, .int b, .int s, .int w] (n, t, K, L, I, R) P := by
  have hS := hT.s
  obtain ⟨ai, ⟨ha, an0, a4n⟩, am, al⟩ := id ap
  obtain ⟨a1, a2, a4, a3⟩ := hT.g_ask a ha
  have a0 : (a = 0) = False := eq_false an0
  have gA := hT.g_asksR
  have gB := hT.g_benchesR
  have gX := hT.g_textsR
  have hy := hc.2.2.2.2
  have y10 := hy.2.1 i.toNatClampNeg
  have s200 : 0 ≤ s ∧ s ≤ 200 := ⟨hs.1, Int32.le_trans hs.2 (by decide)⟩
  obtain ⟨kb, kb0, kb5, kb6⟩ := hc.2.1.2.2.1 b hb.1 hb.2
  obtain ⟨eB2, eB3, -⟩ := hse.1 b hb.1 hb.2
  obtain ⟨bB, ⟨w1, w2, w3⟩, ⟨s1, s2, s3⟩, -⟩ := hT.g_bnc _ kb
  have aB1 : ¬ (R (C + 16) b.toNatClampNeg) + 1 = a := fun e => by rw [eB2, e, ha] at w2; cases w2
  have aB2 : ¬ (R (C + 16) b.toNatClampNeg) + 2 = a := fun e => by rw [eB3, e, ha] at s2; cases s2
  have b6 : b < 6 := Int32.lt_of_lt_of_le hb.2 hy.2.2.2.2.2.1.2
  have hbc : 0 ≤ b ∧ b < I (C + 14) 5 ∧ b < 6 := ⟨hb.1, by rw [hc.2.1.1]; exact hb.2, b6⟩
  have hpl : 0 ≤ b → 0 ≤ s ∧ s ≤ 199 ∧ s + I a 2 ≤ 200 := fun _ => ⟨hs.1, hs.2, by rw [al.1.2.2.1]; exact hsl⟩
  have hL0 := dL_place (w := b) (v := s) (dL_refl hT) a1 ha hpl
  have hl := le_lay_26 (d := d) (n := n) (t := t) (P := P) (w := w) hT hc hse ap hb s200 hsl un fr hw (fun J hJL hJ => by
    have B1 : K ((R (C + 16) b.toNatClampNeg) + 1) = 20 := by rw [← eB2]; exact w2
    have B2 : K ((R (C + 16) b.toNatClampNeg) + 2) = 20 := by rw [← eB3]; exact s2
    have f20 : ∀ x j, K x = 20 → ¬ x = (R (C + 16) b.toNatClampNeg) + 1 → ¬ x = (R (C + 16) b.toNatClampNeg) + 2 → J x j = I x j := fun x j kx n1 n2 => by
      rw [hJ, ly_k (fun q => by rw [q.1, ha] at kx; cases kx) n1 n2]
    have fk : ∀ x j, ¬ K x = 20 → ¬ (x = a ∧ (j = 13 ∨ j = 14)) → J x j = I x j := fun x j kx n1 => by
      rw [hJ, ly_k n1 (fun e => kx (by rw [e]; exact B1)) (fun e => kx (by rw [e]; exact B2))]
    have cin : ∀ k, k ≤ 43 → ∀ j, J (C + k) j = I (C + k) j := fun k hk j => by
      rw [hJ, ly_k (by omega) (by omega) (by omega)]
    refine hP J hJL (cp_mk hT hc puY_b (inP_pu hy.2.2.2.2.2.2.1 ⟨hs.1, Int32.le_trans hs.2 (by decide), hsl⟩ (by clear hJ hP fr hw; grind)) (fun _ _ => ⟨rfl, rfl⟩) (fun _ _ _ _ _ _ _ => rfl) (fun k j hk => cin k (by omega) j) (fun x j kx n1 n2 => fk x j (by rw [kx]; decide) (by omega)) (fun x j kx _ => fk x j (by rw [kx]; decide) (fun q => by rw [q.1, ha] at kx; cases kx)) (fun x j kx => fk x j (by rw [kx]; decide) (fun q => by rw [q.1, ha] at kx; cases kx)) (fun k k0 k1 j => ?_) (fun o o0 o1 => ?_) ?_) (fun x j q1 q2 => by
      rw [hJ]
      unfold lyI
      rw [if_neg (fun q => q2 ⟨q.1, Or.inl q.2⟩), if_neg (fun q => q2 ⟨q.1, Or.inr q.2⟩), if_neg (fun q => q1 ⟨Or.inl q.1, q.2⟩), if_neg (fun q => q1 ⟨Or.inr q.1, q.2⟩)])
    · have hk := (hc.2.2.2.1.2 k k0 k1).1
      obtain ⟨q, -⟩ := hse.2.2.1 k b k0 k1 hb.1 hb.2
      exact f20 _ _ (hT.g_txt _ hk).2.2.1 (by omega) (by omega)
    · have ao := hc.2.2.1.2.1 o o0 o1
      by_cases e : o = i
      · have ea : R (C + 15) o.toNatClampNeg = a := by rw [e]; exact haa
        rw [ea, hJ, hJ, e, pu_pp, pp_20, pp_21]
        unfold lyI
        rw [if_pos ⟨rfl, rfl⟩, if_neg (by omega), if_pos ⟨rfl, rfl⟩]
        exact ⟨rfl, rfl⟩
      · have ea : ¬ R (C + 15) o.toNatClampNeg = a := fun q => e (by rw [← ao.2.2, q]; exact a4n)
        have hne : ¬ o.toNatClampNeg = i.toNatClampNeg := fun q => e (cl_inj o0 ai.1 q)
        rw [fk _ _ (by rw [ao.1]; decide) (fun q => ea q.1), fk _ _ (by rw [ao.1]; decide) (fun q => ea q.1), pu_pp, pp_o (Or.inr ⟨hne, by omega⟩), pp_o (Or.inr ⟨hne, by omega⟩)]
        exact (hc.2.2.1.2.2.2 o o0 o1).2.2.2.1
    · rw [pu_pp]
      exact ly_pl hT hc hse ap hb s200 y10 hsl un fr hJ) 0 (by decide) (a_ui (a_ui I a 13 b) a 14 s) none none none none (by decide) y10.1 hL0 (fun y j => by
    unfold lyI
    rw [ui_ap, ui_ap, show (0 : Int32).toNatClampNeg = 0 from rfl]
    by_cases e1 : y = a ∧ j = 13
    · rw [if_neg (by omega), if_pos e1, if_pos e1]
    · by_cases e2 : y = a ∧ j = 14
      · rw [if_pos e2, if_neg e1, if_pos e2]
      · rw [if_neg e2, if_neg e1, if_neg e1, if_neg e2, if_neg (by omega), if_neg (by omega)])
  clear hP fr hw hL0 hpl
  rw [a_enter1 (M := a_m115) rfl (a_cat_rf (a_cat_rf (a_cat_int (a_cat_int (a_cat_int a_cat_nil))))) (show 5 ≤ 11 by decide)]
  show a_at _ (a_xm a_m115) 0 [some (a_rf (C + 14)), some (a_rf a), some (.int b), some (.int s), some (.int w), none, none, none, none, none, none] [] _ _
  simp only [q115_0, q115_1, q115_2, q115_5, q115_7, q115_9, q115_12, q115_13, q115_14, q115_15, q115_18, q115_19, q115_20, q115_23, q115_24, k_14 hS, z_14, sp_benchAt hS gB, as_nil, as_i, as_r, Nat.reduceAdd, Nat.reduceLeDiff, z_eq0, z_eq1, z_or, z_em, Classical.not_not, not_false_eq_true, not_true_eq_false, true_and, and_true, false_and, and_false, and_self, true_implies, false_implies, implies_true, Option.toList_some, Option.toList_none, List.cons_append, List.nil_append, Nat.add_eq_zero_iff, a_nl_i, a_nl_r, a_nl_n, true_or, or_true, eq_self, a_isRA_22, a_isRA_24, a_isRA_32, a_isA_20, ok_4, ok_5, ok_6, ok_7, ok_9, ok_20, ok_21, ok_30, ok_50, ok_180, ok_192, ok_200, ha, a0, hbc, kb, kb0]
  try simp only [true_and, and_true, true_implies, false_implies, implies_true, not_true_eq_false, not_false_eq_true]
  exact hl
/-- the members of a tuple have places of like length -/
def tuP (C : Nat) (R : Nat → Nat → Nat) (Y : Nat → Nat → Int32) (m : Nat) (g : Nat → Int32) : Prop := (∀ k, k < m → (0 ≤ g k ∧ g k < Y 0 17) ∧ 0 ≤ Y 20 (g k).toNatClampNeg ∧ R (C + 38) k = R (C + 15) (g k).toNatClampNeg) ∧ (∀ k j, k < m → j < m → (g k).toNatClampNeg = (g j).toNatClampNeg → k = j) ∧ ∀ k, k < m → Y 10 (g k).toNatClampNeg = (Y 10 (g 0).toNatClampNeg)
/-- the cells of a member's place -/
def plc (C : Nat) (R : Nat → Nat → Nat) (Y : Nat → Nat → Int32) (g : Nat → Int32) (k x j : Nat) : Prop := ((x = (R (C + 16) (Y 20 (g k).toNatClampNeg).toNatClampNeg) + 1 ∨ x = (R (C + 16) (Y 20 (g k).toNatClampNeg).toNatClampNeg) + 2) ∧ (Y 21 (g k).toNatClampNeg).toNatClampNeg ≤ j ∧ j < (Y 21 (g k).toNatClampNeg).toNatClampNeg + (Y 10 (g 0).toNatClampNeg).toNatClampNeg) ∨ (x = R (C + 15) (g k).toNatClampNeg ∧ (j = 13 ∨ j = 14))
/-- all but the cells of places p .. m is the same -/
def qF (C : Nat) (R : Nat → Nat → Nat) (Y : Nat → Nat → Int32) (g : Nat → Int32) (p m : Nat) (I J : Nat → Nat → Int32) : Prop := ∀ x j, ¬ x = C + 9 → ¬ x = C + 10 → (∀ k, p ≤ k → k < m → ¬ plc C R Y g k x j) → J x j = I x j
theorem tp_pl (hc : cpP C K L I R Y) (tp : tuP C R Y m g) {k : Nat} (hk : k < m) : (0 ≤ Y 20 (g k).toNatClampNeg ∧ Y 20 (g k).toNatClampNeg < Y 0 6) ∧ (0 ≤ (Y 21 (g k).toNatClampNeg) ∧ (Y 21 (g k).toNatClampNeg) ≤ 199) ∧ (Y 21 (g k).toNatClampNeg) + (Y 10 (g 0).toNatClampNeg) ≤ 200 ∧ (1 ≤ (Y 10 (g 0).toNatClampNeg) ∧ (Y 10 (g 0).toNatClampNeg) ≤ 4) ∧ Y 10 (g k).toNatClampNeg = (Y 10 (g 0).toNatClampNeg) := by
  have hy := hc.2.2.2.2
  obtain ⟨⟨a0, a1⟩, pa, er⟩ := tp.1 k hk
  have e10 := tp.2.2 k hk
  have l1 := hy.2.2.1 (g k) a0 a1
  have l4 := (hy.2.1 (g k).toNatClampNeg).2
  have i30 : (g k).toNatClampNeg < 30 := a_lt30 ⟨a0, Int32.lt_of_lt_of_le a1 hy.2.2.2.2.1.2⟩
  obtain ⟨⟨p21, p200, psl⟩, p5⟩ := hy.2.2.2.2.2.2.1 _ i30 pa
  have p6 := (hc.2.1.2.2.2.1 (g k) a0 a1 pa).1
  rw [e10] at psl l1 l4
  exact ⟨⟨pa, p6⟩, ⟨p21, by clear hc hy tp; grind⟩, psl, ⟨l1, l4⟩, e10⟩
theorem tp_B (hT : cT C K L I R) (hc : cpP C K L I R Y) (hse : seP C R Y) (tp : tuP C R Y m g) {k : Nat} (hk : k < m) : (K (R (C + 16) (Y 20 (g k).toNatClampNeg).toNatClampNeg) = 3 ∧ ¬ (R (C + 16) (Y 20 (g k).toNatClampNeg).toNatClampNeg) = 0) ∧ (R (R (C + 16) (Y 20 (g k).toNatClampNeg).toNatClampNeg) 2 = (R (C + 16) (Y 20 (g k).toNatClampNeg).toNatClampNeg) + 1 ∧ R (R (C + 16) (Y 20 (g k).toNatClampNeg).toNatClampNeg) 3 = (R (C + 16) (Y 20 (g k).toNatClampNeg).toNatClampNeg) + 2) ∧ (C + 96 < (R (C + 16) (Y 20 (g k).toNatClampNeg).toNatClampNeg) + 1 ∧ K ((R (C + 16) (Y 20 (g k).toNatClampNeg).toNatClampNeg) + 1) = 20 ∧ L ((R (C + 16) (Y 20 (g k).toNatClampNeg).toNatClampNeg) + 1) = 200) ∧ (C + 96 < (R (C + 16) (Y 20 (g k).toNatClampNeg).toNatClampNeg) + 2 ∧ K ((R (C + 16) (Y 20 (g k).toNatClampNeg).toNatClampNeg) + 2) = 20 ∧ L ((R (C + 16) (Y 20 (g k).toNatClampNeg).toNatClampNeg) + 2) = 200) := by
  obtain ⟨⟨pa, p6⟩, -⟩ := tp_pl hc tp hk
  obtain ⟨kb, kb0, -⟩ := hc.2.1.2.2.1 _ pa p6
  obtain ⟨eB2, eB3, -⟩ := hse.1 _ pa p6
  obtain ⟨bB, ⟨w1, w2, w3⟩, ⟨s1, s2, s3⟩, -⟩ := hT.g_bnc _ kb
  rw [eB2] at w1 w2 w3
  rw [eB3] at s1 s2 s3
  exact ⟨⟨kb, kb0⟩, ⟨eB2, eB3⟩, ⟨w1, w2, w3⟩, ⟨s1, s2, s3⟩⟩
theorem tp_a (hT : cT C K L I R) (hc : cpP C K L I R Y) (tp : tuP C R Y m g) {k : Nat} (hk : k < m) : K (R (C + 15) (g k).toNatClampNeg) = 1 ∧ C + 96 < R (C + 15) (g k).toNatClampNeg := by
  obtain ⟨⟨a0, a1⟩, -⟩ := tp.1 k hk
  have ha := (hc.2.2.1.2.1 _ a0 a1).1
  exact ⟨ha, (hT.g_ask _ ha).1⟩
theorem qF_c (hT : cT C K L I R) (hc : cpP C K L I R Y) (hse : seP C R Y) (tp : tuP C R Y m g) {p : Nat} {I1 : Nat → Nat → Int32} (h : qF C R Y g p m I1 J) {k : Nat} (hk : k ≤ 43 ∧ ¬ k = 9 ∧ ¬ k = 10) (j : Nat) : J (C + k) j = I1 (C + k) j := by
  refine h _ _ (by omega) (by omega) (fun q q1 q2 => ?_)
  have b := tp_B hT hc hse tp q2
  have a := tp_a hT hc tp q2
  unfold plc
  omega
theorem qF_a (hT : cT C K L I R) (hc : cpP C K L I R Y) (hse : seP C R Y) (tp : tuP C R Y m g) {p : Nat} {I1 : Nat → Nat → Int32} (h : qF C R Y g p m I1 J) {x j : Nat} (hx : K x = 1) (hj : ¬ j = 13 ∧ ¬ j = 14) : J x j = I1 x j := by
  have := (hT.g_ask _ hx).1
  refine h _ _ (by omega) (by omega) (fun q q1 q2 => ?_)
  have b := tp_B hT hc hse tp q2
  unfold plc
  rintro (⟨w | w, -⟩ | w)
  · rw [w, b.2.2.1.2.1] at hx
    cases hx
  · rw [w, b.2.2.2.2.1] at hx
    cases hx
  · omega
/-- what keepPlaces has kept -/
def kpP (C : Nat) (R : Nat → Nat → Nat) (Y : Nat → Nat → Int32) (g : Nat → Int32) (I : Nat → Nat → Int32) (p q : Nat) (J : Nat → Nat → Int32) : Prop := (∀ x j, ¬ x = C + 39 → ¬ x = C + 40 → ¬ x = C + 41 → J x j = I x j) ∧ (∀ k, k < p → J (C + 39) k = Y 20 (g k).toNatClampNeg ∧ J (C + 40) k = (Y 21 (g k).toNatClampNeg)) ∧ ∀ k z, k < p → z < (Y 10 (g 0).toNatClampNeg).toNatClampNeg → (k + 1 < p ∨ z < q) → J (C + 41) (4 * k + z) = I ((R (C + 16) (Y 20 (g k).toNatClampNeg).toNatClampNeg) + 2) ((Y 21 (g k).toNatClampNeg).toNatClampNeg + z)
theorem le_keep_52 (hT0 : cT C K L I R) (hc : cpP C K L I R Y) (hse : seP C R Y) (tp : tuP C R Y m g) {i : Int32} (hi : 0 ≤ i ∧ i < 5) (him : i.toNatClampNeg < m) (hP : ∀ J u, cT C K L J R → kpP C R Y g I (i.toNatClampNeg + 1) (Y 10 (g 0).toNatClampNeg).toNatClampNeg J → a_at d (a_xm a_m154) 94 [some (a_rf (C + 35)), some (.int i), some (a_rf (R (C + 15) (g i.toNatClampNeg).toNatClampNeg)), some (a_rf (R (C + 16) (Y 20 (g i.toNatClampNeg).toNatClampNeg).toNatClampNeg)), u] [] (n, t, K, L, J, R) P) : ∀ j : Int32, j ≤ 4 → ∀ J, 0 ≤ j → j ≤ (Y 10 (g 0).toNatClampNeg) → cT C K L J R → kpP C R Y g I (i.toNatClampNeg + 1) j.toNatClampNeg J → a_at d (a_xm a_m154) 52 [some (a_rf (C + 35)), some (.int i), some (a_rf (R (C + 15) (g i.toNatClampNeg).toNatClampNeg)), some (a_rf (R (C + 16) (Y 20 (g i.toNatClampNeg).toNatClampNeg).toNatClampNeg)), some (.int j)] [] (n, t, K, L, J, R) P := by
  obtain ⟨⟨pa, p6⟩, ⟨p21, p199⟩, psl, pl, e10⟩ := tp_pl hc tp him
  obtain ⟨⟨kb, kb0⟩, ⟨eB2, eB3⟩, ⟨w1, w2, w3⟩, ⟨s1, s2, s3⟩⟩ := tp_B hT0 hc hse tp him
  obtain ⟨⟨a0, a1⟩, -, er⟩ := tp.1 _ him
  have ap := aa_of hc a0 a1
  obtain ⟨ai, ⟨ha, an0, a4n⟩, am, al⟩ := id ap
  have hx96 := (hT0.g_ask _ ha).1
  have pl4 : (Y 10 (g 0).toNatClampNeg).toNatClampNeg ≤ 4 := by
    have w : (Y 10 (g 0).toNatClampNeg).toNatClampNeg < 5 := cl_lt (j := 5) (Int32.le_trans (by decide) pl.1) (Int32.lt_of_le_of_lt pl.2 (by decide))
    omega
  refine up_ind 4 (fun j hk ih => ?_)
  intro J q0 q1 hT hJ
  obtain ⟨k1, k2, k3⟩ := id hJ
  have hS := hT.s
  have f2 : J (R (C + 15) (g i.toNatClampNeg).toNatClampNeg) 2 = (Y 10 (g 0).toNatClampNeg) := by rw [k1 _ _ (by omega) (by omega) (by omega), al.1.2.2.1, e10]
  have f14 : J (R (C + 15) (g i.toNatClampNeg).toNatClampNeg) 14 = (Y 21 (g i.toNatClampNeg).toNatClampNeg) := by rw [k1 _ _ (by omega) (by omega) (by omega)]; exact al.2.2.2.1.2
  have hexit : ¬ j < (Y 10 (g 0).toNatClampNeg) → ∀ u, a_at d (a_xm a_m154) 94 [some (a_rf (C + 35)), some (.int i), some (a_rf (R (C + 15) (g i.toNatClampNeg).toNatClampNeg)), some (a_rf (R (C + 16) (Y 20 (g i.toNatClampNeg).toNatClampNeg).toNatClampNeg)), u] [] (n, t, K, L, J, R) P := fun w u => by
    refine hP J u hT ?_
    rw [show (Y 10 (g 0).toNatClampNeg) = j from by clear ih hP hJ k1 k2 k3; grind]
    exact hJ
  have hgo : j < (Y 10 (g 0).toNatClampNeg) → a_at d (a_xm a_m154) 52 [some (a_rf (C + 35)), some (.int i), some (a_rf (R (C + 15) (g i.toNatClampNeg).toNatClampNeg)), some (a_rf (R (C + 16) (Y 20 (g i.toNatClampNeg).toNatClampNeg).toNatClampNeg)), some (.int (j + 1))] [] (n, t, K, L, (a_ui J (C + 41) (i * 4 + j).toNatClampNeg (J ((R (C + 16) (Y 20 (g i.toNatClampNeg).toNatClampNeg).toNatClampNeg) + 2) ((Y 21 (g i.toNatClampNeg).toNatClampNeg) + j).toNatClampNeg)), R) P := fun w => by
    obtain ⟨t1, t2, t3, t4⟩ := lp_st q0 w
    have hj4 : 0 ≤ j ∧ j < 4 := ⟨q0, Int32.lt_of_lt_of_le w pl.2⟩
    have e20 := ix_20 hi hj4
    obtain ⟨es, -⟩ := sh_at (i := j) p21 (Int32.le_trans p199 (by decide)) ⟨q0, Int32.le_of_lt hj4.2⟩
    have hj4n : j.toNatClampNeg < 4 := cl_lt q0 hj4.2
    refine ih hj4.2 _ t2 t3 (sT_Circle_stood hT) ⟨fun x y n1 n2 n3 => by rw [ui_ap, if_neg (fun e => n3 e.1)]; exact k1 x y n1 n2 n3, fun k hk => ?_, fun k z hk hz hkz => ?_⟩
    · rw [ui_ap, if_neg (by omega), ui_ap, if_neg (by omega)]
      exact k2 k hk
    · rw [t4] at hkz
      rw [ui_ap, e20]
      by_cases e : k = i.toNatClampNeg ∧ z = j.toNatClampNeg
      · rw [if_pos ⟨rfl, by rw [e.1, e.2]⟩, e.1, e.2, es]
        exact k1 _ _ (by omega) (by omega) (by omega)
      · rw [if_neg (by omega)]
        exact k3 k z hk hz (by omega)
  have hsh : j < (Y 10 (g 0).toNatClampNeg) → 0 ≤ (Y 21 (g i.toNatClampNeg).toNatClampNeg) + j ∧ (Y 21 (g i.toNatClampNeg).toNatClampNeg) + j < 200 := fun w => ((sh_lt ⟨p21, Int32.le_trans p199 (by decide)⟩ ⟨Int32.le_trans (by decide) pl.1, pl.2⟩ psl ⟨q0, q1⟩).1 w).1
  have h20 : j < (Y 10 (g 0).toNatClampNeg) → 0 ≤ i * 4 + j ∧ i * 4 + j < 20 := fun w => ix4 hi ⟨q0, Int32.lt_of_lt_of_le w pl.2⟩
  clear ih hP hJ k1 k2 k3 hc tp al am ap
  rw [q154_52]
  simp only [q154_54, q154_55, q154_58, q154_61, q154_62, q154_65, q154_66, q154_69, q154_70, q154_71, q154_72, q154_74, q154_75, q154_76, q154_79, q154_80, q154_83, q154_85, q154_86, q154_87, q154_88, q154_91, k_35 hS, z_35, r_35_6 hS, k_41 hS, l_41 hS, z_41, as_nil, as_i, as_r, Nat.reduceAdd, Nat.reduceLeDiff, z_eq0, z_eq1, z_or, z_em, Classical.not_not, not_false_eq_true, not_true_eq_false, true_and, and_true, false_and, and_false, and_self, true_implies, false_implies, implies_true, Option.toList_some, Option.toList_none, List.cons_append, List.nil_append, Nat.add_eq_zero_iff, a_nl_i, a_nl_r, a_nl_n, true_or, or_true, eq_self, a_isRA_22, a_isRA_24, a_isRA_32, a_isA_20, ok_4, ok_5, ok_6, ok_7, ok_9, ok_20, ok_21, ok_30, ok_50, ok_180, ok_192, ok_200, ui_ap, cc_ne, cc_n0, cc_0n, Nat.reduceEqDiff, reduceIte, if_true, if_false, ha, an0, f2, f14, kb, kb0, eB3, s2, s3]
  refine ⟨fun h => hexit (Int32.not_lt.mpr h) _, fun h => ?_⟩
  have h := Int32.not_le.mp h
  have x1 := hsh h
  have x2 := h20 h
  have x3 := hgo h
  clear hexit hsh h20 hgo
  repeat' first
    | with_reducible apply And.intro
    | with_reducible intro _
    | with_reducible assumption
    | exact x1.1
    | exact x1.2
    | exact x2.1
    | exact x2.2
theorem le_keep_2 (hT0 : cT C K L I R) (hc : cpP C K L I R Y) (hse : seP C R Y) (tp : tuP C R Y m g) {z : Int32} (ez : z.toNatClampNeg = m) (hz : 0 ≤ z ∧ z ≤ 5) (es : I (C + 35) 7 = z) (hP : ∀ J, cT C K L J R → kpP C R Y g I m (Y 10 (g 0).toNatClampNeg).toNatClampNeg J → P none (n, t, K, L, J, R)) : ∀ i : Int32, i ≤ 5 → ∀ J u w v, 0 ≤ i → i ≤ z → cT C K L J R → kpP C R Y g I i.toNatClampNeg (Y 10 (g 0).toNatClampNeg).toNatClampNeg J → a_at (d + 1) (a_xm a_m154) 2 [some (a_rf (C + 35)), some (.int i), u, w, v] [] (n, t, K, L, J, R) P := by
  refine up_ind 5 (fun i hk ih => ?_)
  intro J u w v q0 q1 hT hJ
  have hS := hT.s
  have gA := hT.g_asksR
  have gB := hT.g_benchesR
  have gX := hT.g_textsR
  have k1 := hJ.1
  have e7 : J (C + 35) 7 = z := by rw [k1 _ _ (by omega) (by omega) (by omega)]; exact es
  rw [q154_2]
  simp only [q154_3, q154_4, q154_7, q154_10, q154_11, q154_14, q154_15, k_35 hS, z_35, r_35_3 hS, k_38 hS, l_38 hS, z_38, as_nil, as_i, as_r, Nat.reduceAdd, Nat.reduceLeDiff, z_eq0, z_eq1, z_or, z_em, Classical.not_not, not_false_eq_true, not_true_eq_false, true_and, and_true, false_and, and_false, and_self, true_implies, false_implies, implies_true, Option.toList_some, Option.toList_none, List.cons_append, List.nil_append, Nat.add_eq_zero_iff, a_nl_i, a_nl_r, a_nl_n, true_or, or_true, eq_self, a_isRA_22, a_isRA_24, a_isRA_32, a_isA_20, ok_4, ok_5, ok_6, ok_7, ok_9, ok_20, ok_21, ok_30, ok_50, ok_180, ok_192, ok_200, e7]
  refine ⟨fun h1 => ?_, fun h1 => ?_⟩
  · simp only [q154_100, as_nil, as_i, as_r, Nat.reduceAdd, Nat.reduceLeDiff, z_eq0, z_eq1, z_or, z_em, Classical.not_not, not_false_eq_true, not_true_eq_false, true_and, and_true, false_and, and_false, and_self, true_implies, false_implies, implies_true, Option.toList_some, Option.toList_none, List.cons_append, List.nil_append, Nat.add_eq_zero_iff, a_nl_i, a_nl_r, a_nl_n, true_or, or_true, eq_self, a_isRA_22, a_isRA_24, a_isRA_32, a_isA_20, ok_4, ok_5, ok_6, ok_7, ok_9, ok_20, ok_21, ok_30, ok_50, ok_180, ok_192, ok_200]
    have e : i = z := by clear hP ih hJ k1 hc tp; grind
    rw [e, ez] at hJ
    exact hP J hT hJ
  · have h1 := Int32.not_le.mp h1
    have hi : 0 ≤ i ∧ i < 5 := ⟨q0, Int32.lt_of_lt_of_le h1 hz.2⟩
    have him : i.toNatClampNeg < m := by rw [← ez]; exact cl_lt q0 h1
    obtain ⟨⟨pa, p6⟩, ⟨p21, p199⟩, psl, pl, e10⟩ := tp_pl hc tp him
    obtain ⟨⟨kb, kb0⟩, -⟩ := tp_B hT0 hc hse tp him
    obtain ⟨⟨a0, a1⟩, -, er⟩ := tp.1 _ him
    obtain ⟨ai, ⟨ha, an0, a4n⟩, am, al⟩ := aa_of hc a0 a1
    have hx96 := (hT0.g_ask _ ha).1
    have f13 : J (R (C + 15) (g i.toNatClampNeg).toNatClampNeg) 13 = Y 20 (g i.toNatClampNeg).toNatClampNeg := by rw [k1 _ _ (by omega) (by omega) (by omega)]; exact al.2.2.2.1.1
    have f14 : J (R (C + 15) (g i.toNatClampNeg).toNatClampNeg) 14 = (Y 21 (g i.toNatClampNeg).toNatClampNeg) := by rw [k1 _ _ (by omega) (by omega) (by omega)]; exact al.2.2.2.1.2
    have n39 : ((R (C + 15) (g i.toNatClampNeg).toNatClampNeg) = C + 39) = False := eq_false (by omega)
    have n40 : ((R (C + 15) (g i.toNatClampNeg).toNatClampNeg) = C + 40) = False := eq_false (by omega)
    have e5 : J (C + 14) 5 = Y 0 6 := by rw [k1 _ _ (by omega) (by omega) (by omega)]; exact hc.2.1.1
    have b6 : Y 20 (g i.toNatClampNeg).toNatClampNeg < 6 := Int32.lt_of_lt_of_le p6 hc.2.2.2.2.2.2.2.2.2.1.2
    have hbc : 0 ≤ Y 20 (g i.toNatClampNeg).toNatClampNeg ∧ Y 20 (g i.toNatClampNeg).toNatClampNeg < Y 0 6 ∧ Y 20 (g i.toNatClampNeg).toNatClampNeg < 6 := ⟨pa, p6, b6⟩
    obtain ⟨t1, t2, t3, t4⟩ := lp_st q0 h1
    have hg := le_keep_52 (d := d + 1) (n := n) (t := t) (P := P) hT0 hc hse tp hi him (fun J2 u2 T2 h2 => by
      simp only [q154_94, q154_97, as_nil, as_i, as_r, Nat.reduceAdd, Nat.reduceLeDiff, z_eq0, z_eq1, z_or, z_em, Classical.not_not, not_false_eq_true, not_true_eq_false, true_and, and_true, false_and, and_false, and_self, true_implies, false_implies, implies_true, Option.toList_some, Option.toList_none, List.cons_append, List.nil_append, Nat.add_eq_zero_iff, a_nl_i, a_nl_r, a_nl_n, true_or, or_true, eq_self, a_isRA_22, a_isRA_24, a_isRA_32, a_isA_20, ok_4, ok_5, ok_6, ok_7, ok_9, ok_20, ok_21, ok_30, ok_50, ok_180, ok_192, ok_200]
      exact ih hi.2 J2 _ _ _ t2 t3 T2 (by rw [t4]; exact h2)) 0 (by decide) (a_ui (a_ui J (C + 39) i.toNatClampNeg (Y 20 (g i.toNatClampNeg).toNatClampNeg)) (C + 40) i.toNatClampNeg (Y 21 (g i.toNatClampNeg).toNatClampNeg)) (by decide) (Int32.le_trans (by decide) pl.1) (sT_Circle_shift (sT_Circle_bench hT)) ⟨fun x j n1 n2 n3 => by rw [ui_ap, if_neg (fun e => n2 e.1), ui_ap, if_neg (fun e => n1 e.1)]; exact k1 x j n1 n2 n3, fun k hk => ?_, fun k y hk hy hky => ?_⟩
    · clear ih hP hJ k1 hc tp al am
      simp only [q154_16, q154_17, q154_18, q154_21, q154_22, q154_25, q154_28, q154_29, q154_30, q154_33, q154_34, q154_35, q154_38, q154_39, q154_40, q154_43, q154_44, q154_45, q154_48, q154_49, q154_50, k_35 hS, z_35, r_35_0 hS, k_14 hS, z_14, r_35_4 hS, k_39 hS, l_39 hS, z_39, r_35_5 hS, k_40 hS, l_40 hS, z_40, sp_benchAt hS gB, as_nil, as_i, as_r, Nat.reduceAdd, Nat.reduceLeDiff, z_eq0, z_eq1, z_or, z_em, Classical.not_not, not_false_eq_true, not_true_eq_false, true_and, and_true, false_and, and_false, and_self, true_implies, false_implies, implies_true, Option.toList_some, Option.toList_none, List.cons_append, List.nil_append, Nat.add_eq_zero_iff, a_nl_i, a_nl_r, a_nl_n, true_or, or_true, eq_self, a_isRA_22, a_isRA_24, a_isRA_32, a_isA_20, ok_4, ok_5, ok_6, ok_7, ok_9, ok_20, ok_21, ok_30, ok_50, ok_180, ok_192, ok_200, ui_ap, cc_ne, cc_n0, cc_0n, Nat.reduceEqDiff, reduceIte, if_true, if_false, er, ha, an0, f13, f14, n39, n40, e5, hbc, kb, kb0, hi]
      exact hg
    · rw [ui_ap, ui_ap, ui_ap, ui_ap]
      by_cases e : k = i.toNatClampNeg
      · rw [if_neg (by omega), if_pos ⟨rfl, e⟩, if_pos ⟨rfl, e⟩, e]
        exact ⟨rfl, rfl⟩
      · rw [if_neg (by omega), if_neg (by omega), if_neg (by omega), if_neg (by omega)]
        exact hJ.2.1 k (by omega)
    · rw [ui_ap, if_neg (by omega), ui_ap, if_neg (by omega)]
      refine hJ.2.2 k y (by rw [show (0 : Int32).toNatClampNeg = 0 from rfl] at hky; omega) hy (Or.inr hy)
theorem ce_keep (hT0 : cT C K L I R) (hc : cpP C K L I R Y) (hse : seP C R Y) (tp : tuP C R Y m g) {z : Int32} (ez : z.toNatClampNeg = m) (hz : 0 ≤ z ∧ z ≤ 5) (es : I (C + 35) 7 = z) (hP : ∀ J, cT C K L J R → kpP C R Y g I m (Y 10 (g 0).toNatClampNeg).toNatClampNeg J → P none (n, t, K, L, J, R)) : a_does (d + 2) 154 [a_rf (C + 35)] (n, t, K, L, I, R) P := by
  have hS := hT0.s
  have hl := fun u w v => le_keep_2 (d := d) (n := n) (t := t) (P := P) hT0 hc hse tp ez hz es hP 0 (by decide) I u w v (by decide) hz.1 hT0 ⟨fun _ _ _ _ _ => rfl, fun k hk => absurd hk (Nat.not_lt_zero k), fun k _ hk => absurd hk (Nat.not_lt_zero k)⟩
  clear hP
  rw [a_enter1 (M := a_m154) rfl (a_cat_rf a_cat_nil) (show 1 ≤ 5 by decide)]
  show a_at _ (a_xm a_m154) 0 [some (a_rf (C + 35)), none, none, none, none] [] _ _
  simp only [q154_0, q154_1, as_nil, as_i, as_r, Nat.reduceAdd, Nat.reduceLeDiff, z_eq0, z_eq1, z_or, z_em, Classical.not_not, not_false_eq_true, not_true_eq_false, true_and, and_true, false_and, and_false, and_self, true_implies, false_implies, implies_true, Option.toList_some, Option.toList_none, List.cons_append, List.nil_append, Nat.add_eq_zero_iff, a_nl_i, a_nl_r, a_nl_n, true_or, or_true, eq_self, a_isRA_22, a_isRA_24, a_isRA_32, a_isA_20, ok_4, ok_5, ok_6, ok_7, ok_9, ok_20, ok_21, ok_30, ok_50, ok_180, ok_192, ok_200]
  exact hl _ _ _
end ZS0
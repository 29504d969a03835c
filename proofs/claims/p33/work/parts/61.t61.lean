/-! the class: the past, taking back -/
section YB0
variable {d n t C c : Nat} {K L : Nat → Nat} {I I0 J J0 J1 J2 : Nat → Nat → Int32} {R : Nat → Nat → Nat} {P : Option Value → AH → Prop}
variable {Y Z : Nat → Nat → Int32}
/-- what keeping the past leaves as it was -/
def rmP (n b : Nat) (I : Nat → Nat → Int32) (R : Nat → Nat → Nat) (J : Nat → Nat → Int32) (R' : Nat → Nat → Nat) : Prop := (∀ x j, x < n → ¬ (x = b ∧ j = 5) → R' x j = R x j) ∧ (R' b 5 = R b 5 ∨ R' b 5 = n) ∧ ∀ x j, x < n → ¬ (x = b ∧ j = 6) → ¬ x = R b 5 → J x j = I x j
theorem ce_hasRoom {b : Nat} (hb : K b = 3) (hH : cH C c (n + 1) t K L I R) (hj : ∃ j, j < 6 ∧ R (C + 16) j = b) (hP0 : P (some (.int 0)) (n + 1, t, K, L, I, R)) (hP : ∀ n' t' K' L' J R', cH C c (n' + 1) t' K' L' J R' → dQ C (n + 1) K L I R (n' + 1) K' L' J R' → (∀ x j, x < n + 1 → J x j = I x j) → rmP (n + 1) b I R J R' → I b 6 < 16384 → 5 * (I b 6 + 1).toNatClampNeg ≤ L' (R' b 5) → P (some (.int 1)) (n' + 1, t', K', L', J, R')) : a_does (d + 1) 48 [a_rf b] (n + 1, t, K, L, I, R) P := by
  have hT := hH.1
  have hS := hT.s
  obtain ⟨b1, ⟨w1, w2, w3⟩, ⟨s1, s2, s3⟩, ⟨h1, h2, h3⟩, ⟨p1, p2, p3⟩, q1⟩ := hT.g_bnc b hb
  have b0 : (b = 0) = False := eq_false (by omega)
  have w0 : (R b 2 = 0) = False := eq_false (by omega)
  have s0 : (R b 3 = 0) = False := eq_false (by omega)
  have h0 : (R b 4 = 0) = False := eq_false (by omega)
  have p0 : (R b 5 = 0) = False := eq_false (by omega)
  obtain ⟨m, m1, m2, m3⟩ := p3
  have fr := hH.2.1
  have bl : b < n + 1 := kn_lt fr hb (by decide)
  have pl : R b 5 < n + 1 := kn_lt fr p2 (by decide)
  have pn : ¬ R b 5 = n + 1 := by omega
  have bn : ¬ b = n + 1 := by omega
  rw [a_enter1 (M := a_m48) rfl (a_cat_rf a_cat_nil) (show 1 ≤ 2 by decide)]
  show a_at _ (a_xm a_m48) 0 [some (a_rf b), none] [] _ _
  simp only [q48_0, q48_1, q48_4, q48_7, q48_10, q48_11, q48_12, q48_13, q48_16, q48_17, q48_18, q48_19, q48_20, q48_21, q48_24, q48_25, as_nil, as_i, as_r, Nat.reduceAdd, Nat.reduceLeDiff, z_eq0, z_eq1, z_or, z_em, Classical.not_not, not_false_eq_true, not_true_eq_false, true_and, and_true, false_and, and_false, and_self, true_implies, false_implies, implies_true, Option.toList_some, Option.toList_none, List.cons_append, List.nil_append, Nat.add_eq_zero_iff, a_nl_i, a_nl_r, a_nl_n, true_or, or_true, eq_self, a_isRA_22, a_isRA_24, a_isRA_32, a_isA_20, ok_4, ok_5, ok_6, ok_7, ok_9, ok_20, ok_21, ok_30, ok_50, ok_180, ok_192, ok_200, hb, b0, w0, w2, w3, s0, s2, s3, h0, h2, h3, p0, p2]
  refine ⟨fun c1 => ?_, fun c1 => ?_⟩
  · have hm := mul5 q1.1 c1 (show L (R b 5) ≤ 163840 by omega)
    refine ⟨fun c2 => ?_, fun c2 => ?_⟩
    · simp only [q48_58, q48_59, as_nil, as_i, as_r, Nat.reduceAdd, Nat.reduceLeDiff, z_eq0, z_eq1, z_or, z_em, Classical.not_not, not_false_eq_true, not_true_eq_false, true_and, and_true, false_and, and_false, and_self, true_implies, false_implies, implies_true, Option.toList_some, Option.toList_none, List.cons_append, List.nil_append, Nat.add_eq_zero_iff, a_nl_i, a_nl_r, a_nl_n, true_or, or_true, eq_self, a_isRA_22, a_isRA_24, a_isRA_32, a_isA_20, ok_4, ok_5, ok_6, ok_7, ok_9, ok_20, ok_21, ok_30, ok_50, ok_180, ok_192, ok_200, hb, b0, w0, w2, w3, s0, s2, s3, h0, h2, h3, p0, p2]
      exact hP n t K L I R hH dQ_refl (fun _ _ _ => rfl) ⟨fun _ _ _ _ => rfl, Or.inl rfl, fun _ _ _ _ _ => rfl⟩ c1 (hm.mp c2)
    · have c3 : ¬ 5 * (I b 6 + 1).toNatClampNeg ≤ L (R b 5) := fun q => c2 (hm.mpr q)
      have ep : (I b 6 + 1).toNatClampNeg = (I b 6).toNatClampNeg + 1 := by
        have e0 := Int32.le_iff_toInt_le.mp q1.1
        have e1 := Int32.lt_iff_toInt_lt.mp c1
        have c1 : (16384 : Int32).toInt = 16384 := rfl
        simp at e0
        have e2 : (I b 6 + 1).toInt = (I b 6).toInt + 1 := by
          rw [Int32.toInt_add]
          simp [Int.bmod_def]
          omega
        show (I b 6 + 1).toInt.toNat = (I b 6).toInt.toNat + 1
        rw [e2]
        omega
      have el : (I b 6).toNatClampNeg < 16384 := by
        have e0 := Int32.le_iff_toInt_le.mp q1.1
        have e1 := Int32.lt_iff_toInt_lt.mp c1
        have c1 : (16384 : Int32).toInt = 16384 := rfl
        simp at e0
        show (I b 6).toInt.toNat < 16384
        omega
      obtain ⟨d1, d2, d3, d4⟩ := dbl (show L (R b 5) ≤ 81920 by omega)
      have f1 : a_up K (n + 1) 20 (R b 5) = 20 := by rw [up_ne pn]; exact p2
      have f2 : a_up K (n + 1) 20 b = 3 := by rw [up_ne bn]; exact hb
      have f3 : a_zr R (n + 1) b 5 = R b 5 := zr_ne bn
      have f4 : a_up L (n + 1) (2 * L (R b 5)) (R b 5) = L (R b 5) := up_ne pn
      have f5 : a_up K (n + 1) 20 (n + 1) = 20 := up_eq
      have f6 : a_up L (n + 1) (2 * L (R b 5)) (n + 1) = 2 * L (R b 5) := up_eq
      have f7 : (n + 1 = 0) = False := eq_false (by omega)
      simp only [q48_28, q48_29, q48_32, q48_33, q48_34, q48_35, q48_37, q48_38, q48_39, q48_42, q48_43, q48_44, q48_45, q48_46, q48_49, q48_50, q48_53, q48_54, q48_55, q48_58, q48_59, as_nil, as_i, as_r, Nat.reduceAdd, Nat.reduceLeDiff, z_eq0, z_eq1, z_or, z_em, Classical.not_not, not_false_eq_true, not_true_eq_false, true_and, and_true, false_and, and_false, and_self, true_implies, false_implies, implies_true, Option.toList_some, Option.toList_none, List.cons_append, List.nil_append, Nat.add_eq_zero_iff, a_nl_i, a_nl_r, a_nl_n, true_or, or_true, eq_self, a_isRA_22, a_isRA_24, a_isRA_32, a_isA_20, ok_4, ok_5, ok_6, ok_7, ok_9, ok_20, ok_21, ok_30, ok_50, ok_180, ok_192, ok_200, hb, b0, w0, w2, w3, s0, s2, s3, h0, h2, h3, p0, p2, d1, d2, d3, d4, f1, f2, f3, f4, f5, f6, f7, a_copy_eq, a_kd_eq, a_ln_eq, cn00, lt00, Nat.zero_add]
      have e9 : 2 * L (R b 5) = 160 * m := by omega
      have hJJ : ∀ x j, x < n + 1 → a_ci (a_zi I (n + 1)) (R b 5) (n + 1) 0 0 (L (R b 5)) x j = I x j := fun x j hx => by rw [ci_ne (by omega), zi_ne (by omega)]
      have hf := hP (n + 1) (t + 160 * m) (a_up K (n + 1) 20) (a_up L (n + 1) (160 * m)) (a_ci (a_zi I (n + 1)) (R b 5) (n + 1) 0 0 (L (R b 5))) (a_ur (a_zr R (n + 1)) b 5 (n + 1)) (cH_past hH hb m1 m2 (by omega) hj hJJ) ⟨by omega, fun x hx => up_ne (by omega), fun x hx => up_ne (by omega), fun x j hx hk => by rw [ur_ap, if_neg (fun e => hk (by rw [e.1]; exact hb)), zr_ne (by omega)], fun x j hx _ _ _ => hJJ x j hx⟩ hJJ ⟨fun x j hx hk => by rw [ur_ap, if_neg hk, zr_ne (by omega)], Or.inr (by rw [ur_ap, if_pos ⟨rfl, rfl⟩]), fun x j hx _ _ => hJJ x j hx⟩ c1 (by rw [ur_ap, if_pos ⟨rfl, rfl⟩, up_eq]; omega)
      rw [e9]
      try simp only [not_false_eq_true, true_and, and_true]
      repeat' first
        | with_reducible apply And.intro
        | exact hf
        | decide
        | omega
  · try simp only [q48_10, q48_11, as_nil, as_i, as_r, Nat.reduceAdd, Nat.reduceLeDiff, z_eq0, z_eq1, z_or, z_em, Classical.not_not, not_false_eq_true, not_true_eq_false, true_and, and_true, false_and, and_false, and_self, true_implies, false_implies, implies_true, Option.toList_some, Option.toList_none, List.cons_append, List.nil_append, Nat.add_eq_zero_iff, a_nl_i, a_nl_r, a_nl_n, true_or, or_true, eq_self, a_isRA_22, a_isRA_24, a_isRA_32, a_isA_20, ok_4, ok_5, ok_6, ok_7, ok_9, ok_20, ok_21, ok_30, ok_50, ok_180, ok_192, ok_200, hb, b0, w0, w2, w3, s0, s2, s3, h0, h2, h3, p0, p2]
    first
      | exact hP0
      | exact ⟨by decide, hP0⟩
theorem ce_remember {a b : Nat} (hb : K b = 3) (ha : K a = 1) (hH : cH C c (n + 1) t K L I R) (hj : ∃ j, j < 6 ∧ R (C + 16) j = b) (hs : 0 ≤ I a 14 ∧ I a 14 < 200) {w : Int32} (hP : ∀ n' t' K' L' J R', cH C c (n' + 1) t' K' L' J R' → dQ C (n + 1) K L I R (n' + 1) K' L' J R' → rmP (n + 1) b I R J R' → P none (n' + 1, t', K', L', J, R')) : a_does (d + 2) 47 [a_rf b, a_rf a, .int w] (n + 1, t, K, L, I, R) P := by
  have hT := hH.1
  have hS := hT.s
  obtain ⟨b1, ⟨w1, w2, w3⟩, ⟨s1, s2, s3⟩, ⟨h1, h2, h3⟩, ⟨p1, p2, p3⟩, q1⟩ := hT.g_bnc b hb
  have b0 : (b = 0) = False := eq_false (by omega)
  have w0 : (R b 2 = 0) = False := eq_false (by omega)
  have s0 : (R b 3 = 0) = False := eq_false (by omega)
  have h0 : (R b 4 = 0) = False := eq_false (by omega)
  have p0 : (R b 5 = 0) = False := eq_false (by omega)
  obtain ⟨a1, a2, a4, a3⟩ := hT.g_ask a ha
  have a0 : (a = 0) = False := eq_false (by omega)
  have fr := hH.2.1
  have bl : b < n + 1 := kn_lt fr hb (by decide)
  have al : a < n + 1 := kn_lt fr ha (by decide)
  have hn := hP n t K L I R hH dQ_refl ⟨fun _ _ _ _ => rfl, Or.inl rfl, fun _ _ _ _ _ => rfl⟩
  rw [a_enter1 (M := a_m47) rfl (a_cat_rf (a_cat_rf (a_cat_int a_cat_nil))) (show 3 ≤ 5 by decide)]
  show a_at _ (a_xm a_m47) 0 [some (a_rf b), some (a_rf a), some (.int w), none, none] [] _ _
  simp only [q47_0, q47_1, q47_4, q47_5, q47_8, q47_9, q47_10, q47_11, q47_12, q47_15, q47_16, as_nil, as_i, as_r, Nat.reduceAdd, Nat.reduceLeDiff, z_eq0, z_eq1, z_or, z_em, Classical.not_not, not_false_eq_true, not_true_eq_false, true_and, and_true, false_and, and_false, and_self, true_implies, false_implies, implies_true, Option.toList_some, Option.toList_none, List.cons_append, List.nil_append, Nat.add_eq_zero_iff, a_nl_i, a_nl_r, a_nl_n, true_or, or_true, eq_self, a_isRA_22, a_isRA_24, a_isRA_32, a_isA_20, ok_4, ok_5, ok_6, ok_7, ok_9, ok_20, ok_21, ok_30, ok_50, ok_180, ok_192, ok_200, hb, b0, w0, w2, w3, s0, s2, s3, h0, h2, h3, p0, p2, ha, a0]
  refine ⟨hs, fun c1 => ?_, fun c1 => ?_⟩
  · simp only [q47_22, as_nil, as_i, as_r, Nat.reduceAdd, Nat.reduceLeDiff, z_eq0, z_eq1, z_or, z_em, Classical.not_not, not_false_eq_true, not_true_eq_false, true_and, and_true, false_and, and_false, and_self, true_implies, false_implies, implies_true, Option.toList_some, Option.toList_none, List.cons_append, List.nil_append, Nat.add_eq_zero_iff, a_nl_i, a_nl_r, a_nl_n, true_or, or_true, eq_self, a_isRA_22, a_isRA_24, a_isRA_32, a_isA_20, ok_4, ok_5, ok_6, ok_7, ok_9, ok_20, ok_21, ok_30, ok_50, ok_180, ok_192, ok_200]
    exact hn
  · refine ce_hasRoom hb hH hj ?_ (fun n' t' K' L' J R' hH' hQ hJ hrm hp hl => ?_)
    · simp only [q47_19, q47_22, as_nil, as_i, as_r, Nat.reduceAdd, Nat.reduceLeDiff, z_eq0, z_eq1, z_or, z_em, Classical.not_not, not_false_eq_true, not_true_eq_false, true_and, and_true, false_and, and_false, and_self, true_implies, false_implies, implies_true, Option.toList_some, Option.toList_none, List.cons_append, List.nil_append, Nat.add_eq_zero_iff, a_nl_i, a_nl_r, a_nl_n, true_or, or_true, eq_self, a_isRA_22, a_isRA_24, a_isRA_32, a_isA_20, ok_4, ok_5, ok_6, ok_7, ok_9, ok_20, ok_21, ok_30, ok_50, ok_180, ok_192, ok_200]
      first
        | exact hn
        | exact ⟨fun h => absurd rfl h, fun _ => hn⟩
    · clear hn
      have hb' : K' b = 3 := by rw [hQ.2.1 b bl]; exact hb
      have ha' : K' a = 1 := by rw [hQ.2.1 a al]; exact ha
      have hT' := hH'.1
      have e6 := hJ b 6 bl
      obtain ⟨-, -, -, -, ⟨r1, r2, -⟩, r6⟩ := hT'.g_bnc b hb'
      have p0' : (R' b 5 = 0) = False := eq_false (by omega)
      rw [← e6] at hp
      rw [← e6] at hl
      have hi : J b 6 < J b 6 + 1 := by clear hP hT hT' hH hH' hQ hJ hrm; grind
      have hi2 : J b 6 + 1 ≤ 16384 := by clear hP hT hT' hH hH' hQ hJ hrm; grind
      have m0 := past_ok0 r6.1 hi hi2 hl
      have m1 := past_ok (e := 1) r6.1 hi hi2 hl (by decide)
      have m2 := past_ok (e := 2) r6.1 hi hi2 hl (by decide)
      have m3 := past_ok (e := 3) r6.1 hi hi2 hl (by decide)
      have m4 := past_ok (e := 4) r6.1 hi hi2 hl (by decide)
      have n1 : ¬ b = R' b 5 := fun e => by rw [← e, hb'] at r2; cases r2
      have n2 : ¬ a = R' b 5 := fun e => by rw [← e, ha'] at r2; cases r2
      have n3 : ¬ a = b := fun e => by rw [e, hb] at ha; cases ha
      simp only [q47_19, q47_22, q47_23, q47_24, q47_27, q47_28, q47_29, q47_31, q47_32, q47_35, q47_37, q47_38, q47_41, q47_42, q47_43, q47_46, q47_48, q47_49, q47_50, q47_51, q47_54, q47_55, q47_56, q47_59, q47_61, q47_62, q47_63, q47_64, q47_67, q47_68, q47_69, q47_72, q47_74, q47_75, q47_76, q47_77, q47_78, q47_79, q47_82, q47_84, q47_85, q47_86, q47_87, q47_88, q47_89, q47_90, q47_93, q47_94, q47_95, q47_98, sp_last, as_nil, as_i, as_r, Nat.reduceAdd, Nat.reduceLeDiff, z_eq0, z_eq1, z_or, z_em, Classical.not_not, not_false_eq_true, not_true_eq_false, true_and, and_true, false_and, and_false, and_self, true_implies, false_implies, implies_true, Option.toList_some, Option.toList_none, List.cons_append, List.nil_append, Nat.add_eq_zero_iff, a_nl_i, a_nl_r, a_nl_n, true_or, or_true, eq_self, a_isRA_22, a_isRA_24, a_isRA_32, a_isA_20, ok_4, ok_5, ok_6, ok_7, ok_9, ok_20, ok_21, ok_30, ok_50, ok_180, ok_192, ok_200, ui_ap, cc_ne, cc_n0, cc_0n, Nat.reduceEqDiff, reduceIte, if_true, if_false, hb', ha', b0, a0, p0', r2, n1, n2, n3, m0, m1, m2, m3, m4]
      have z : 0 ≤ J b 6 + 1 := by clear hP hT hT' hH hH' hQ hJ hrm; grind
      have hq : ∀ J2, cT C K' L' J2 R' → dQ C (n' + 1) K' L' J R' (n' + 1) K' L' J2 R' → (∀ x j, ¬ (x = b ∧ j = 6) → ¬ x = R' b 5 → J2 x j = J x j) → P none (n' + 1, t', K', L', J2, R') := fun J2 q1 q2 q3 => hP n' t' K' L' J2 R' (cH_J hH' q1) (dQ_Q hQ q2) ⟨hrm.1, hrm.2.1, fun x j hx p1 p2 => (q3 x j p1 (fun e => by rcases hrm.2.1 with q | q <;> omega)).trans (hrm.2.2 x j hx p1 p2)⟩
      repeat' first
        | with_reducible apply And.intro
        | with_reducible assumption
        | with_reducible apply hq
        | (intro x j p1 p2; simp only [ui_ap, p2, false_and, if_false]; rw [if_neg p1]; done)
        | with_reducible intro _
        | with_reducible apply sT_past
        | with_reducible apply sT_arr
        | with_reducible apply dQ_3 (h1 := b1) (h2 := hb')
        | with_reducible apply dQ_20 (h1 := r1) (h2 := r2)
        | with_reducible exact dQ_refl
        | (simp only [ui_ap, n1, n2, n3, false_and, if_false, b0]; done)
theorem ce_clear (hH : cH C c (n + 1) t K L I R) (hc : cpP C K L I R Y) (hse : seP C R Y) {a : Nat} {i : Int32} (ap : aaP C K I Y i a) (haa : (R (C + 15) i.toNatClampNeg) = a) (hP : ∀ n' t' K' L' J R', cH C c (n' + 1) t' K' L' J R' → dQ C (n + 1) K L I R (n' + 1) K' L' J R' → cpP C K' L' J R' (unY Y i) → seP C R' Y → (∀ j, R' (C + 15) j = R (C + 15) j) → aZ K a I J → P none (n' + 1, t', K', L', J, R')) (pa : 0 ≤ Y 20 i.toNatClampNeg) : a_does (d + 5) 45 [a_rf (C + 14), a_rf a] (n + 1, t, K, L, I, R) P := by
  have hT := hH.1
  have hS := hT.s
  obtain ⟨ai, ⟨ha, an0, a4n⟩, am, al⟩ := id ap
  obtain ⟨a1, a2, a4, a3⟩ := hT.g_ask a ha
  have a0 : (a = 0) = False := eq_false an0
  have gA := hT.g_asksR
  have gB := hT.g_benchesR
  have gX := hT.g_textsR
  have fr := hH.2.1
  have al0 : a < n + 1 := kn_lt fr ha (by decide)
  have hy := hc.2.2.2.2
  have y10 := hy.2.1 i.toNatClampNeg
  have e13 : I a 13 = Y 20 i.toNatClampNeg := al.2.2.2.1.1
  have e14 : I a 14 = Y 21 i.toNatClampNeg := al.2.2.2.1.2
  have i30 : i.toNatClampNeg < 30 := a_lt30 ⟨ai.1, Int32.lt_of_lt_of_le ai.2 hy.2.2.2.2.1.2⟩
  obtain ⟨⟨p21, p200, psl⟩, p5⟩ := hy.2.2.2.2.2.2.1 _ i30 pa
  have p6 : Y 20 i.toNatClampNeg < Y 0 6 := (hc.2.1.2.2.2.1 i ai.1 ai.2 pa).1
  have ps : 0 ≤ Y 21 i.toNatClampNeg ∧ Y 21 i.toNatClampNeg ≤ 199 ∧ Y 21 i.toNatClampNeg ≤ 200 := by
    have := hy.2.2.1 i ai.1 ai.2
    clear hP hse gA gB gX
    grind
  obtain ⟨kb, kb0, kb5, kb6⟩ := hc.2.1.2.2.1 _ pa p6
  obtain ⟨eB2, eB3, eB4⟩ := hse.1 _ pa p6
  obtain ⟨bB, ⟨w1, w2, w3⟩, ⟨s1, s2, s3⟩, ⟨h1', h2', h3'⟩, ⟨pp1, pp2, -⟩, -⟩ := hT.g_bnc _ kb
  have b6 : Y 20 i.toNatClampNeg < 6 := Int32.lt_of_lt_of_le p6 hy.2.2.2.2.2.1.2
  have hbc : 0 ≤ Y 20 i.toNatClampNeg ∧ Y 20 i.toNatClampNeg < I (C + 14) 5 ∧ Y 20 i.toNatClampNeg < 6 := ⟨pa, by rw [hc.2.1.1]; exact p6, b6⟩
  have hj : ∃ j, j < 6 ∧ R (C + 16) j = (R (C + 16) (Y 20 i.toNatClampNeg).toNatClampNeg) := ⟨_, show (Y 20 i.toNatClampNeg).toNatClampNeg < (6 : Int32).toNatClampNeg from cl_lt pa b6, rfl⟩
  have bl := kn_lt fr kb (by decide)
  have kz : ∀ x, ¬ K x = 0 → x < n + 1 := fun x hx => Classical.byContradiction (fun q => hx (fr x (by omega)))
  rw [a_enter1 (M := a_m45) rfl (a_cat_rf (a_cat_rf a_cat_nil)) (show 2 ≤ 3 by decide)]
  show a_at _ (a_xm a_m45) 0 [some (a_rf (C + 14)), some (a_rf a), none] [] _ _
  simp only [q45_0, q45_1, q45_2, q45_5, q45_8, q45_9, q45_10, q45_13, q45_14, q45_15, q45_16, q45_19, q45_22, k_14 hS, z_14, r_14_0 hS, k_1 hS, z_1, sp_benchAt hS gB, as_nil, as_i, as_r, Nat.reduceAdd, Nat.reduceLeDiff, z_eq0, z_eq1, z_or, z_em, Classical.not_not, not_false_eq_true, not_true_eq_false, true_and, and_true, false_and, and_false, and_self, true_implies, false_implies, implies_true, Option.toList_some, Option.toList_none, List.cons_append, List.nil_append, Nat.add_eq_zero_iff, a_nl_i, a_nl_r, a_nl_n, true_or, or_true, eq_self, a_isRA_22, a_isRA_24, a_isRA_32, a_isA_20, ok_4, ok_5, ok_6, ok_7, ok_9, ok_20, ok_21, ok_30, ok_50, ok_180, ok_192, ok_200, ha, a0, e13, hbc, kb, kb0]
  try simp only [true_and, and_true, true_implies, false_implies, implies_true, not_true_eq_false, not_false_eq_true]
  refine ce_remember (d := d + 2) kb ha hH hj (by rw [e14]; exact ⟨ps.1, by clear hP hse gA gB gX; grind⟩) (fun n' t' K' L' J R' hH' hQ hrm => ?_)
  obtain ⟨rm1, rm2, rm3⟩ := hrm
  have kk : ∀ x, ¬ K x = 0 → K' x = K x ∧ L' x = L x := fun x hx => ⟨hQ.2.1 x (kz x hx), hQ.2.2.1 x (kz x hx)⟩
  have ha' : K' a = 1 := by rw [(kk a (by rw [ha]; decide)).1]; exact ha
  have hb' : K' (R (C + 16) (Y 20 i.toNatClampNeg).toNatClampNeg) = 3 := by rw [(kk _ (by rw [kb]; decide)).1]; exact kb
  have hT' := hH'.1
  have hS' := hT'.s
  have n5 : ∀ x, ¬ K x = 20 → ¬ x = R (R (C + 16) (Y 20 i.toNatClampNeg).toNatClampNeg) 5 := fun x hx e => hx (by rw [e]; exact pp2)
  have jJ : ∀ x j, ¬ K x = 0 → ¬ K x = 20 → ¬ (K x = 3 ∧ j = 6) → J x j = I x j := fun x j k0 k20 k3 => rm3 x j (kz x k0) (fun q => k3 (by rw [q.1]; exact ⟨kb, q.2⟩)) (n5 x k20)
  have R16 : ∀ j, R' (C + 16) j = R (C + 16) j := fun j => rm1 _ _ (by have := hH.2.2.1; omega) (by omega)
  have hc1 : cpP C K' L' J R' Y := by
    refine cp_mk hT hc (fun _ _ _ => rfl) hy.2.2.2.2.2.2.1 kk (fun x j k0 k3 _ _ _ => rm1 x j (kz x k0) (fun q => k3 (by rw [q.1]; exact ⟨kb, q.2⟩))) (fun k j hk => rm3 _ _ (by have := hH.2.2.1; omega) (by omega) (by omega)) (fun x j kx _ _ => jJ x j (by rw [kx]; decide) (by rw [kx]; decide) (by rw [kx]; omega)) (fun x j kx k6 => jJ x j (by rw [kx]; decide) (by rw [kx]; decide) (by omega)) (fun x j kx => jJ x j (by rw [kx]; decide) (by rw [kx]; decide) (by rw [kx]; omega)) (fun k k0 k1 j => ?_) (fun o o0 o1 => ?_) (plP_eq hc.2.1.2.2.2 (fun b b0 b1 => ?_) (fun b b0 b1 => ?_))
    · have hk := (hc.2.2.2.1.2 k k0 k1).1
      have h20 := (hT.g_txt _ hk).2.2.1
      obtain ⟨-, q⟩ := hse.2.2.1 k _ k0 k1 pa p6
      exact rm3 _ _ (kz _ (by rw [h20]; decide)) (fun e => by rw [e.1, kb] at h20; cases h20) q
    · have ao := hc.2.2.1.2.1 o o0 o1
      rw [jJ _ _ (by rw [ao.1]; decide) (by rw [ao.1]; decide) (by rw [ao.1]; omega), jJ _ _ (by rw [ao.1]; decide) (by rw [ao.1]; decide) (by rw [ao.1]; omega)]
      exact (hc.2.2.1.2.2.2 o o0 o1).2.2.2.1
    · obtain ⟨d2, d3, d4⟩ := hse.1 b b0 b1
      have k1 := (hc.2.1.2.2.1 b b0 b1).1
      have h20 := (hT.g_bnc _ k1).2.1.2.1
      have q := hse.2.2.2 _ b pa p6 b0 b1
      unfold whC
      funext j
      refine rm3 _ _ (kz _ (by rw [h20]; decide)) (fun e => by rw [e.1, kb] at h20; cases h20) (by rw [d2]; omega)
    · obtain ⟨d2, d3, d4⟩ := hse.1 b b0 b1
      have k1 := (hc.2.1.2.2.1 b b0 b1).1
      have h20 := (hT.g_bnc _ k1).2.2.1.2.1
      have q := hse.2.2.2 _ b pa p6 b0 b1
      unfold snC
      funext j
      refine rm3 _ _ (kz _ (by rw [h20]; decide)) (fun e => by rw [e.1, kb] at h20; cases h20) (by rw [d3]; omega)
  have hse1 : seP C R' Y := by
    have rB : ∀ b : Int32, 0 ≤ b → b < Y 0 6 → ∀ j, ¬ j = 5 → R' (R (C + 16) b.toNatClampNeg) j = R (R (C + 16) b.toNatClampNeg) j := fun b b0 b1 j hj => rm1 _ _ (kz _ (by rw [(hc.2.1.2.2.1 b b0 b1).1]; decide)) (fun q => hj q.2)
    have rB5 : ∀ b : Int32, 0 ≤ b → b < Y 0 6 → R' (R (C + 16) b.toNatClampNeg) 5 = R (R (C + 16) b.toNatClampNeg) 5 ∨ R' (R (C + 16) b.toNatClampNeg) 5 = n + 1 := fun b b0 b1 => by
      by_cases e : (R (C + 16) b.toNatClampNeg) = (R (C + 16) (Y 20 i.toNatClampNeg).toNatClampNeg)
      · rw [e]
        exact rm2
      · exact Or.inl (rm1 _ _ (kz _ (by rw [(hc.2.1.2.2.1 b b0 b1).1]; decide)) (fun q => e q.1))
    have rX : ∀ k : Int32, 0 ≤ k → k < Y 0 41 → R' (C + 8) k.toNatClampNeg = (R (C + 8) k.toNatClampNeg) ∧ R' (R (C + 8) k.toNatClampNeg) 2 = R (R (C + 8) k.toNatClampNeg) 2 ∧ R (R (C + 8) k.toNatClampNeg) 2 < n + 1 := fun k k0 k1 => by
      have hk := (hc.2.2.2.1.2 k k0 k1).1
      have h20 := (hT.g_txt _ hk).2.2.1
      exact ⟨rm1 _ _ (by have := hH.2.2.1; omega) (by omega), rm1 _ _ (kz _ (by rw [hk]; decide)) (by omega), kz _ (by rw [h20]; decide)⟩
    have low : ∀ b : Int32, 0 ≤ b → b < Y 0 6 → (R (C + 16) b.toNatClampNeg) + 3 < n + 1 := fun b b0 b1 => by
      have k1 := (hc.2.1.2.2.1 b b0 b1).1
      have h20 := (hT.g_bnc _ k1).2.2.2.1.2.1
      rw [(hse.1 b b0 b1).2.2] at h20
      exact kz _ (by rw [h20]; decide)
    refine ⟨fun b b0 b1 => ?_, fun b c b0 b1 c0 c1 e => ?_, fun k b k0 k1 b0 b1 => ?_, fun b c b0 b1 c0 c1 => ?_⟩
    · rw [R16, rB b b0 b1 2 (by omega), rB b b0 b1 3 (by omega), rB b b0 b1 4 (by omega)]
      exact hse.1 b b0 b1
    · rw [R16, R16] at e
      exact hse.2.1 b c b0 b1 c0 c1 e
    · obtain ⟨x1, x2, x3⟩ := rX k k0 k1
      rw [x1, x2, R16]
      obtain ⟨q1, q2⟩ := hse.2.2.1 k b k0 k1 b0 b1
      refine ⟨q1, fun e => ?_⟩
      rcases rB5 b b0 b1 with q | q
      · rw [q] at e
        exact q2 e
      · omega
    · rw [R16, R16]
      have := low c c0 c1
      rcases rB5 b b0 b1 with q | q
      · rw [q]
        exact hse.2.2.2 b c b0 b1 c0 c1
      · omega
  have ap1 : aaP C K' J Y i a := by
    have ao := aa_of hc1 ai.1 ai.2
    rw [rm1 _ _ (by have := hH.2.2.1; omega) (by omega), haa] at ao
    exact ao
  have R15 : ∀ j, R' (C + 15) j = R (C + 15) j := fun j => rm1 _ _ (by have := hH.2.2.1; omega) (by omega)
  have f14 : J a 14 = Y 21 i.toNatClampNeg := ap1.2.2.2.2.2.2.1.2
  have hlift : ∀ J2, dL C K' L' R' J J2 → (∀ x j, K x = 1 → J2 x j = J x j) → cpP C K' L' J2 R' Y → a_does (d + 4) 51 [a_rf (C + 14), a_rf a] (n' + 1, t', K', L', J2, R') (fun r h' => a_at (d + 4) (a_xm a_m45) 49 [some (a_rf (C + 14)), some (a_rf a), some (a_rf (R (C + 16) (Y 20 i.toNatClampNeg).toNatClampNeg))] (r.toList ++ []) h' P) := fun J2 hJ2 hk2 hc2 => by
    have ap2 : aaP C K' J2 Y i a := by
      have ao := aa_of hc2 ai.1 ai.2
      rw [R15, haa] at ao
      exact ao
    refine ce_lift (d := d) hJ2.1 hc2 hse1 ap2 (by rw [R15]; exact haa) pa (fun J3 hJ3 hc3 _ haz => ?_)
    have hp := hP n' t' K' L' J3 R' (cH_J hH' hJ3.1) (dQ_Q hQ (dQ_L (dL_L hJ2 hJ3))) hc3 hse1 R15 (fun x j kx hx => by
      have k2 := (kk x (by rw [kx]; decide)).1
      rw [haz x j (by rw [k2]; exact kx) hx, hk2 x j kx]
      exact jJ x j (by rw [kx]; decide) (by rw [kx]; decide) (by rw [kx]; omega))
    clear hP hc hc1 hc2 hc3 ap ap1 ap2 al am hse hse1
    simp only [q45_49, as_nil, as_i, as_r, Nat.reduceAdd, Nat.reduceLeDiff, z_eq0, z_eq1, z_or, z_em, Classical.not_not, not_false_eq_true, not_true_eq_false, true_and, and_true, false_and, and_false, and_self, true_implies, false_implies, implies_true, Option.toList_some, Option.toList_none, List.cons_append, List.nil_append, Nat.add_eq_zero_iff, a_nl_i, a_nl_r, a_nl_n, true_or, or_true, eq_self, a_isRA_22, a_isRA_24, a_isRA_32, a_isA_20, ok_4, ok_5, ok_6, ok_7, ok_9, ok_20, ok_21, ok_30, ok_50, ok_180, ok_192, ok_200]
    exact hp
  have hdate : a_does (d + 4) 50 [a_rf (R (C + 16) (Y 20 i.toNatClampNeg).toNatClampNeg), .int (J a 14), .int (J a 14 + J a 2 - 1), .int (J (C + 1) 6)] (n' + 1, t', K', L', J, R') (fun r h' => a_at (d + 4) (a_xm a_m45) 44 [some (a_rf (C + 14)), some (a_rf a), some (a_rf (R (C + 16) (Y 20 i.toNatClampNeg).toNatClampNeg))] (r.toList ++ []) h' P) := by
    refine ce_date (d := d + 3) hb' hT' (by rw [f14]; exact ⟨ps.1, ps.2.2⟩) (fun J2 hJ2 hd => ?_)
    have e4 : R' (R (C + 16) (Y 20 i.toNatClampNeg).toNatClampNeg) 4 = (R (C + 16) (Y 20 i.toNatClampNeg).toNatClampNeg) + 3 := by rw [rm1 _ _ bl (by omega)]; exact eB4
    have k4 : K' ((R (C + 16) (Y 20 i.toNatClampNeg).toNatClampNeg) + 3) = 20 := by rw [← e4]; exact (hT'.g_bnc _ hb').2.2.2.1.2.1
    have hl := hlift J2 hJ2 (fun x j kx => hd _ _ (fun e => by
      have k2 := (kk x (by rw [kx]; decide)).1
      rw [kx, e, e4, k4] at k2
      cases k2)) (cp_fr hT' hc1 (fun k j hk => hd _ _ (by rw [e4]; omega)) (fun x j kx => hd _ _ (fun e => by rw [e, e4, k4] at kx; cases kx)) (fun x j kx _ => hd _ _ (fun e => by rw [e, e4, k4] at kx; cases kx)) (fun x j kx => hd _ _ (fun e => by rw [e, e4, k4] at kx; cases kx)) (fun k k0 k1 j => hd _ _ (by
      have q := (hse1.2.2.1 k _ k0 k1 pa p6).1
      rw [R16] at q
      rw [e4]
      omega)) (fun o o0 o1 j => by
      obtain ⟨d2, d3, d4⟩ := hse1.1 o o0 o1
      rw [d2, d3]
      by_cases e : o = Y 20 i.toNatClampNeg
      · subst e
        rw [R16]
        exact ⟨hd _ _ (by rw [e4]; omega), hd _ _ (by rw [e4]; omega)⟩
      · have := se_ne hT' hc1 hse1 ⟨o0, o1⟩ ⟨pa, p6⟩ e
        rw [R16, R16] at this
        rw [R16]
        exact ⟨hd _ _ (by rw [e4]; omega), hd _ _ (by rw [e4]; omega)⟩))
    clear hP hc hc1 ap ap1 al am hse hse1 hlift hd
    have hS2 := hJ2.1.s
    simp only [q45_44, q45_45, q45_46, k_14 hS, z_14, as_nil, as_i, as_r, Nat.reduceAdd, Nat.reduceLeDiff, z_eq0, z_eq1, z_or, z_em, Classical.not_not, not_false_eq_true, not_true_eq_false, true_and, and_true, false_and, and_false, and_self, true_implies, false_implies, implies_true, Option.toList_some, Option.toList_none, List.cons_append, List.nil_append, Nat.add_eq_zero_iff, a_nl_i, a_nl_r, a_nl_n, true_or, or_true, eq_self, a_isRA_22, a_isRA_24, a_isRA_32, a_isA_20, ok_4, ok_5, ok_6, ok_7, ok_9, ok_20, ok_21, ok_30, ok_50, ok_180, ok_192, ok_200, ha', a0]
    try simp only [true_and, and_true, true_implies, false_implies, implies_true, not_true_eq_false, not_false_eq_true]
    first
      | exact hl
      | exact ⟨k_14 hS2, hl⟩
  clear hP hc hc1 ap ap1 al am hse hse1 hlift hS
  simp only [q45_25, q45_26, q45_27, q45_30, q45_31, q45_34, q45_35, q45_38, q45_41, k_14 hS', z_14, r_14_0 hS', k_1 hS', z_1, sp_last, as_nil, as_i, as_r, Nat.reduceAdd, Nat.reduceLeDiff, z_eq0, z_eq1, z_or, z_em, Classical.not_not, not_false_eq_true, not_true_eq_false, true_and, and_true, false_and, and_false, and_self, true_implies, false_implies, implies_true, Option.toList_some, Option.toList_none, List.cons_append, List.nil_append, Nat.add_eq_zero_iff, a_nl_i, a_nl_r, a_nl_n, true_or, or_true, eq_self, a_isRA_22, a_isRA_24, a_isRA_32, a_isA_20, ok_4, ok_5, ok_6, ok_7, ok_9, ok_20, ok_21, ok_30, ok_50, ok_180, ok_192, ok_200, ha', a0, hb', kb0]
  try simp only [true_and, and_true, true_implies, false_implies, implies_true, not_true_eq_false, not_false_eq_true]
  exact hdate
end YB0
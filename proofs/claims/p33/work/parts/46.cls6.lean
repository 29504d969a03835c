/-! the class: taking back -/
section K8
variable {d n t C c : Nat} {K L : Nat → Nat} {I I0 J J0 J1 J2 : Nat → Nat → Int32} {R : Nat → Nat → Nat} {P : Option Value → AH → Prop}
def a_ci (I : Nat → Nat → Int32) (a b sp dp m : Nat) : Nat → Nat → Int32 := fun x j => if x = b then va_cpy (I a) (I b) sp dp m j else I x j
theorem a_copy_eq {a b sp dp m : Nat} : a_copy (n, t, K, L, I, R) a b sp dp m = (n, t, K, L, a_ci I a b sp dp m, R) := rfl
theorem a_kd_eq : a_kd (n, t, K, L, I, R) = K := rfl
theorem a_ln_eq : a_ln (n, t, K, L, I, R) = L := rfl
theorem ci_ne {a b sp dp m x j : Nat} (h : ¬ x = b) : a_ci I a b sp dp m x j = I x j := if_neg h
theorem cn00 : Int32.toNatClampNeg 0 = 0 := rfl
theorem lt00 : ((0 : Int32) < 0) = False := eq_false (by decide)
theorem dQ_ui (h : dQ C n K L I R n K L J R) {x k : Nat} {v : Int32} (hx : C + 96 < x ∧ (K x = 20 ∨ (K x = 1 ∧ (k = 13 ∨ k = 14)) ∨ K x = 3)) : dQ C n K L I R n K L (a_ui J x k v) R := ⟨h.1, h.2.1, h.2.2.1, h.2.2.2.1, fun y j hy h1 h2 h3 => by rw [ui_ap, if_neg (fun e => h3 (by rw [e.1, e.2]; exact hx))]; exact h.2.2.2.2 y j hy h1 h2 h3⟩
theorem dQ_20 (h : dQ C n K L I R n K L J R) {x k : Nat} {v : Int32} (h1 : C + 96 < x) (h2 : K x = 20) : dQ C n K L I R n K L (a_ui J x k v) R := dQ_ui h ⟨h1, Or.inl h2⟩
theorem dQ_3 (h : dQ C n K L I R n K L J R) {x k : Nat} {v : Int32} (h1 : C + 96 < x) (h2 : K x = 3) : dQ C n K L I R n K L (a_ui J x k v) R := dQ_ui h ⟨h1, Or.inr (Or.inr h2)⟩
theorem mul5 {p : Int32} {l : Nat} (h0 : 0 ≤ p) (h1 : p < 16384) (hl : l ≤ 163840) : (p + 1) * 5 ≤ Int32.ofNat l ↔ 5 * (p + 1).toNatClampNeg ≤ l := by
  have e0 := Int32.le_iff_toInt_le.mp h0
  have e1 := Int32.lt_iff_toInt_lt.mp h1
  have c1 : (16384 : Int32).toInt = 16384 := rfl
  have c5 : (5 : Int32).toInt = 5 := rfl
  simp at e0
  have e2 : (p + 1).toInt = p.toInt + 1 := by
    rw [Int32.toInt_add]
    simp [Int.bmod_def]
    omega
  have e3 : ((p + 1) * 5).toInt = (p.toInt + 1) * 5 := by
    rw [Int32.toInt_mul, e2, c5]
    simp only [Int.bmod_def]
    omega
  have e4 : (Int32.ofNat l).toInt = l := by
    rw [Int32.toInt_ofNat']
    simp [Int.bmod_def]
    omega
  rw [Int32.le_iff_toInt_le, e3, e4]
  have e5 : (p + 1).toNatClampNeg = (p.toInt + 1).toNat := by
    show (p + 1).toInt.toNat = _
    rw [e2]
  rw [e5]
  omega
theorem dbl {l : Nat} (hl : l ≤ 81920) : (Int32.ofNat l * 2).toNatClampNeg = 2 * l ∧ ¬ Int32.ofNat l * 2 < 0 ∧ (Int32.ofNat l).toNatClampNeg = l ∧ ¬ Int32.ofNat l < 0 := by
  have c2 : (2 : Int32).toInt = 2 := rfl
  have e4 : (Int32.ofNat l).toInt = l := by
    rw [Int32.toInt_ofNat']
    simp [Int.bmod_def]
    omega
  have e3 : (Int32.ofNat l * 2).toInt = 2 * l := by
    rw [Int32.toInt_mul, e4, c2]
    simp only [Int.bmod_def]
    omega
  refine ⟨?_, ?_, ?_, ?_⟩
  · show (Int32.ofNat l * 2).toInt.toNat = _
    rw [e3]
    omega
  · rw [Int32.lt_iff_toInt_lt, e3]
    simp
    omega
  · show (Int32.ofNat l).toInt.toNat = _
    rw [e4]
    omega
  · rw [Int32.lt_iff_toInt_lt, e4]
    simp
theorem ck_hasRoom {b : Nat} (hb : K b = 3) (hH : cH C c (n + 1) t K L I R) (hj : ∃ j, j < 6 ∧ R (C + 16) j = b) (hP0 : P (some (.int 0)) (n + 1, t, K, L, I, R)) (hP : ∀ n' t' K' L' J R', cH C c (n' + 1) t' K' L' J R' → dQ C (n + 1) K L I R (n' + 1) K' L' J R' → (∀ x j, x < n + 1 → J x j = I x j) → I b 6 < 16384 → 5 * (I b 6 + 1).toNatClampNeg ≤ L' (R' b 5) → P (some (.int 1)) (n' + 1, t', K', L', J, R')) : a_does (d + 1) 48 [a_rf b] (n + 1, t, K, L, I, R) P := by
  have hT := hH.1
  have hS := hT.s
  obtain ⟨b1, ⟨w1, w2, w3⟩, ⟨s1, s2, s3⟩, ⟨h1, h2, h3⟩, ⟨p1, p2, p3⟩, q1⟩ := hT.g_bnc b hb
  have b0 : (b = 0) = False := eq_false (by omega)
  have w0 : (R b 2 = 0) = False := eq_false (by omega)
  have s0 : (R b 3 = 0) = False := eq_false (by omega)
  have h0 : (R b 4 = 0) = False := eq_false (by omega)
  have p0 : (R b 5 = 0) = False := eq_false (by omega)
  obtain ⟨m, m1, m2, m3⟩ := p3
  have fr := hH.2.1
  have bl : b < n + 1 := kn_lt fr hb (by decide)
  have pl : R b 5 < n + 1 := kn_lt fr p2 (by decide)
  have pn : ¬ R b 5 = n + 1 := by omega
  have bn : ¬ b = n + 1 := by omega
  rw [a_enter1 (M := a_m48) rfl (a_cat_rf a_cat_nil) (show 1 ≤ 2 by decide)]
  show a_at _ (a_xm a_m48) 0 [some (a_rf b), none] [] _ _
  simp only [q48_0, q48_1, q48_4, q48_7, q48_10, q48_11, q48_12, q48_13, q48_16, q48_17, q48_18, q48_19, q48_20, q48_21, q48_24, q48_25, as_nil, as_i, as_r, Nat.reduceAdd, Nat.reduceLeDiff, z_eq0, z_eq1, z_or, z_em, Classical.not_not, not_false_eq_true, not_true_eq_false, true_and, and_true, false_and, and_false, and_self, true_implies, false_implies, implies_true, Option.toList_some, Option.toList_none, List.cons_append, List.nil_append, Nat.add_eq_zero_iff, a_nl_i, a_nl_r, a_nl_n, true_or, or_true, eq_self, a_isRA_22, a_isRA_24, a_isRA_32, a_isA_20, ok_4, ok_5, ok_6, ok_7, ok_9, ok_20, ok_21, ok_30, ok_50, ok_180, ok_192, ok_200, hb, b0, w0, w2, w3, s0, s2, s3, h0, h2, h3, p0, p2]
  refine ⟨fun c1 => ?_, fun c1 => ?_⟩
  · have hm := mul5 q1.1 c1 (show L (R b 5) ≤ 163840 by omega)
    refine ⟨fun c2 => ?_, fun c2 => ?_⟩
    · simp only [q48_58, q48_59, as_nil, as_i, as_r, Nat.reduceAdd, Nat.reduceLeDiff, z_eq0, z_eq1, z_or, z_em, Classical.not_not, not_false_eq_true, not_true_eq_false, true_and, and_true, false_and, and_false, and_self, true_implies, false_implies, implies_true, Option.toList_some, Option.toList_none, List.cons_append, List.nil_append, Nat.add_eq_zero_iff, a_nl_i, a_nl_r, a_nl_n, true_or, or_true, eq_self, a_isRA_22, a_isRA_24, a_isRA_32, a_isA_20, ok_4, ok_5, ok_6, ok_7, ok_9, ok_20, ok_21, ok_30, ok_50, ok_180, ok_192, ok_200, hb, b0, w0, w2, w3, s0, s2, s3, h0, h2, h3, p0, p2]
      exact hP n t K L I R hH dQ_refl (fun _ _ _ => rfl) c1 (hm.mp c2)
    · have c3 : ¬ 5 * (I b 6 + 1).toNatClampNeg ≤ L (R b 5) := fun q => c2 (hm.mpr q)
      have ep : (I b 6 + 1).toNatClampNeg = (I b 6).toNatClampNeg + 1 := by
        have e0 := Int32.le_iff_toInt_le.mp q1.1
        have e1 := Int32.lt_iff_toInt_lt.mp c1
        have c1 : (16384 : Int32).toInt = 16384 := rfl
        simp at e0
        have e2 : (I b 6 + 1).toInt = (I b 6).toInt + 1 := by
          rw [Int32.toInt_add]
          simp [Int.bmod_def]
          omega
        show (I b 6 + 1).toInt.toNat = (I b 6).toInt.toNat + 1
        rw [e2]
        omega
      have el : (I b 6).toNatClampNeg < 16384 := by
        have e0 := Int32.le_iff_toInt_le.mp q1.1
        have e1 := Int32.lt_iff_toInt_lt.mp c1
        have c1 : (16384 : Int32).toInt = 16384 := rfl
        simp at e0
        show (I b 6).toInt.toNat < 16384
        omega
      obtain ⟨d1, d2, d3, d4⟩ := dbl (show L (R b 5) ≤ 81920 by omega)
      have f1 : a_up K (n + 1) 20 (R b 5) = 20 := by rw [up_ne pn]; exact p2
      have f2 : a_up K (n + 1) 20 b = 3 := by rw [up_ne bn]; exact hb
      have f3 : a_zr R (n + 1) b 5 = R b 5 := zr_ne bn
      have f4 : a_up L (n + 1) (2 * L (R b 5)) (R b 5) = L (R b 5) := up_ne pn
      have f5 : a_up K (n + 1) 20 (n + 1) = 20 := up_eq
      have f6 : a_up L (n + 1) (2 * L (R b 5)) (n + 1) = 2 * L (R b 5) := up_eq
      have f7 : (n + 1 = 0) = False := eq_false (by omega)
      simp only [q48_28, q48_29, q48_32, q48_33, q48_34, q48_35, q48_37, q48_38, q48_39, q48_42, q48_43, q48_44, q48_45, q48_46, q48_49, q48_50, q48_53, q48_54, q48_55, q48_58, q48_59, as_nil, as_i, as_r, Nat.reduceAdd, Nat.reduceLeDiff, z_eq0, z_eq1, z_or, z_em, Classical.not_not, not_false_eq_true, not_true_eq_false, true_and, and_true, false_and, and_false, and_self, true_implies, false_implies, implies_true, Option.toList_some, Option.toList_none, List.cons_append, List.nil_append, Nat.add_eq_zero_iff, a_nl_i, a_nl_r, a_nl_n, true_or, or_true, eq_self, a_isRA_22, a_isRA_24, a_isRA_32, a_isA_20, ok_4, ok_5, ok_6, ok_7, ok_9, ok_20, ok_21, ok_30, ok_50, ok_180, ok_192, ok_200, hb, b0, w0, w2, w3, s0, s2, s3, h0, h2, h3, p0, p2, d1, d2, d3, d4, f1, f2, f3, f4, f5, f6, f7, a_copy_eq, a_kd_eq, a_ln_eq, cn00, lt00, Nat.zero_add]
      have e9 : 2 * L (R b 5) = 160 * m := by omega
      have hJJ : ∀ x j, x < n + 1 → a_ci (a_zi I (n + 1)) (R b 5) (n + 1) 0 0 (L (R b 5)) x j = I x j := fun x j hx => by rw [ci_ne (by omega), zi_ne (by omega)]
      have hf := hP (n + 1) (t + 160 * m) (a_up K (n + 1) 20) (a_up L (n + 1) (160 * m)) (a_ci (a_zi I (n + 1)) (R b 5) (n + 1) 0 0 (L (R b 5))) (a_ur (a_zr R (n + 1)) b 5 (n + 1)) (cH_past hH hb m1 m2 (by omega) hj hJJ) ⟨by omega, fun x hx => up_ne (by omega), fun x hx => up_ne (by omega), fun x j hx hk => by rw [ur_ap, if_neg (fun e => hk (by rw [e.1]; exact hb)), zr_ne (by omega)], fun x j hx _ _ _ => hJJ x j hx⟩ hJJ c1 (by rw [ur_ap, if_pos ⟨rfl, rfl⟩, up_eq]; omega)
      rw [e9]
      try simp only [not_false_eq_true, true_and, and_true]
      repeat' first
        | with_reducible apply And.intro
        | exact hf
        | decide
        | omega
  · try simp only [q48_10, q48_11, as_nil, as_i, as_r, Nat.reduceAdd, Nat.reduceLeDiff, z_eq0, z_eq1, z_or, z_em, Classical.not_not, not_false_eq_true, not_true_eq_false, true_and, and_true, false_and, and_false, and_self, true_implies, false_implies, implies_true, Option.toList_some, Option.toList_none, List.cons_append, List.nil_append, Nat.add_eq_zero_iff, a_nl_i, a_nl_r, a_nl_n, true_or, or_true, eq_self, a_isRA_22, a_isRA_24, a_isRA_32, a_isA_20, ok_4, ok_5, ok_6, ok_7, ok_9, ok_20, ok_21, ok_30, ok_50, ok_180, ok_192, ok_200, hb, b0, w0, w2, w3, s0, s2, s3, h0, h2, h3, p0, p2]
    first
      | exact hP0
      | exact ⟨by decide, hP0⟩
theorem ck_remember {b : Nat} (hb : K b = 3) {a : Nat} (ha : K a = 1) (hH : cH C c (n + 1) t K L I R) (hj : ∃ j, j < 6 ∧ R (C + 16) j = b) (hs : 0 ≤ I a 14 ∧ I a 14 < 200) {w : Int32} (hP : ∀ n' t' K' L' J R', cH C c (n' + 1) t' K' L' J R' → dQ C (n + 1) K L I R (n' + 1) K' L' J R' → (∀ j, J a j = I a j) → P none (n' + 1, t', K', L', J, R')) : a_does (d + 2) 47 [a_rf b, a_rf a, .int w] (n + 1, t, K, L, I, R) P := by
  have hT := hH.1
  have hS := hT.s
  obtain ⟨b1, ⟨w1, w2, w3⟩, ⟨s1, s2, s3⟩, ⟨h1, h2, h3⟩, ⟨p1, p2, p3⟩, q1⟩ := hT.g_bnc b hb
  have b0 : (b = 0) = False := eq_false (by omega)
  have w0 : (R b 2 = 0) = False := eq_false (by omega)
  have s0 : (R b 3 = 0) = False := eq_false (by omega)
  have h0 : (R b 4 = 0) = False := eq_false (by omega)
  have p0 : (R b 5 = 0) = False := eq_false (by omega)
  obtain ⟨a1, a2, a4, a3⟩ := hT.g_ask a ha
  have a0 : (a = 0) = False := eq_false (by omega)
  have fr := hH.2.1
  have bl : b < n + 1 := kn_lt fr hb (by decide)
  have al : a < n + 1 := kn_lt fr ha (by decide)
  have hn := hP n t K L I R hH dQ_refl (fun _ => rfl)
  rw [a_enter1 (M := a_m47) rfl (a_cat_rf (a_cat_rf (a_cat_int a_cat_nil))) (show 3 ≤ 5 by decide)]
  show a_at _ (a_xm a_m47) 0 [some (a_rf b), some (a_rf a), some (.int w), none, none] [] _ _
  simp only [q47_0, q47_1, q47_4, q47_5, q47_8, q47_9, q47_10, q47_11, q47_12, q47_15, q47_16, as_nil, as_i, as_r, Nat.reduceAdd, Nat.reduceLeDiff, z_eq0, z_eq1, z_or, z_em, Classical.not_not, not_false_eq_true, not_true_eq_false, true_and, and_true, false_and, and_false, and_self, true_implies, false_implies, implies_true, Option.toList_some, Option.toList_none, List.cons_append, List.nil_append, Nat.add_eq_zero_iff, a_nl_i, a_nl_r, a_nl_n, true_or, or_true, eq_self, a_isRA_22, a_isRA_24, a_isRA_32, a_isA_20, ok_4, ok_5, ok_6, ok_7, ok_9, ok_20, ok_21, ok_30, ok_50, ok_180, ok_192, ok_200, hb, b0, w0, w2, w3, s0, s2, s3, h0, h2, h3, p0, p2, ha, a0]
  refine ⟨hs, fun c1 => ?_, fun c1 => ?_⟩
  · simp only [q47_22, as_nil, as_i, as_r, Nat.reduceAdd, Nat.reduceLeDiff, z_eq0, z_eq1, z_or, z_em, Classical.not_not, not_false_eq_true, not_true_eq_false, true_and, and_true, false_and, and_false, and_self, true_implies, false_implies, implies_true, Option.toList_some, Option.toList_none, List.cons_append, List.nil_append, Nat.add_eq_zero_iff, a_nl_i, a_nl_r, a_nl_n, true_or, or_true, eq_self, a_isRA_22, a_isRA_24, a_isRA_32, a_isA_20, ok_4, ok_5, ok_6, ok_7, ok_9, ok_20, ok_21, ok_30, ok_50, ok_180, ok_192, ok_200]
    exact hn
  · refine ck_hasRoom hb hH hj ?_ (fun n' t' K' L' J R' hH' hQ hJ hp hl => ?_)
    · simp only [q47_19, q47_22, as_nil, as_i, as_r, Nat.reduceAdd, Nat.reduceLeDiff, z_eq0, z_eq1, z_or, z_em, Classical.not_not, not_false_eq_true, not_true_eq_false, true_and, and_true, false_and, and_false, and_self, true_implies, false_implies, implies_true, Option.toList_some, Option.toList_none, List.cons_append, List.nil_append, Nat.add_eq_zero_iff, a_nl_i, a_nl_r, a_nl_n, true_or, or_true, eq_self, a_isRA_22, a_isRA_24, a_isRA_32, a_isA_20, ok_4, ok_5, ok_6, ok_7, ok_9, ok_20, ok_21, ok_30, ok_50, ok_180, ok_192, ok_200]
      first
        | exact hn
        | exact ⟨fun h => absurd rfl h, fun _ => hn⟩
    · clear hn
      have hb' : K' b = 3 := by rw [hQ.2.1 b bl]; exact hb
      have ha' : K' a = 1 := by rw [hQ.2.1 a al]; exact ha
      have hT' := hH'.1
      have e6 := hJ b 6 bl
      obtain ⟨-, -, -, -, ⟨r1, r2, -⟩, r6⟩ := hT'.g_bnc b hb'
      have p0' : (R' b 5 = 0) = False := eq_false (by omega)
      rw [← e6] at hp
      rw [← e6] at hl
      have hi : J b 6 < J b 6 + 1 := by clear hP hT hT' hH hH' hQ hJ; grind
      have hi2 : J b 6 + 1 ≤ 16384 := by clear hP hT hT' hH hH' hQ hJ; grind
      have m0 := past_ok0 r6.1 hi hi2 hl
      have m1 := past_ok (e := 1) r6.1 hi hi2 hl (by decide)
      have m2 := past_ok (e := 2) r6.1 hi hi2 hl (by decide)
      have m3 := past_ok (e := 3) r6.1 hi hi2 hl (by decide)
      have m4 := past_ok (e := 4) r6.1 hi hi2 hl (by decide)
      have n1 : ¬ b = R' b 5 := fun e => by rw [← e, hb'] at r2; cases r2
      have n2 : ¬ a = R' b 5 := fun e => by rw [← e, ha'] at r2; cases r2
      have n3 : ¬ a = b := fun e => by rw [e, hb] at ha; cases ha
      simp only [q47_19, q47_22, q47_23, q47_24, q47_27, q47_28, q47_29, q47_31, q47_32, q47_35, q47_37, q47_38, q47_41, q47_42, q47_43, q47_46, q47_48, q47_49, q47_50, q47_51, q47_54, q47_55, q47_56, q47_59, q47_61, q47_62, q47_63, q47_64, q47_67, q47_68, q47_69, q47_72, q47_74, q47_75, q47_76, q47_77, q47_78, q47_79, q47_82, q47_84, q47_85, q47_86, q47_87, q47_88, q47_89, q47_90, q47_93, q47_94, q47_95, q47_98, sp_last, as_nil, as_i, as_r, Nat.reduceAdd, Nat.reduceLeDiff, z_eq0, z_eq1, z_or, z_em, Classical.not_not, not_false_eq_true, not_true_eq_false, true_and, and_true, false_and, and_false, and_self, true_implies, false_implies, implies_true, Option.toList_some, Option.toList_none, List.cons_append, List.nil_append, Nat.add_eq_zero_iff, a_nl_i, a_nl_r, a_nl_n, true_or, or_true, eq_self, a_isRA_22, a_isRA_24, a_isRA_32, a_isA_20, ok_4, ok_5, ok_6, ok_7, ok_9, ok_20, ok_21, ok_30, ok_50, ok_180, ok_192, ok_200, ui_ap, cc_ne, cc_n0, cc_0n, Nat.reduceEqDiff, reduceIte, if_true, if_false, hb', ha', b0, a0, p0', r2, n1, n2, n3, m0, m1, m2, m3, m4]
      have z : 0 ≤ J b 6 + 1 := by clear hP hT hT' hH hH' hQ hJ; grind
      have hq : ∀ J2, cT C K' L' J2 R' → dQ C (n' + 1) K' L' J R' (n' + 1) K' L' J2 R' → (∀ j, J2 a j = J a j) → P none (n' + 1, t', K', L', J2, R') := fun J2 q1 q2 q3 => hP n' t' K' L' J2 R' (cH_J hH' q1) (dQ_Q hQ q2) (fun j => (q3 j).trans (hJ a j al))
      repeat' first
        | with_reducible apply And.intro
        | with_reducible assumption
        | with_reducible intro _
        | with_reducible apply hq
        | with_reducible apply sT_past
        | with_reducible apply sT_arr
        | with_reducible apply dQ_3 (h1 := b1) (h2 := hb')
        | with_reducible apply dQ_20 (h1 := r1) (h2 := r2)
        | with_reducible exact dQ_refl
        | (simp only [ui_ap, n1, n2, n3, false_and, if_false, b0]; done)
      
theorem ck_clear {a : Nat} (ha : K a = 1) (hH : cH C c (n + 1) t K L I R) (hP : ∀ n' t' K' L' J R', cH C c (n' + 1) t' K' L' J R' → dQ C (n + 1) K L I R (n' + 1) K' L' J R' → P none (n' + 1, t', K', L', J, R')) : a_does (d + 5) 45 [a_rf (C + 14), a_rf a] (n + 1, t, K, L, I, R) P := by
  have hT := hH.1
  have hS := hT.s
  obtain ⟨a1, a2, a4, a3⟩ := hT.g_ask a ha
  have a0 : (a = 0) = False := eq_false (by omega)
  have gA := hT.g_asksR
  have gB := hT.g_benchesR
  have gX := hT.g_textsR
  have fr := hH.2.1
  have al : a < n + 1 := kn_lt fr ha (by decide)
  have gi := gB (I a 13).toNatClampNeg
  have hlift : ∀ n' t' K' L' J R', cH C c (n' + 1) t' K' L' J R' → dQ C (n + 1) K L I R (n' + 1) K' L' J R' → ∀ u, a_at (d + 4) (a_xm a_m45) 44 [some (a_rf (C + 14)), some (a_rf a), u] [] (n' + 1, t', K', L', J, R') P := fun n' t' K' L' J R' hH' hQ u => by
    have ha' : K' a = 1 := by rw [hQ.2.1 a al]; exact ha
    have hS := hH'.1.s
    simp only [q45_44, q45_45, q45_46, q45_49, k_14 hS, z_14, as_nil, as_i, as_r, Nat.reduceAdd, Nat.reduceLeDiff, z_eq0, z_eq1, z_or, z_em, Classical.not_not, not_false_eq_true, not_true_eq_false, true_and, and_true, false_and, and_false, and_self, true_implies, false_implies, implies_true, Option.toList_some, Option.toList_none, List.cons_append, List.nil_append, Nat.add_eq_zero_iff, a_nl_i, a_nl_r, a_nl_n, true_or, or_true, eq_self, a_isRA_22, a_isRA_24, a_isRA_32, a_isA_20, ok_4, ok_5, ok_6, ok_7, ok_9, ok_20, ok_21, ok_30, ok_50, ok_180, ok_192, ok_200, ha', a0]
    refine ck_lift ha' hH'.1 (fun J2 hL => ?_)
    simp only [q45_49, as_nil, as_i, as_r, Nat.reduceAdd, Nat.reduceLeDiff, z_eq0, z_eq1, z_or, z_em, Classical.not_not, not_false_eq_true, not_true_eq_false, true_and, and_true, false_and, and_false, and_self, true_implies, false_implies, implies_true, Option.toList_some, Option.toList_none, List.cons_append, List.nil_append, Nat.add_eq_zero_iff, a_nl_i, a_nl_r, a_nl_n, true_or, or_true, eq_self, a_isRA_22, a_isRA_24, a_isRA_32, a_isA_20, ok_4, ok_5, ok_6, ok_7, ok_9, ok_20, ok_21, ok_30, ok_50, ok_180, ok_192, ok_200, ha', a0]
    exact hP n' t' K' L' J2 R' (cH_J hH' hL.1) (dQ_Q hQ (dQ_L hL))
  have hl0 := hlift n t K L I R hH dQ_refl
  rw [a_enter1 (M := a_m45) rfl (a_cat_rf (a_cat_rf a_cat_nil)) (show 2 ≤ 3 by decide)]
  show a_at _ (a_xm a_m45) 0 [some (a_rf (C + 14)), some (a_rf a), none] [] _ _
  simp only [q45_0, q45_1, q45_2, q45_5, q45_8, q45_9, q45_10, k_14 hS, z_14, sp_benchAt hS gB, as_nil, as_i, as_r, Nat.reduceAdd, Nat.reduceLeDiff, z_eq0, z_eq1, z_or, z_em, Classical.not_not, not_false_eq_true, not_true_eq_false, true_and, and_true, false_and, and_false, and_self, true_implies, false_implies, implies_true, Option.toList_some, Option.toList_none, List.cons_append, List.nil_append, Nat.add_eq_zero_iff, a_nl_i, a_nl_r, a_nl_n, true_or, or_true, eq_self, a_isRA_22, a_isRA_24, a_isRA_32, a_isA_20, ok_4, ok_5, ok_6, ok_7, ok_9, ok_20, ok_21, ok_30, ok_50, ok_180, ok_192, ok_200, ha, a0]
  refine ⟨fun h1 => ⟨fun h2 => hl0 _, fun h2 => ?_⟩, fun h1 => ?_⟩
  · have hb := gi.resolve_left h2
    have b1 := (hT.g_bnc _ hb).1
    have b0 : (R (C + 16) (I a 13).toNatClampNeg = 0) = False := eq_false h2
    have h3 := a3 h1.1
    have hj : ∃ j, j < 6 ∧ R (C + 16) j = R (C + 16) (I a 13).toNatClampNeg := ⟨_, show (I a 13).toNatClampNeg < (6 : Int32).toNatClampNeg from cl_lt h1.1 h1.2.2, rfl⟩
    have bl := kn_lt fr hb (by decide)
    simp only [q45_13, q45_14, q45_15, q45_16, q45_19, q45_22, k_14 hS, z_14, r_14_0 hS, k_1 hS, z_1, as_nil, as_i, as_r, Nat.reduceAdd, Nat.reduceLeDiff, z_eq0, z_eq1, z_or, z_em, Classical.not_not, not_false_eq_true, not_true_eq_false, true_and, and_true, false_and, and_false, and_self, true_implies, false_implies, implies_true, Option.toList_some, Option.toList_none, List.cons_append, List.nil_append, Nat.add_eq_zero_iff, a_nl_i, a_nl_r, a_nl_n, true_or, or_true, eq_self, a_isRA_22, a_isRA_24, a_isRA_32, a_isA_20, ok_4, ok_5, ok_6, ok_7, ok_9, ok_20, ok_21, ok_30, ok_50, ok_180, ok_192, ok_200, ha, a0, hb, b0]
    refine ck_remember hb ha hH hj ⟨h3.1, by clear hP hlift hl0 hT hH gA gB gX; grind⟩ (fun n' t' K' L' J R' hH' hQ hJ => ?_)
    have ha' : K' a = 1 := by rw [hQ.2.1 a al]; exact ha
    have hb' : K' (R (C + 16) (I a 13).toNatClampNeg) = 3 := by rw [hQ.2.1 _ bl]; exact hb
    have hS := hH'.1.s
    have e14 := hJ 14
    simp only [q45_25, q45_26, q45_27, q45_30, q45_31, q45_34, q45_35, q45_38, q45_41, k_14 hS, z_14, r_14_0 hS, k_1 hS, z_1, sp_last, as_nil, as_i, as_r, Nat.reduceAdd, Nat.reduceLeDiff, z_eq0, z_eq1, z_or, z_em, Classical.not_not, not_false_eq_true, not_true_eq_false, true_and, and_true, false_and, and_false, and_self, true_implies, false_implies, implies_true, Option.toList_some, Option.toList_none, List.cons_append, List.nil_append, Nat.add_eq_zero_iff, a_nl_i, a_nl_r, a_nl_n, true_or, or_true, eq_self, a_isRA_22, a_isRA_24, a_isRA_32, a_isA_20, ok_4, ok_5, ok_6, ok_7, ok_9, ok_20, ok_21, ok_30, ok_50, ok_180, ok_192, ok_200, ha', a0, hb', b0]
    refine ck_date hb' (dL_refl hH'.1) ⟨by rw [e14]; exact h3.1, by rw [e14]; exact Int32.le_trans h3.2.1 (by decide)⟩ (fun J2 hL => ?_)
    exact hlift n' t' K' L' J2 R' (cH_J hH' hL.1) (dQ_Q hQ (dQ_L hL)) _
  · first
      | exact hl0 _
      | exact ⟨fun _ => hl0 _, fun h => absurd rfl h⟩
theorem ck_clearUnfit {a : Nat} (ha : K a = 1) (hH : cH C c (n + 1) t K L I R) (hP : ∀ v n' t' K' L' J R', cH C c (n' + 1) t' K' L' J R' → dQ C (n + 1) K L I R (n' + 1) K' L' J R' → P (some (.int v)) (n' + 1, t', K', L', J, R')) : a_does (d + 6) 145 [a_rf (C + 14), a_rf a] (n + 1, t, K, L, I, R) P := by
  have hT := hH.1
  have hS := hT.s
  obtain ⟨a1, a2, a4, a3⟩ := hT.g_ask a ha
  have a0 : (a = 0) = False := eq_false (by omega)
  have hn : ∀ J, dC C K L R I J → ∀ v, P (some (.int v)) (n + 1, t, K, L, J, R) := fun J h v => hP v n t K L J R (cH_J hH h.1) (dQ_C h)
  have hr := dC_refl hT
  rw [a_enter1 (M := a_m145) rfl (a_cat_rf (a_cat_rf a_cat_nil)) (show 2 ≤ 2 by decide)]
  show a_at _ (a_xm a_m145) 0 [some (a_rf (C + 14)), some (a_rf a)] [] _ _
  simp only [q145_0, q145_1, q145_2, q145_5, q145_8, q145_9, q145_10, q145_11, q145_14, q145_15, q145_18, k_14 hS, z_14, sp_mayMove hS, as_nil, as_i, as_r, Nat.reduceAdd, Nat.reduceLeDiff, z_eq0, z_eq1, z_or, z_em, Classical.not_not, not_false_eq_true, not_true_eq_false, true_and, and_true, false_and, and_false, and_self, true_implies, false_implies, implies_true, Option.toList_some, Option.toList_none, List.cons_append, List.nil_append, Nat.add_eq_zero_iff, a_nl_i, a_nl_r, a_nl_n, true_or, or_true, eq_self, a_isRA_22, a_isRA_24, a_isRA_32, a_isA_20, ok_4, ok_5, ok_6, ok_7, ok_9, ok_20, ok_21, ok_30, ok_50, ok_180, ok_192, ok_200, ha, a0]
  refine ⟨fun h1 => ?_, fun h1 => ?_⟩
  all_goals
    try simp only [q145_24, q145_25, as_nil, as_i, as_r, Nat.reduceAdd, Nat.reduceLeDiff, z_eq0, z_eq1, z_or, z_em, Classical.not_not, not_false_eq_true, not_true_eq_false, true_and, and_true, false_and, and_false, and_self, true_implies, false_implies, implies_true, Option.toList_some, Option.toList_none, List.cons_append, List.nil_append, Nat.add_eq_zero_iff, a_nl_i, a_nl_r, a_nl_n, true_or, or_true, eq_self, a_isRA_22, a_isRA_24, a_isRA_32, a_isA_20, ok_4, ok_5, ok_6, ok_7, ok_9, ok_20, ok_21, ok_30, ok_50, ok_180, ok_192, ok_200, ha, a0]
    first
      | exact hn I hr _
      | exact ⟨by decide, hn I hr _⟩
      | skip
  all_goals
    refine ck_firstBar ha hT (fun v J hJ _ => ?_)
    simp only [q145_21, q145_24, q145_25, q145_26, q145_27, q145_28, k_14 hS, z_14, as_nil, as_i, as_r, Nat.reduceAdd, Nat.reduceLeDiff, z_eq0, z_eq1, z_or, z_em, Classical.not_not, not_false_eq_true, not_true_eq_false, true_and, and_true, false_and, and_false, and_self, true_implies, false_implies, implies_true, Option.toList_some, Option.toList_none, List.cons_append, List.nil_append, Nat.add_eq_zero_iff, a_nl_i, a_nl_r, a_nl_n, true_or, or_true, eq_self, a_isRA_22, a_isRA_24, a_isRA_32, a_isA_20, ok_4, ok_5, ok_6, ok_7, ok_9, ok_20, ok_21, ok_30, ok_50, ok_180, ok_192, ok_200, ha, a0]
    have hJT := cH_J hH hJ.1
    refine ⟨fun h2 => ?_, fun h2 => ?_⟩
    all_goals first
      | exact hn J hJ _
      | exact ⟨by decide, hn J hJ _⟩
      | (refine ck_clear ha hJT (fun n' t' K' L' J2 R' hH' hQ => ?_)
         simp only [q145_31, q145_32, as_nil, as_i, as_r, Nat.reduceAdd, Nat.reduceLeDiff, z_eq0, z_eq1, z_or, z_em, Classical.not_not, not_false_eq_true, not_true_eq_false, true_and, and_true, false_and, and_false, and_self, true_implies, false_implies, implies_true, Option.toList_some, Option.toList_none, List.cons_append, List.nil_append, Nat.add_eq_zero_iff, a_nl_i, a_nl_r, a_nl_n, true_or, or_true, eq_self, a_isRA_22, a_isRA_24, a_isRA_32, a_isA_20, ok_4, ok_5, ok_6, ok_7, ok_9, ok_20, ok_21, ok_30, ok_50, ok_180, ok_192, ok_200, ha, a0]
         first
           | exact hP _ _ _ _ _ _ _ hH' (dQ_Q (dQ_C hJ) hQ)
           | exact ⟨by decide, hP _ _ _ _ _ _ _ hH' (dQ_Q (dQ_C hJ) hQ)⟩)
end K8
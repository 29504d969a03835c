/-! the class: rings, whole -/
section KH
variable {d n t C c n0 n' n'' t' : Nat} {K L K0 L0 K' L' K'' L'' : Nat → Nat} {I I0 J J0 J1 J2 : Nat → Nat → Int32} {R R0 R' R'' : Nat → Nat → Nat} {P : Option Value → AH → Prop}
theorem rn_put1 {m : Int32} {v : Nat} (h : rnP C R m) (h0 : 0 ≤ m) (hm : m ≤ 5) (hv : ¬ v = 0) : rnP C (a_ur R (C + 38) m.toNatClampNeg v) (m + 1) := by
  intro i p1 p2
  rw [ur_ap]
  by_cases e : i = m
  · rw [if_pos ⟨rfl, by rw [e]⟩]
    exact hv
  · rw [if_neg (fun r => e (cl_inj p1 h0 r.2))]
    exact h i p1 (by clear h; grind)
theorem rn_le {m q : Int32} (h : rnP C R m) (hq : q ≤ m) : rnP C R q := fun i p1 p2 => h i p1 (by clear h; grind)
def kCL (C c n0 : Nat) (K0 L0 : Nat → Nat) (I0 : Nat → Nat → Int32) (R0 : Nat → Nat → Nat) (n t : Nat) (K L : Nat → Nat) (m : Int32) (z : Nat) : Prop := ∀ (at_ : Int32) (I : Nat → Nat → Int32) (R : Nat → Nat → Nat) (D : Nat) (P : Option Value → AH → Prop), 1 ≤ at_ → at_.toInt + z = m.toInt → z + 20 ≤ D → cZ C c n0 K0 L0 I0 R0 n t K L I R → I (C + 35) 7 = m → rnP C R at_ → (∀ v J R2, cZ C c n0 K0 L0 I0 R0 n t K L J R2 → J (C + 35) 7 = m → rnP C R2 at_ → (v = 0 ∨ v = 1) → (¬ v = 0 → rnP C R2 m ∧ frP C J R2 m) → P (some (.int v)) (n, t, K, L, J, R2)) → a_does D 152 [a_rf (C + 35), .int at_] (n, t, K, L, I, R) P
theorem lk_closes_66 {E : Nat} {m a l f : Int32} (hm : 2 ≤ m ∧ m ≤ 5) (h1a : 1 ≤ a) (ham : a < m) (hf : 0 ≤ f ∧ f < 30) (hl : 0 ≤ l) (hr : ∀ (I : Nat → Nat → Int32) (R : Nat → Nat → Nat) (P : Option Value → AH → Prop), cZ C c n0 K0 L0 I0 R0 n t K L I R → I (C + 35) 7 = m → rnP C R (a + 1) → (∀ v J R2, cZ C c n0 K0 L0 I0 R0 n t K L J R2 → J (C + 35) 7 = m → rnP C R2 (a + 1) → (v = 0 ∨ v = 1) → (¬ v = 0 → rnP C R2 m ∧ frP C J R2 m) → P (some (.int v)) (n, t, K, L, J, R2)) → a_does (E + 19) 152 [a_rf (C + 35), .int (a + 1)] (n, t, K, L, I, R) P) (hP : (∀ v J R2, cZ C c n0 K0 L0 I0 R0 n t K L J R2 → J (C + 35) 7 = m → rnP C R2 a → (v = 0 ∨ v = 1) → (¬ v = 0 → rnP C R2 m ∧ frP C J R2 m) → P (some (.int v)) (n, t, K, L, J, R2))) : ∀ i : Int32, i ≤ 30 → ∀ J R u, 0 ≤ i → cZ C c n0 K0 L0 I0 R0 n t K L J R → J (C + 35) 7 = m → rnP C R a → a_at (E + 19) (a_xm a_m152) 66 [some (a_rf (C + 35)), some (.int a), some (.int l), some (.int f), some (.int i), u] [] (n, t, K, L, J, R) P := by
  refine up_ind 30 (fun i hk ih => ?_)
  intro J R u q0 hZ es hN
  have hT := hZ.2.1.1
  have hS := hT.s
  have gA := hT.g_asksR
  have gB := hT.g_benchesR
  have gX := hT.g_textsR
  have gc := hT.g_asks
  have gi := gA i.toNatClampNeg
  have a5 : 0 ≤ a ∧ a < 5 := by clear hP hr ih hZ hT hN gA gB gX; grind
  have a5' : a ≤ 5 := by clear hP hr ih hZ hT hN gA gB gX; grind
  have a50 : 0 ≤ a := a5.1
  have aa1 : a ≤ a + 1 := by clear hP hr ih hZ hT hN gA gB gX; grind
  have h0 := hP 0 J R hZ es hN (Or.inl rfl) (fun h => absurd rfl h)
  have hnext : i < 30 → ∀ J R u, cZ C c n0 K0 L0 I0 R0 n t K L J R → J (C + 35) 7 = m → rnP C R a → a_at (E + 19) (a_xm a_m152) 141 [some (a_rf (C + 35)), some (.int a), some (.int l), some (.int f), some (.int i), u] [] (n, t, K, L, J, R) P := fun hi J R u z e b => by
    simp only [q152_141, q152_144, as_nil, as_i, as_r, Nat.reduceAdd, Nat.reduceLeDiff, z_eq0, z_eq1, z_or, z_em, Classical.not_not, not_false_eq_true, not_true_eq_false, true_and, and_true, false_and, and_false, and_self, true_implies, false_implies, implies_true, Option.toList_some, Option.toList_none, List.cons_append, List.nil_append, Nat.add_eq_zero_iff, a_nl_i, a_nl_r, a_nl_n, true_or, or_true, eq_self, a_isRA_22, a_isRA_24, a_isRA_32, a_isA_20, ok_4, ok_5, ok_6, ok_7, ok_9, ok_20, ok_21, ok_30, ok_50, ok_180, ok_192, ok_200]
    exact ih hi J R u (by clear hP hr ih hZ hT hN gA gB gX h0; grind) z e b
  rw [q152_66]
  simp only [q152_68, q152_69, q152_72, q152_75, q152_78, q152_79, q152_82, q152_84, k_35 hS, z_35, r_35_0 hS, k_14 hS, z_14, sp_askAt hS gA, as_nil, as_i, as_r, Nat.reduceAdd, Nat.reduceLeDiff, z_eq0, z_eq1, z_or, z_em, Classical.not_not, not_false_eq_true, not_true_eq_false, true_and, and_true, false_and, and_false, and_self, true_implies, false_implies, implies_true, Option.toList_some, Option.toList_none, List.cons_append, List.nil_append, Nat.add_eq_zero_iff, a_nl_i, a_nl_r, a_nl_n, true_or, or_true, eq_self, a_isRA_22, a_isRA_24, a_isRA_32, a_isA_20, ok_4, ok_5, ok_6, ok_7, ok_9, ok_20, ok_21, ok_30, ok_50, ok_180, ok_192, ok_200]
  refine ⟨fun h1 => ?_, fun h1 => ?_⟩
  · simp only [q152_147, q152_148, as_nil, as_i, as_r, Nat.reduceAdd, Nat.reduceLeDiff, z_eq0, z_eq1, z_or, z_em, Classical.not_not, not_false_eq_true, not_true_eq_false, true_and, and_true, false_and, and_false, and_self, true_implies, false_implies, implies_true, Option.toList_some, Option.toList_none, List.cons_append, List.nil_append, Nat.add_eq_zero_iff, a_nl_i, a_nl_r, a_nl_n, true_or, or_true, eq_self, a_isRA_22, a_isRA_24, a_isRA_32, a_isA_20, ok_4, ok_5, ok_6, ok_7, ok_9, ok_20, ok_21, ok_30, ok_50, ok_180, ok_192, ok_200]
    first
      | exact h0
      | exact ⟨by decide, h0⟩
  · have hi : i < 30 := by clear hP hr ih hZ hT hN gA gB gX h0 hnext; grind
    have hsame := fun u => hnext hi J R u hZ es hN
    refine ⟨fun h2 => ?_, fun h2 => ?_⟩
    · simp only [q152_87, q152_89, q152_91, as_nil, as_i, as_r, Nat.reduceAdd, Nat.reduceLeDiff, z_eq0, z_eq1, z_or, z_em, Classical.not_not, not_false_eq_true, not_true_eq_false, true_and, and_true, false_and, and_false, and_self, true_implies, false_implies, implies_true, Option.toList_some, Option.toList_none, List.cons_append, List.nil_append, Nat.add_eq_zero_iff, a_nl_i, a_nl_r, a_nl_n, true_or, or_true, eq_self, a_isRA_22, a_isRA_24, a_isRA_32, a_isA_20, ok_4, ok_5, ok_6, ok_7, ok_9, ok_20, ok_21, ok_30, ok_50, ok_180, ok_192, ok_200]
      refine ⟨fun h3 => hsame _, fun h3 => ?_⟩
      have ha := gi.resolve_left h3
      simp only [q152_94, q152_95, q152_98, q152_99, q152_100, q152_102, k_35 hS, z_35, r_35_2 hS, k_37 hS, l_37 hS, z_37, as_nil, as_i, as_r, Nat.reduceAdd, Nat.reduceLeDiff, z_eq0, z_eq1, z_or, z_em, Classical.not_not, not_false_eq_true, not_true_eq_false, true_and, and_true, false_and, and_false, and_self, true_implies, false_implies, implies_true, Option.toList_some, Option.toList_none, List.cons_append, List.nil_append, Nat.add_eq_zero_iff, a_nl_i, a_nl_r, a_nl_n, true_or, or_true, eq_self, a_isRA_22, a_isRA_24, a_isRA_32, a_isA_20, ok_4, ok_5, ok_6, ok_7, ok_9, ok_20, ok_21, ok_30, ok_50, ok_180, ok_192, ok_200]
      refine ⟨hf, ?_⟩
      refine ck_isIn (fun v => ?_)
      simp only [q152_105, q152_108, q152_109, q152_111, q152_114, q152_115, k_35 hS, z_35, as_nil, as_i, as_r, Nat.reduceAdd, Nat.reduceLeDiff, z_eq0, z_eq1, z_or, z_em, Classical.not_not, not_false_eq_true, not_true_eq_false, true_and, and_true, false_and, and_false, and_self, true_implies, false_implies, implies_true, Option.toList_some, Option.toList_none, List.cons_append, List.nil_append, Nat.add_eq_zero_iff, a_nl_i, a_nl_r, a_nl_n, true_or, or_true, eq_self, a_isRA_22, a_isRA_24, a_isRA_32, a_isA_20, ok_4, ok_5, ok_6, ok_7, ok_9, ok_20, ok_21, ok_30, ok_50, ok_180, ok_192, ok_200, ha, h3]
      refine ⟨fun _ => hsame _, fun _ => ?_⟩
      refine ck_isNewGroup a5' hN hT (fun v2 => ?_)
      have z1 := cZ_R38 (j := a.toNatClampNeg) hZ (Or.inr ha)
      have N1 := rn_put1 hN a50 a5' h3
      have hgo : a_at (E + 19) (a_xm a_m152) 121 [some (a_rf (C + 35)), some (.int a), some (.int l), some (.int f), some (.int i), some (a_rf (R (C + 15) i.toNatClampNeg))] [] (n, t, K, L, J, R) P := by
        simp only [q152_121, q152_122, q152_125, q152_126, q152_128, q152_129, q152_130, q152_131, q152_132, q152_133, k_35 hS, z_35, r_35_3 hS, k_38 hS, l_38 hS, z_38, as_nil, as_i, as_r, Nat.reduceAdd, Nat.reduceLeDiff, z_eq0, z_eq1, z_or, z_em, Classical.not_not, not_false_eq_true, not_true_eq_false, true_and, and_true, false_and, and_false, and_self, true_implies, false_implies, implies_true, Option.toList_some, Option.toList_none, List.cons_append, List.nil_append, Nat.add_eq_zero_iff, a_nl_i, a_nl_r, a_nl_n, true_or, or_true, eq_self, a_isRA_22, a_isRA_24, a_isRA_32, a_isA_20, ok_4, ok_5, ok_6, ok_7, ok_9, ok_20, ok_21, ok_30, ok_50, ok_180, ok_192, ok_200, ha, h3]
        have hc3 : ∀ v3 J3 R3, cZ C c n0 K0 L0 I0 R0 n t K L J3 R3 → J3 (C + 35) 7 = m → rnP C R3 (a + 1) → (v3 = 0 ∨ v3 = 1) → (¬ v3 = 0 → rnP C R3 m ∧ frP C J3 R3 m) → a_at (E + 19) (a_xm a_m152) 136 [some (a_rf (C + 35)), some (.int a), some (.int l), some (.int f), some (.int i), some (a_rf (R (C + 15) i.toNatClampNeg))] [.int v3] (n, t, K, L, J3, R3) P := fun v3 J3 R3 z3 e3 N3 b3 f3 => by
          simp only [q152_136, q152_139, q152_140, as_nil, as_i, as_r, Nat.reduceAdd, Nat.reduceLeDiff, z_eq0, z_eq1, z_or, z_em, Classical.not_not, not_false_eq_true, not_true_eq_false, true_and, and_true, false_and, and_false, and_self, true_implies, false_implies, implies_true, Option.toList_some, Option.toList_none, List.cons_append, List.nil_append, Nat.add_eq_zero_iff, a_nl_i, a_nl_r, a_nl_n, true_or, or_true, eq_self, a_isRA_22, a_isRA_24, a_isRA_32, a_isA_20, ok_4, ok_5, ok_6, ok_7, ok_9, ok_20, ok_21, ok_30, ok_50, ok_180, ok_192, ok_200]
          refine ⟨fun _ => hnext hi J3 R3 _ z3 e3 (rn_le N3 aa1), fun hv => ?_⟩
          have := hP 1 J3 R3 z3 e3 (rn_le N3 aa1) (Or.inr rfl) (fun _ => f3 hv)
          first
            | exact this
            | exact ⟨by decide, this⟩
        repeat' first
          | with_reducible apply And.intro
          | exact a50
          | exact a5.2
          | exact hr J _ _ z1 es N1 hc3
          | (right; rfl)
          | trivial
      simp only [q152_118, as_nil, as_i, as_r, Nat.reduceAdd, Nat.reduceLeDiff, z_eq0, z_eq1, z_or, z_em, Classical.not_not, not_false_eq_true, not_true_eq_false, true_and, and_true, false_and, and_false, and_self, true_implies, false_implies, implies_true, Option.toList_some, Option.toList_none, List.cons_append, List.nil_append, Nat.add_eq_zero_iff, a_nl_i, a_nl_r, a_nl_n, true_or, or_true, eq_self, a_isRA_22, a_isRA_24, a_isRA_32, a_isA_20, ok_4, ok_5, ok_6, ok_7, ok_9, ok_20, ok_21, ok_30, ok_50, ok_180, ok_192, ok_200]
      exact ⟨fun _ => hsame _, fun _ => hgo⟩
    · simp only [q152_87, q152_89, q152_91, as_nil, as_i, as_r, Nat.reduceAdd, Nat.reduceLeDiff, z_eq0, z_eq1, z_or, z_em, Classical.not_not, not_false_eq_true, not_true_eq_false, true_and, and_true, false_and, and_false, and_self, true_implies, false_implies, implies_true, Option.toList_some, Option.toList_none, List.cons_append, List.nil_append, Nat.add_eq_zero_iff, a_nl_i, a_nl_r, a_nl_n, true_or, or_true, eq_self, a_isRA_22, a_isRA_24, a_isRA_32, a_isA_20, ok_4, ok_5, ok_6, ok_7, ok_9, ok_20, ok_21, ok_30, ok_50, ok_180, ok_192, ok_200]
      first
        | exact hsame _
        | exact ⟨fun _ => hsame _, fun h => absurd rfl h⟩
theorem kCL_all {m : Int32} (hm : 2 ≤ m ∧ m ≤ 5) : ∀ z, kCL C c n0 K0 L0 I0 R0 n t K L m z := by
  intro z
  have s0 := Int32.le_iff_toInt_le.mp hm.1
  have s1 := Int32.le_iff_toInt_le.mp hm.2
  have c0 : (0 : Int32).toInt = 0 := rfl
  have c1 : (1 : Int32).toInt = 1 := rfl
  have c2 : (2 : Int32).toInt = 2 := rfl
  have c5 : (5 : Int32).toInt = 5 := rfl
  have pre : ∀ (a : Int32) (I : Nat → Nat → Int32) (R : Nat → Nat → Nat), 1 ≤ a → a ≤ m → cZ C c n0 K0 L0 I0 R0 n t K L I R → rnP C R a → K (R (C + 38) ((0 : Int32)).toNatClampNeg) = 1 ∧ K (R (C + 38) ((a - 1)).toNatClampNeg) = 1 ∧ ¬ (R (C + 38) ((0 : Int32)).toNatClampNeg) = 0 ∧ ¬ (R (C + 38) ((a - 1)).toNatClampNeg) = 0 ∧ (0 ≤ a - 1 ∧ a - 1 < 5) := fun a I R h1 h2 z N => by
    have x : 0 ≤ a - 1 ∧ a - 1 < 5 ∧ a - 1 < a ∧ 0 < a := by clear N z s0 s1; grind
    have n0 := N 0 (by decide) x.2.2.2
    have n1 := N (a - 1) x.1 x.2.2.1
    exact ⟨(z.2.1.1.g_ringR _).resolve_left n0, (z.2.1.1.g_ringR _).resolve_left n1, n0, n1, x.1, x.2.1⟩
  induction z with
  | zero =>
    intro a I R D P h1 ha hD hZ es hN hP
    obtain ⟨E, rfl⟩ : ∃ E, D = E + 20 := ⟨D - 20, by omega⟩
    have hT := hZ.2.1.1
    have hS := hT.s
    have ea : a = m := Int32.toInt_inj.mp (by omega)
    obtain ⟨k0, k1, y0, y1, x5⟩ := pre a I R h1 (by rw [ea]; exact Int32.le_refl _) hZ hN
    have g1 := (hT.g_ask _ k1).2.2.1
    have hd : ∀ (v : Int32) J, dR C K L R I J → (v = 0 ∨ v = 1) → (¬ v = 0 → frP C J R m) → P (some (.int v)) (n, t, K, L, J, R) := fun v J g b f => hP v J R (cZ_G hZ (dR_G g)) ((dR_sz g).trans es) hN b (fun hv => ⟨by rw [← ea]; exact hN, f hv⟩)
    have p0 := hd 0 I (dR_refl hT) (Or.inl rfl) (fun h => absurd rfl h)
    have g29 : 0 ≤ I (R (C + 38) ((a - 1)).toNatClampNeg) 4 ∧ I (R (C + 38) ((a - 1)).toNatClampNeg) 4 < 30 := ⟨g1.1, by clear hP hd p0 hZ hN hT pre; grind⟩
    rw [a_enter1 (M := a_m152) rfl (a_cat_rf (a_cat_int a_cat_nil)) (show 2 ≤ 6 by decide)]
    show a_at _ (a_xm a_m152) 0 [some (a_rf (C + 35)), some (.int a), none, none, none, none] [] _ _
    simp only [q152_0, q152_1, q152_4, q152_5, q152_6, q152_9, q152_10, q152_11, q152_14, q152_15, q152_16, q152_17, q152_18, q152_21, q152_22, q152_23, q152_24, q152_27, q152_30, q152_31, q152_32, q152_35, q152_36, q152_39, q152_40, q152_41, q152_42, k_35 hS, z_35, r_35_3 hS, k_38 hS, l_38 hS, z_38, r_35_2 hS, k_37 hS, l_37 hS, z_37, as_nil, as_i, as_r, Nat.reduceAdd, Nat.reduceLeDiff, z_eq0, z_eq1, z_or, z_em, Classical.not_not, not_false_eq_true, not_true_eq_false, true_and, and_true, false_and, and_false, and_self, true_implies, false_implies, implies_true, Option.toList_some, Option.toList_none, List.cons_append, List.nil_append, Nat.add_eq_zero_iff, a_nl_i, a_nl_r, a_nl_n, true_or, or_true, eq_self, a_isRA_22, a_isRA_24, a_isRA_32, a_isA_20, ok_4, ok_5, ok_6, ok_7, ok_9, ok_20, ok_21, ok_30, ok_50, ok_180, ok_192, ok_200, k0, k1, y0, y1, es, ← ea, Int32.le_refl]
    refine ⟨by decide, x5, g29, ?_⟩
    refine ck_isIn (fun v => ?_)
    simp only [q152_45, q152_48, q152_49, q152_52, q152_55, q152_56, q152_59, q152_60, k_35 hS, z_35, as_nil, as_i, as_r, Nat.reduceAdd, Nat.reduceLeDiff, z_eq0, z_eq1, z_or, z_em, Classical.not_not, not_false_eq_true, not_true_eq_false, true_and, and_true, false_and, and_false, and_self, true_implies, false_implies, implies_true, Option.toList_some, Option.toList_none, List.cons_append, List.nil_append, Nat.add_eq_zero_iff, a_nl_i, a_nl_r, a_nl_n, true_or, or_true, eq_self, a_isRA_22, a_isRA_24, a_isRA_32, a_isA_20, ok_4, ok_5, ok_6, ok_7, ok_9, ok_20, ok_21, ok_30, ok_50, ok_180, ok_192, ok_200]
    refine ⟨fun _ => ?_, fun _ => ?_⟩
    · first
        | exact p0
        | exact ⟨by decide, p0⟩
    · refine ck_canTurn (m := m) (by clear hP hd p0 hZ hN hT pre; grind) hm.2 (by rw [← ea]; exact hN) es hT (fun v2 J2 g2 b2 f2 => ?_)
      simp only [q152_52, q152_55, q152_56, q152_59, q152_60, as_nil, as_i, as_r, Nat.reduceAdd, Nat.reduceLeDiff, z_eq0, z_eq1, z_or, z_em, Classical.not_not, not_false_eq_true, not_true_eq_false, true_and, and_true, false_and, and_false, and_self, true_implies, false_implies, implies_true, Option.toList_some, Option.toList_none, List.cons_append, List.nil_append, Nat.add_eq_zero_iff, a_nl_i, a_nl_r, a_nl_n, true_or, or_true, eq_self, a_isRA_22, a_isRA_24, a_isRA_32, a_isA_20, ok_4, ok_5, ok_6, ok_7, ok_9, ok_20, ok_21, ok_30, ok_50, ok_180, ok_192, ok_200]
      have q0 := hd 0 J2 g2 (Or.inl rfl) (fun h => absurd rfl h)
      refine ⟨fun _ => ?_, fun hv => ?_⟩
      · first
          | exact q0
          | exact ⟨by decide, q0⟩
      · have q1 := hd 1 J2 g2 (Or.inr rfl) (fun _ => f2 hv)
        first
          | exact q1
          | exact ⟨by decide, q1⟩
  | succ z ih =>
    intro a I R D P h1 ha hD hZ es hN hP
    obtain ⟨E, rfl⟩ : ∃ E, D = E + 20 := ⟨D - 20, by omega⟩
    have hT := hZ.2.1.1
    have hS := hT.s
    have h1i := Int32.le_iff_toInt_le.mp h1
    have ham : a < m := by rw [Int32.lt_iff_toInt_lt]; omega
    obtain ⟨k0, k1, y0, y1, x5⟩ := pre a I R h1 (Int32.le_of_lt ham) hZ hN
    have g0 := (hT.g_ask _ k0).2.2.1
    have g1 := (hT.g_ask _ k1).2.2.1
    have g29 : 0 ≤ I (R (C + 38) ((a - 1)).toNatClampNeg) 4 ∧ I (R (C + 38) ((a - 1)).toNatClampNeg) 4 < 30 := ⟨g1.1, by clear hP hZ hN hT pre ih; grind⟩
    have nm : ¬ m ≤ a := Int32.not_le.mpr ham
    have a5 : a < 5 := by clear hP hZ hN hT pre ih; grind
    have e1 : (a + 1).toInt = a.toInt + 1 := by rw [ti_add (by omega)]; omega
    have hr : ∀ (I : Nat → Nat → Int32) (R : Nat → Nat → Nat) (P : Option Value → AH → Prop), cZ C c n0 K0 L0 I0 R0 n t K L I R → I (C + 35) 7 = m → rnP C R (a + 1) → (∀ v J R2, cZ C c n0 K0 L0 I0 R0 n t K L J R2 → J (C + 35) 7 = m → rnP C R2 (a + 1) → (v = 0 ∨ v = 1) → (¬ v = 0 → rnP C R2 m ∧ frP C J R2 m) → P (some (.int v)) (n, t, K, L, J, R2)) → a_does (E + 19) 152 [a_rf (C + 35), .int (a + 1)] (n, t, K, L, I, R) P := fun I R P z e N hP => ih (a + 1) I R (E + 19) P (by rw [Int32.le_iff_toInt_le]; omega) (by omega) (by omega) z e N hP
    have hl0 : 0 ≤ I (R (C + 38) ((0 : Int32)).toNatClampNeg) 4 + 1 ∧ I (R (C + 38) ((0 : Int32)).toNatClampNeg) 4 + 1 ≤ 30 := by clear hP hZ hN hT pre ih hr; grind
    have hl := fun u => lk_closes_66 (E := E) (l := I (R (C + 38) ((0 : Int32)).toNatClampNeg) 4) hm h1 ham g29 g0.1 hr hP (I (R (C + 38) ((0 : Int32)).toNatClampNeg) 4 + 1) hl0.2 I R u hl0.1 hZ es hN
    rw [a_enter1 (M := a_m152) rfl (a_cat_rf (a_cat_int a_cat_nil)) (show 2 ≤ 6 by decide)]
    show a_at _ (a_xm a_m152) 0 [some (a_rf (C + 35)), some (.int a), none, none, none, none] [] _ _
    simp only [q152_0, q152_1, q152_4, q152_5, q152_6, q152_9, q152_10, q152_11, q152_14, q152_15, q152_16, q152_17, q152_18, q152_21, q152_22, q152_23, q152_24, q152_27, q152_30, q152_31, q152_32, q152_35, q152_36, q152_39, q152_40, q152_41, q152_42, q152_45, q152_48, q152_49, q152_52, q152_55, q152_56, q152_59, q152_60, q152_61, q152_62, q152_63, q152_64, k_35 hS, z_35, r_35_3 hS, k_38 hS, l_38 hS, z_38, r_35_2 hS, k_37 hS, l_37 hS, z_37, as_nil, as_i, as_r, Nat.reduceAdd, Nat.reduceLeDiff, z_eq0, z_eq1, z_or, z_em, Classical.not_not, not_false_eq_true, not_true_eq_false, true_and, and_true, false_and, and_false, and_self, true_implies, false_implies, implies_true, Option.toList_some, Option.toList_none, List.cons_append, List.nil_append, Nat.add_eq_zero_iff, a_nl_i, a_nl_r, a_nl_n, true_or, or_true, eq_self, a_isRA_22, a_isRA_24, a_isRA_32, a_isA_20, ok_4, ok_5, ok_6, ok_7, ok_9, ok_20, ok_21, ok_30, ok_50, ok_180, ok_192, ok_200, k0, k1, y0, y1, es, nm, a5]
    exact ⟨by decide, x5, hl _⟩
theorem lk_find_44 {m : Int32} (hm : 2 ≤ m ∧ m ≤ 5) (hP : ∀ v J R, cZ C c n0 K0 L0 I0 R0 n t K L J R → J (C + 35) 7 = v → (v = 0 ∨ (2 ≤ v ∧ v ≤ 5)) → rnP C R v → frP C J R v → P (some (.int v)) (n, t, K, L, J, R)) (hn : ∀ J R u, cZ C c n0 K0 L0 I0 R0 n t K L J R → a_at (d + 40) (a_xm a_m150) 94 [some (a_rf (C + 35)), some (.int m), u] [] (n, t, K, L, J, R) P) : ∀ i : Int32, i ≤ 30 → ∀ J R, 0 ≤ i → cZ C c n0 K0 L0 I0 R0 n t K L J R → J (C + 35) 7 = m → a_at (d + 40) (a_xm a_m150) 44 [some (a_rf (C + 35)), some (.int m), some (.int i)] [] (n, t, K, L, J, R) P := by
  refine up_ind 30 (fun i hk ih => ?_)
  intro J R q0 hZ es
  have hT := hZ.2.1.1
  have hS := hT.s
  have gA := hT.g_asksR
  have gB := hT.g_benchesR
  have gX := hT.g_textsR
  have gc := hT.g_asks
  have gi := gA i.toNatClampNeg
  have hnext : i < 30 → ∀ J R, cZ C c n0 K0 L0 I0 R0 n t K L J R → J (C + 35) 7 = m → a_at (d + 40) (a_xm a_m150) 88 [some (a_rf (C + 35)), some (.int m), some (.int i)] [] (n, t, K, L, J, R) P := fun hi J R z e => by
    simp only [q150_88, q150_91, as_nil, as_i, as_r, Nat.reduceAdd, Nat.reduceLeDiff, z_eq0, z_eq1, z_or, z_em, Classical.not_not, not_false_eq_true, not_true_eq_false, true_and, and_true, false_and, and_false, and_self, true_implies, false_implies, implies_true, Option.toList_some, Option.toList_none, List.cons_append, List.nil_append, Nat.add_eq_zero_iff, a_nl_i, a_nl_r, a_nl_n, true_or, or_true, eq_self, a_isRA_22, a_isRA_24, a_isRA_32, a_isA_20, ok_4, ok_5, ok_6, ok_7, ok_9, ok_20, ok_21, ok_30, ok_50, ok_180, ok_192, ok_200]
    exact ih hi J R (by clear hP hn ih hZ hT gA gB gX; grind) z e
  rw [q150_44]
  simp only [q150_45, q150_46, q150_49, q150_52, q150_55, q150_56, q150_59, q150_60, q150_61, q150_64, q150_65, k_35 hS, z_35, r_35_0 hS, k_14 hS, z_14, r_35_3 hS, k_38 hS, l_38 hS, z_38, sp_askAt hS gA, as_nil, as_i, as_r, Nat.reduceAdd, Nat.reduceLeDiff, z_eq0, z_eq1, z_or, z_em, Classical.not_not, not_false_eq_true, not_true_eq_false, true_and, and_true, false_and, and_false, and_self, true_implies, false_implies, implies_true, Option.toList_some, Option.toList_none, List.cons_append, List.nil_append, Nat.add_eq_zero_iff, a_nl_i, a_nl_r, a_nl_n, true_or, or_true, eq_self, a_isRA_22, a_isRA_24, a_isRA_32, a_isA_20, ok_4, ok_5, ok_6, ok_7, ok_9, ok_20, ok_21, ok_30, ok_50, ok_180, ok_192, ok_200]
  refine ⟨fun h1 => hn J R _ hZ, fun h1 => ?_⟩
  have h1 := Int32.not_le.mp h1
  have hi : i < 30 := by clear hP hn ih hZ hT hnext gA gB gX; grind
  have hn0 := hT.g_asksN i q0 h1
  have ha := gi.resolve_left hn0
  have z1 := cZ_R38 (j := 0) hZ (Or.inr ha)
  have N1 : rnP C (a_ur R (C + 38) 0 (R (C + 15) i.toNatClampNeg)) 1 := fun j j0 j1 => by
    have : j = 0 := by clear hP hn ih hZ hT hnext gA gB gX z1; grind
    subst this
    rw [ur_ap, if_pos ⟨rfl, rfl⟩]
    exact hn0
  have s0 := Int32.le_iff_toInt_le.mp hm.1
  have s1 := Int32.le_iff_toInt_le.mp hm.2
  have c1 : (1 : Int32).toInt = 1 := rfl
  have c2 : (2 : Int32).toInt = 2 := rfl
  have c5 : (5 : Int32).toInt = 5 := rfl
  refine ⟨fun _ => ?_, fun h => absurd ⟨q0, h1, hi⟩ h⟩
  simp only [q150_68, q150_69, q150_70, q150_73, q150_74, q150_75, q150_78, q150_79, q150_80, k_35 hS, z_35, r_35_2 hS, k_37 hS, l_37 hS, z_37, as_nil, as_i, as_r, Nat.reduceAdd, Nat.reduceLeDiff, z_eq0, z_eq1, z_or, z_em, Classical.not_not, not_false_eq_true, not_true_eq_false, true_and, and_true, false_and, and_false, and_self, true_implies, false_implies, implies_true, Option.toList_some, Option.toList_none, List.cons_append, List.nil_append, Nat.add_eq_zero_iff, a_nl_i, a_nl_r, a_nl_n, true_or, or_true, eq_self, a_isRA_22, a_isRA_24, a_isRA_32, a_isA_20, ok_4, ok_5, ok_6, ok_7, ok_9, ok_20, ok_21, ok_30, ok_50, ok_180, ok_192, ok_200, ur_ap, cc_ne, Nat.reduceEqDiff, if_false, k_38 hS, l_38 hS, z_38, cn00, ha]
  have hsame := hnext hi _ _ z1 es
  have hcl : a_does (d + 40) 152 [a_rf (C + 35), .int 1] (n, t, K, L, J, a_ur R (C + 38) 0 (R (C + 15) i.toNatClampNeg)) (fun r h' => a_at (d + 40) (a_xm a_m150) 83 [some (a_rf (C + 35)), some (.int m), some (.int i)] (r.toList ++ []) h' P) := by
    refine kCL_all (C := C) (c := c) (n0 := n0) (K0 := K0) (L0 := L0) (I0 := I0) (R0 := R0) (n := n) (t := t) (K := K) (L := L) hm (m.toInt - 1).toNat 1 J _ (d + 40) _ (by decide) (by omega) (by omega) z1 es N1 (fun v J2 R2 z2 e2 N2 b2 f2 => ?_)
    simp only [q150_83, q150_86, q150_87, as_nil, as_i, as_r, Nat.reduceAdd, Nat.reduceLeDiff, z_eq0, z_eq1, z_or, z_em, Classical.not_not, not_false_eq_true, not_true_eq_false, true_and, and_true, false_and, and_false, and_self, true_implies, false_implies, implies_true, Option.toList_some, Option.toList_none, List.cons_append, List.nil_append, Nat.add_eq_zero_iff, a_nl_i, a_nl_r, a_nl_n, true_or, or_true, eq_self, a_isRA_22, a_isRA_24, a_isRA_32, a_isA_20, ok_4, ok_5, ok_6, ok_7, ok_9, ok_20, ok_21, ok_30, ok_50, ok_180, ok_192, ok_200]
    refine ⟨fun _ => hnext hi J2 R2 z2 e2, fun hv => ?_⟩
    exact hP m J2 R2 z2 e2 (Or.inr hm) (f2 hv).1 (f2 hv).2
  repeat' first
    | with_reducible apply And.intro
    | with_reducible intro _
    | exact hsame
    | exact hcl
    | exact q0
    | exact hi
    | decide
    | (right; rfl)
theorem lk_find_32 (hP : ∀ v J R, cZ C c n0 K0 L0 I0 R0 n t K L J R → J (C + 35) 7 = v → (v = 0 ∨ (2 ≤ v ∧ v ≤ 5)) → rnP C R v → frP C J R v → P (some (.int v)) (n, t, K, L, J, R)) : ∀ m : Int32, m ≤ 6 → ∀ J R u, 2 ≤ m → cZ C c n0 K0 L0 I0 R0 n t K L J R → a_at (d + 40) (a_xm a_m150) 32 [some (a_rf (C + 35)), some (.int m), u] [] (n, t, K, L, J, R) P := by
  refine up_ind 6 (fun m hk ih => ?_)
  intro J R u q0 hZ
  have hT := hZ.2.1.1
  have hS := hT.s
  have hn : m < 6 → ∀ J R u, cZ C c n0 K0 L0 I0 R0 n t K L J R → a_at (d + 40) (a_xm a_m150) 94 [some (a_rf (C + 35)), some (.int m), u] [] (n, t, K, L, J, R) P := fun hi J R u z => by
    simp only [q150_94, q150_97, as_nil, as_i, as_r, Nat.reduceAdd, Nat.reduceLeDiff, z_eq0, z_eq1, z_or, z_em, Classical.not_not, not_false_eq_true, not_true_eq_false, true_and, and_true, false_and, and_false, and_self, true_implies, false_implies, implies_true, Option.toList_some, Option.toList_none, List.cons_append, List.nil_append, Nat.add_eq_zero_iff, a_nl_i, a_nl_r, a_nl_n, true_or, or_true, eq_self, a_isRA_22, a_isRA_24, a_isRA_32, a_isA_20, ok_4, ok_5, ok_6, ok_7, ok_9, ok_20, ok_21, ok_30, ok_50, ok_180, ok_192, ok_200]
    exact ih hi J R _ (by clear hP ih hZ hT; grind) z
  rw [q150_32]
  simp only [q150_33, q150_34, q150_37, q150_38, q150_39, q150_42, q150_43, k_35 hS, z_35, as_nil, as_i, as_r, Nat.reduceAdd, Nat.reduceLeDiff, z_eq0, z_eq1, z_or, z_em, Classical.not_not, not_false_eq_true, not_true_eq_false, true_and, and_true, false_and, and_false, and_self, true_implies, false_implies, implies_true, Option.toList_some, Option.toList_none, List.cons_append, List.nil_append, Nat.add_eq_zero_iff, a_nl_i, a_nl_r, a_nl_n, true_or, or_true, eq_self, a_isRA_22, a_isRA_24, a_isRA_32, a_isA_20, ok_4, ok_5, ok_6, ok_7, ok_9, ok_20, ok_21, ok_30, ok_50, ok_180, ok_192, ok_200, ui_ap, cc_ne, cc_n0, cc_0n, Nat.reduceEqDiff, reduceIte, if_true, if_false]
  refine ⟨fun h1 => ?_, fun h1 => ?_⟩
  · have z := cZ_G hZ (dG_Circle_size (v := 0) (dG_refl hT) (by decide))
    simp only [q150_100, q150_101, q150_102, q150_105, q150_106, k_35 hS, z_35, as_nil, as_i, as_r, Nat.reduceAdd, Nat.reduceLeDiff, z_eq0, z_eq1, z_or, z_em, Classical.not_not, not_false_eq_true, not_true_eq_false, true_and, and_true, false_and, and_false, and_self, true_implies, false_implies, implies_true, Option.toList_some, Option.toList_none, List.cons_append, List.nil_append, Nat.add_eq_zero_iff, a_nl_i, a_nl_r, a_nl_n, true_or, or_true, eq_self, a_isRA_22, a_isRA_24, a_isRA_32, a_isA_20, ok_4, ok_5, ok_6, ok_7, ok_9, ok_20, ok_21, ok_30, ok_50, ok_180, ok_192, ok_200, ui_ap, cc_ne, cc_n0, cc_0n, Nat.reduceEqDiff, reduceIte, if_true, if_false]
    exact hP 0 _ _ z (by rw [ui_ap, if_pos ⟨rfl, rfl⟩]) (Or.inl rfl) (fun i h0 h1 => absurd h1 (Int32.not_lt.mpr h0)) (fun i h0 h1 => absurd h1 (Int32.not_lt.mpr h0))
  · have hm : 2 ≤ m ∧ m ≤ 5 := by clear hP ih hZ hT hn; grind
    have z := cZ_G hZ (dG_Circle_size (v := m) (dG_refl hT) (by clear hP ih hZ hT hn; grind))
    exact lk_find_44 (d := d) hm hP (hn (by clear hP ih hZ hT hn; grind)) 0 (by decide) _ R (by decide) z (by rw [ui_ap, if_pos ⟨rfl, rfl⟩])
theorem lk_find_2 (hP : ∀ v J R, cZ C c n0 K0 L0 I0 R0 n t K L J R → J (C + 35) 7 = v → (v = 0 ∨ (2 ≤ v ∧ v ≤ 5)) → rnP C R v → frP C J R v → P (some (.int v)) (n, t, K, L, J, R)) : ∀ i : Int32, i ≤ 30 → ∀ J R u, 0 ≤ i → cZ C c n0 K0 L0 I0 R0 n t K L J R → a_at (d + 40) (a_xm a_m150) 2 [some (a_rf (C + 35)), some (.int i), u] [] (n, t, K, L, J, R) P := by
  refine up_ind 30 (fun i hk ih => ?_)
  intro J R u q0 hZ
  have hT := hZ.2.1.1
  have hS := hT.s
  have gc := hT.g_asks
  rw [q150_2]
  simp only [q150_3, q150_4, q150_7, q150_10, q150_13, q150_14, q150_17, q150_18, q150_19, q150_20, k_35 hS, z_35, r_35_0 hS, k_14 hS, z_14, r_35_2 hS, k_37 hS, l_37 hS, z_37, as_nil, as_i, as_r, Nat.reduceAdd, Nat.reduceLeDiff, z_eq0, z_eq1, z_or, z_em, Classical.not_not, not_false_eq_true, not_true_eq_false, true_and, and_true, false_and, and_false, and_self, true_implies, false_implies, implies_true, Option.toList_some, Option.toList_none, List.cons_append, List.nil_append, Nat.add_eq_zero_iff, a_nl_i, a_nl_r, a_nl_n, true_or, or_true, eq_self, a_isRA_22, a_isRA_24, a_isRA_32, a_isA_20, ok_4, ok_5, ok_6, ok_7, ok_9, ok_20, ok_21, ok_30, ok_50, ok_180, ok_192, ok_200, ui_ap, cc_ne, cc_n0, cc_0n, Nat.reduceEqDiff, reduceIte, if_true, if_false]
  refine ⟨fun h1 => ?_, fun h1 => ?_⟩
  · simp only [q150_30, q150_31, as_nil, as_i, as_r, Nat.reduceAdd, Nat.reduceLeDiff, z_eq0, z_eq1, z_or, z_em, Classical.not_not, not_false_eq_true, not_true_eq_false, true_and, and_true, false_and, and_false, and_self, true_implies, false_implies, implies_true, Option.toList_some, Option.toList_none, List.cons_append, List.nil_append, Nat.add_eq_zero_iff, a_nl_i, a_nl_r, a_nl_n, true_or, or_true, eq_self, a_isRA_22, a_isRA_24, a_isRA_32, a_isA_20, ok_4, ok_5, ok_6, ok_7, ok_9, ok_20, ok_21, ok_30, ok_50, ok_180, ok_192, ok_200, ui_ap, cc_ne, cc_n0, cc_0n, Nat.reduceEqDiff, reduceIte, if_true, if_false]
    exact lk_find_32 (d := d) hP 2 (by decide) J R u (by decide) hZ
  · have hi : 0 ≤ i ∧ i < 30 := by clear hP ih hZ hT; grind
    refine ck_soundWishes hi hT (fun v J2 j2 => ?_)
    have z := cZ_G (cZ_C hZ j2) (dG_37 (k := i.toNatClampNeg) (v := v) (dG_refl j2.1))
    simp only [q150_23, q150_24, q150_27, as_nil, as_i, as_r, Nat.reduceAdd, Nat.reduceLeDiff, z_eq0, z_eq1, z_or, z_em, Classical.not_not, not_false_eq_true, not_true_eq_false, true_and, and_true, false_and, and_false, and_self, true_implies, false_implies, implies_true, Option.toList_some, Option.toList_none, List.cons_append, List.nil_append, Nat.add_eq_zero_iff, a_nl_i, a_nl_r, a_nl_n, true_or, or_true, eq_self, a_isRA_22, a_isRA_24, a_isRA_32, a_isA_20, ok_4, ok_5, ok_6, ok_7, ok_9, ok_20, ok_21, ok_30, ok_50, ok_180, ok_192, ok_200, ui_ap, cc_ne, cc_n0, cc_0n, Nat.reduceEqDiff, reduceIte, if_true, if_false, k_37 hS, l_37 hS, z_37]
    exact ⟨hi, ih hi.2 _ R u (by clear hP ih hZ hT z j2; grind) z⟩
theorem ck_find (hZ : cZ C c n0 K0 L0 I0 R0 n t K L I R) (hP : ∀ v J R, cZ C c n0 K0 L0 I0 R0 n t K L J R → J (C + 35) 7 = v → (v = 0 ∨ (2 ≤ v ∧ v ≤ 5)) → rnP C R v → frP C J R v → P (some (.int v)) (n, t, K, L, J, R)) : a_does (d + 41) 150 [a_rf (C + 35)] (n, t, K, L, I, R) P := by
  have hS := hZ.2.1.1.s
  have hl := fun u => lk_find_2 (d := d) hP 0 (by decide) I R u (by decide) hZ
  rw [a_enter1 (M := a_m150) rfl (a_cat_rf a_cat_nil) (show 1 ≤ 3 by decide)]
  show a_at _ (a_xm a_m150) 0 [some (a_rf (C + 35)), none, none] [] _ _
  simp only [q150_0, q150_1, as_nil, as_i, as_r, Nat.reduceAdd, Nat.reduceLeDiff, z_eq0, z_eq1, z_or, z_em, Classical.not_not, not_false_eq_true, not_true_eq_false, true_and, and_true, false_and, and_false, and_self, true_implies, false_implies, implies_true, Option.toList_some, Option.toList_none, List.cons_append, List.nil_append, Nat.add_eq_zero_iff, a_nl_i, a_nl_r, a_nl_n, true_or, or_true, eq_self, a_isRA_22, a_isRA_24, a_isRA_32, a_isA_20, ok_4, ok_5, ok_6, ok_7, ok_9, ok_20, ok_21, ok_30, ok_50, ok_180, ok_192, ok_200, ui_ap, cc_ne, cc_n0, cc_0n, Nat.reduceEqDiff, reduceIte, if_true, if_false]
  exact hl _
theorem lk_turn_35 {m : Int32} {u0 : Option Value} (h1m : 1 ≤ m) (hm : m ≤ 5) (hN : rnP C R m) (hF : ∀ k : Int32, 0 ≤ k → k < m → fitP (I (C + 40) (nxt m k).toNatClampNeg) (I (R (C + 38) (k).toNatClampNeg) 2)) (hP : ∀ v J, cZ C c n0 K0 L0 I0 R0 (n + 1) t K L J R → P (some (.int v)) (n + 1, t, K, L, J, R)) : ∀ i : Int32, i ≤ 5 → ∀ J w, 0 ≤ i → cZ C c n0 K0 L0 I0 R0 (n + 1) t K L J R → J (C + 35) 7 = m → (∀ k, J (C + 40) k = I (C + 40) k) → (∀ b, K b = 1 → J b 2 = I b 2) → a_at (d + 7) (a_xm a_m159) 35 [some (a_rf (C + 35)), some (.int i), w] [] (n + 1, t, K, L, J, R) P := by
  refine up_ind 5 (fun i hk ih => ?_)
  intro J w q0 hZ es e40 e2
  have hT := hZ.2.1.1
  have hS := hT.s
  have hm0 : ¬ m = 0 := by clear hP ih hN hF hZ hT e40 e2; grind
  rw [q159_35]
  simp only [q159_36, q159_37, q159_40, q159_43, q159_44, q159_45, q159_46, q159_47, q159_50, q159_51, q159_52, q159_53, q159_56, q159_57, q159_60, q159_61, q159_62, q159_63, q159_66, q159_67, q159_68, q159_69, q159_72, q159_73, q159_74, k_35 hS, z_35, r_35_0 hS, k_14 hS, z_14, r_35_3 hS, k_38 hS, l_38 hS, z_38, r_35_4 hS, k_39 hS, l_39 hS, z_39, r_35_5 hS, k_40 hS, l_40 hS, z_40, as_nil, as_i, as_r, Nat.reduceAdd, Nat.reduceLeDiff, z_eq0, z_eq1, z_or, z_em, Classical.not_not, not_false_eq_true, not_true_eq_false, true_and, and_true, false_and, and_false, and_self, true_implies, false_implies, implies_true, Option.toList_some, Option.toList_none, List.cons_append, List.nil_append, Nat.add_eq_zero_iff, a_nl_i, a_nl_r, a_nl_n, true_or, or_true, eq_self, a_isRA_22, a_isRA_24, a_isRA_32, a_isA_20, ok_4, ok_5, ok_6, ok_7, ok_9, ok_20, ok_21, ok_30, ok_50, ok_180, ok_192, ok_200, es, hm0]
  refine ⟨fun h1 => ?_, fun h1 => ?_⟩
  · simp only [q159_98, q159_99, q159_102, k_35 hS, z_35, as_nil, as_i, as_r, Nat.reduceAdd, Nat.reduceLeDiff, z_eq0, z_eq1, z_or, z_em, Classical.not_not, not_false_eq_true, not_true_eq_false, true_and, and_true, false_and, and_false, and_self, true_implies, false_implies, implies_true, Option.toList_some, Option.toList_none, List.cons_append, List.nil_append, Nat.add_eq_zero_iff, a_nl_i, a_nl_r, a_nl_n, true_or, or_true, eq_self, a_isRA_22, a_isRA_24, a_isRA_32, a_isA_20, ok_4, ok_5, ok_6, ok_7, ok_9, ok_20, ok_21, ok_30, ok_50, ok_180, ok_192, ok_200]
    exact hP _ J hZ
  · have h1 := Int32.not_le.mp h1
    have hi : 0 ≤ i ∧ i < 5 := by clear hP ih hN hF hZ hT e40 e2; grind
    have hx := nxt_lt hm q0 h1
    have hx5 : 0 ≤ nxt m i ∧ nxt m i < 5 := ⟨hx.1, by clear hP ih hN hF hZ hT e40 e2; grind⟩
    have ha := rn_ask hT hN q0 h1
    have hn := hN i q0 h1
    have hf : fitP (J (C + 40) (nxt m i).toNatClampNeg) (J (R (C + 38) (i).toNatClampNeg) 2) := by rw [e40, e2 _ ha]; exact hF i q0 h1
    have ga := hT.g_ask _ ha
    show (0 ≤ i ∧ i < 5) ∧ (0 ≤ nxt m i ∧ nxt m i < 5) ∧ (0 ≤ nxt m i ∧ nxt m i < 5) ∧ _
    refine ⟨hi, hx5, hx5, ?_⟩
    refine ck_place ha hT hf (fun J2 j2 => ?_)
    have z2 := cZ_G (cZ_L hZ j2) (dG_36 (k := (J2 (R (C + 38) (i).toNatClampNeg) 4).toNatClampNeg) (v := 0) (dG_refl j2.1))
    have g4 := (j2.1.g_ask _ ha).2.2.1
    have g30 : 0 ≤ J2 (R (C + 38) (i).toNatClampNeg) 4 ∧ J2 (R (C + 38) (i).toNatClampNeg) 4 < 30 := ⟨g4.1, by clear hP ih hN hF hZ hT e40 e2 z2 j2 ga; grind⟩
    have hfin := fun w => ih hi.2 _ w (by clear hP ih hN hF hZ hT e40 e2 z2 j2 ga; grind) z2 (by rw [ui_ap, if_neg (by omega), j2.2 _ _ (by omega) (by omega) (by omega)]; exact es) (fun k => by rw [ui_ap, if_neg (by omega), dL_40 j2]; exact e40 k) (fun b hb => by
      have gb := (hT.g_ask b hb).1
      rw [ui_ap, if_neg (by omega), dL_at j2 hT hb 2 (by decide) (by decide)]
      exact e2 b hb)
    simp only [q159_77, q159_78, q159_81, q159_82, q159_85, q159_86, q159_87, q159_90, q159_91, q159_92, q159_95, k_35 hS, z_35, r_35_1 hS, k_36 hS, l_36 hS, z_36, r_35_3 hS, k_38 hS, l_38 hS, z_38, as_nil, as_i, as_r, Nat.reduceAdd, Nat.reduceLeDiff, z_eq0, z_eq1, z_or, z_em, Classical.not_not, not_false_eq_true, not_true_eq_false, true_and, and_true, false_and, and_false, and_self, true_implies, false_implies, implies_true, Option.toList_some, Option.toList_none, List.cons_append, List.nil_append, Nat.add_eq_zero_iff, a_nl_i, a_nl_r, a_nl_n, true_or, or_true, eq_self, a_isRA_22, a_isRA_24, a_isRA_32, a_isA_20, ok_4, ok_5, ok_6, ok_7, ok_9, ok_20, ok_21, ok_30, ok_50, ok_180, ok_192, ok_200, ui_ap, cc_ne, cc_n0, cc_0n, Nat.reduceEqDiff, reduceIte, if_true, if_false, ha, hn]
    exact ⟨hi, g30, hfin _⟩
theorem lk_turn_6 {m : Int32} (h1m : 1 ≤ m) (hm : m ≤ 5) (hN : rnP C R m) (hF : ∀ k : Int32, 0 ≤ k → k < m → fitP (I (C + 40) (nxt m k).toNatClampNeg) (I (R (C + 38) (k).toNatClampNeg) 2)) (C96 : C + 96 < n'' + 1) (hn0 : ∀ x, n'' + 1 ≤ x → K x = 0) (hT0 : cT C K L I R) (hP : ∀ v n t K L J R, cZ C c n0 K0 L0 I0 R0 (n + 1) t K L J R → P (some (.int v)) (n + 1, t, K, L, J, R)) : ∀ i : Int32, i ≤ 5 → ∀ n t K' L' J R' w, 0 ≤ i → cZ C c n0 K0 L0 I0 R0 (n + 1) t K' L' J R' → dQ C (n'' + 1) K L I R (n + 1) K' L' J R' → J (C + 35) 7 = m → a_at (d + 7) (a_xm a_m159) 6 [some (a_rf (C + 35)), some (.int i), w] [] (n + 1, t, K', L', J, R') P := by
  refine up_ind 5 (fun i hk ih => ?_)
  intro n t K' L' J R' w q0 hZ hQ es
  have hT := hZ.2.1.1
  have hS := hT.s
  have askl : ∀ k : Int32, 0 ≤ k → k < m → (R (C + 38) (k).toNatClampNeg) < n'' + 1 := fun k k0 kk => kn_lt hn0 (rn_ask hT0 hN k0 kk) (by decide)
  have eR : ∀ k, R' (C + 38) k = R (C + 38) k := fun k => hQ.2.2.2.1 _ _ (by omega) (by rw [k_38 hT0.s]; decide)
  have hN' : rnP C R' m := fun k k0 kk => by rw [eR]; exact hN k k0 kk
  have e40 : ∀ k, J (C + 40) k = I (C + 40) k := fun k => hQ.2.2.2.2 _ _ (by omega) (by omega) (by omega) (by omega)
  have e2 : ∀ k : Int32, 0 ≤ k → k < m → J (R (C + 38) (k).toNatClampNeg) 2 = I (R (C + 38) (k).toNatClampNeg) 2 := fun k k0 kk => by
    have ha := rn_ask hT0 hN k0 kk
    have ga := (hT0.g_ask _ ha).1
    refine hQ.2.2.2.2 _ _ (askl k k0 kk) (by omega) (by omega) ?_
    intro q
    rw [ha] at q
    omega
  rw [q159_6]
  simp only [q159_7, q159_8, q159_11, q159_14, q159_15, q159_18, q159_19, q159_22, q159_23, q159_24, k_35 hS, z_35, r_35_0 hS, k_14 hS, z_14, r_35_3 hS, k_38 hS, l_38 hS, z_38, as_nil, as_i, as_r, Nat.reduceAdd, Nat.reduceLeDiff, z_eq0, z_eq1, z_or, z_em, Classical.not_not, not_false_eq_true, not_true_eq_false, true_and, and_true, false_and, and_false, and_self, true_implies, false_implies, implies_true, Option.toList_some, Option.toList_none, List.cons_append, List.nil_append, Nat.add_eq_zero_iff, a_nl_i, a_nl_r, a_nl_n, true_or, or_true, eq_self, a_isRA_22, a_isRA_24, a_isRA_32, a_isA_20, ok_4, ok_5, ok_6, ok_7, ok_9, ok_20, ok_21, ok_30, ok_50, ok_180, ok_192, ok_200, es]
  refine ⟨fun h1 => ?_, fun h1 => ?_⟩
  · simp only [q159_33, q159_34, as_nil, as_i, as_r, Nat.reduceAdd, Nat.reduceLeDiff, z_eq0, z_eq1, z_or, z_em, Classical.not_not, not_false_eq_true, not_true_eq_false, true_and, and_true, false_and, and_false, and_self, true_implies, false_implies, implies_true, Option.toList_some, Option.toList_none, List.cons_append, List.nil_append, Nat.add_eq_zero_iff, a_nl_i, a_nl_r, a_nl_n, true_or, or_true, eq_self, a_isRA_22, a_isRA_24, a_isRA_32, a_isA_20, ok_4, ok_5, ok_6, ok_7, ok_9, ok_20, ok_21, ok_30, ok_50, ok_180, ok_192, ok_200]
    refine lk_turn_35 (d := d) (u0 := none) (I := J) h1m hm hN' (fun k k0 kk => ?_) (fun v J z => hP v n t K' L' J R' z) 0 (by decide) J w (by decide) hZ es (fun _ => rfl) (fun _ _ => rfl)
    rw [e40, eR, e2 k k0 kk]
    exact hF k k0 kk
  · have h1 := Int32.not_le.mp h1
    have hi : 0 ≤ i ∧ i < 5 := by clear hP ih hN hF hZ hT e40 e2 hQ hN' eR hn0 askl hT0; grind
    have ha := rn_ask hT hN' q0 h1
    refine ⟨hi, ?_⟩
    refine ck_clear ha hZ.2.1 (fun n2 t2 K2 L2 J2 R2 h2 q2 => ?_)
    simp only [q159_27, q159_30, as_nil, as_i, as_r, Nat.reduceAdd, Nat.reduceLeDiff, z_eq0, z_eq1, z_or, z_em, Classical.not_not, not_false_eq_true, not_true_eq_false, true_and, and_true, false_and, and_false, and_self, true_implies, false_implies, implies_true, Option.toList_some, Option.toList_none, List.cons_append, List.nil_append, Nat.add_eq_zero_iff, a_nl_i, a_nl_r, a_nl_n, true_or, or_true, eq_self, a_isRA_22, a_isRA_24, a_isRA_32, a_isA_20, ok_4, ok_5, ok_6, ok_7, ok_9, ok_20, ok_21, ok_30, ok_50, ok_180, ok_192, ok_200]
    refine ih hi.2 n2 t2 K2 L2 J2 R2 w (by clear hP ih hN hF hZ hT e40 e2 hQ hN' eR hn0 askl hT0 h2 q2; grind) (cZ_Q hZ q2 h2) (dQ_Q hQ q2) ?_
    rw [q2.2.2.2.2 _ _ (by have := hQ.1; omega) (by omega) (by omega) (by omega)]
    exact es
theorem ck_turn {m : Int32} (h1m : 1 ≤ m) (hm : m ≤ 5) (hN : rnP C R m) (hF : frP C I R m) (es : I (C + 35) 7 = m) (hZ : cZ C c n0 K0 L0 I0 R0 (n + 1) t K L I R) (hP : ∀ v n t K L J R, cZ C c n0 K0 L0 I0 R0 (n + 1) t K L J R → P (some (.int v)) (n + 1, t, K, L, J, R)) : a_does (d + 8) 159 [a_rf (C + 35)] (n + 1, t, K, L, I, R) P := by
  have hT := hZ.2.1.1
  have hS := hT.s
  rw [a_enter1 (M := a_m159) rfl (a_cat_rf a_cat_nil) (show 1 ≤ 3 by decide)]
  show a_at _ (a_xm a_m159) 0 [some (a_rf (C + 35)), none, none] [] _ _
  simp only [q159_0, q159_1, k_35 hS, z_35, as_nil, as_i, as_r, Nat.reduceAdd, Nat.reduceLeDiff, z_eq0, z_eq1, z_or, z_em, Classical.not_not, not_false_eq_true, not_true_eq_false, true_and, and_true, false_and, and_false, and_self, true_implies, false_implies, implies_true, Option.toList_some, Option.toList_none, List.cons_append, List.nil_append, Nat.add_eq_zero_iff, a_nl_i, a_nl_r, a_nl_n, true_or, or_true, eq_self, a_isRA_22, a_isRA_24, a_isRA_32, a_isA_20, ok_4, ok_5, ok_6, ok_7, ok_9, ok_20, ok_21, ok_30, ok_50, ok_180, ok_192, ok_200]
  refine ck_keepPlaces hT (by rw [es]; exact hN) (fun J1 t1 f1 k1 => ?_)
  rw [es] at k1
  simp only [q159_4, q159_5, as_nil, as_i, as_r, Nat.reduceAdd, Nat.reduceLeDiff, z_eq0, z_eq1, z_or, z_em, Classical.not_not, not_false_eq_true, not_true_eq_false, true_and, and_true, false_and, and_false, and_self, true_implies, false_implies, implies_true, Option.toList_some, Option.toList_none, List.cons_append, List.nil_append, Nat.add_eq_zero_iff, a_nl_i, a_nl_r, a_nl_n, true_or, or_true, eq_self, a_isRA_22, a_isRA_24, a_isRA_32, a_isA_20, ok_4, ok_5, ok_6, ok_7, ok_9, ok_20, ok_21, ok_30, ok_50, ok_180, ok_192, ok_200]
  have r1 : dR C K L R I J1 := ⟨t1, fun x j _ _ p q r _ => f1 x j p q r⟩
  have z1 := cZ_G hZ (dR_G r1)
  refine lk_turn_6 (d := d) (n'' := n) (I := J1) h1m hm hN (fun k k0 kk => ?_) hZ.2.1.2.2.1 hZ.2.1.2.1 t1 hP 0 (by decide) n t K L J1 R _ (by decide) z1 dQ_refl (by rw [f1 _ _ (by omega) (by omega) (by omega)]; exact es)
  obtain ⟨x0, x1⟩ := nxt_lt hm k0 kk
  have ha := rn_ask hT hN k0 kk
  have ga := (hT.g_ask _ ha).1
  rw [(k1 _ x0 x1).2, f1 _ 2 (by omega) (by omega) (by omega)]
  exact hF k k0 kk
end KH

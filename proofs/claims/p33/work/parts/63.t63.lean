/-! the reference: ORDER, SHARE, the first place -/
section YD0
variable {d n t M : Nat} {K L : Nat → Nat} {I I0 J J0 J1 J2 : Nat → Nat → Int32} {R : Nat → Nat → Nat} {P : Option Value → AH → Prop} {f : Nat → Int32} {e : Int32}
variable {Y Z : Nat → Nat → Int32}
/-- the reference's heap holds what is kept -/
def gs (M : Nat) (I J : Nat → Nat → Int32) (Y : Nat → Nat → Int32) : Prop := mR M J ∧ (∀ x j, (x < M ∨ M + 52 < x) → J x j = I x j) ∧ psE Y (yv M J)
theorem gs_C (h : gs M I0 I Y) (hC : mC M I J) : gs M I0 J Y := ⟨hC.1, fun x j p => by rw [hC.2 x j (by unfold sC; omega)]; exact h.2.1 x j p, psE_tr h.2.2 (psE_of (fun k j p => hC.2 _ _ (by unfold ps1 at p; unfold sC; omega)))⟩
theorem gs_ui (h : gs M I0 J Y) {k j : Nat} {v : Int32} (hR : mR M (a_ui J (M + k) j v)) (hk : k ≤ 52) (hp : ¬ ps1 k j ∧ ¬ k = 22) : gs M I0 (a_ui J (M + k) j v) Y := ⟨hR, fun x i p => by rw [ui_ap, if_neg (by omega)]; exact h.2.1 x i p, psE_tr h.2.2 (psE_of (fun k2 j2 p => by
  show a_ui J (M + k) j v (M + k2) j2 = J (M + k2) j2
  rw [ui_ap, if_neg (fun e => by
    have e1 : k2 = k := by omega
    rw [e1, e.2] at p
    exact p.elim hp.1 hp.2)]))⟩
theorem gs_u0 (h : gs M I0 J Y) {j : Nat} {v : Int32} (hR : mR M (a_ui J M j v)) (hp : ¬ ps1 0 j) : gs M I0 (a_ui J M j v) Y := gs_ui (k := 0) h hR (by omega) ⟨hp, by omega⟩
theorem xt_goesAhead (hS : m_S M K L R) (hm : moY Y) (hg : gs M I0 I Y) {a b : Int32} (ha : 0 ≤ a ∧ a < 30) (hb : 0 ≤ b ∧ b < 30) (hP : P (some (.int (if ahB Y a b = true then 1 else 0))) (n, t, K, L, I, R)) : a_does (d + 3) 237 [a_rf M, .int a, .int b] (n, t, K, L, I, R) P := by
  rw [← ahB_b (psE_b hg.2.2)] at hP
  have hmk := (moP_of hg.1 hm hg.2.2).2.1
  have ma := fun (Q : Option Value → AH → Prop) (q : Q (some (.int (maY (yv M I) a))) (n, t, K, L, I, R)) => xt_markFor (d := d) hS hg.1 hmk ha q
  have mb := fun (Q : Option Value → AH → Prop) (q : Q (some (.int (maY (yv M I) b))) (n, t, K, L, I, R)) => xt_markFor (d := d) hS hg.1 hmk hb q
  have ra : rkY (yv M I) a = if I (M + 7) a.toNatClampNeg = 5 then 0 else if I (M + 7) a.toNatClampNeg = 3 then 1 else 2 := rfl
  have rb : rkY (yv M I) b = if I (M + 7) b.toNatClampNeg = 5 then 0 else if I (M + 7) b.toNatClampNeg = 3 then 1 else 2 := rfl
  unfold ahB at hP
  generalize maY (yv M I) a = x at hP ma
  generalize maY (yv M I) b = y at hP mb
  generalize rkY (yv M I) a = p at hP ra
  generalize rkY (yv M I) b = q at hP rb
  have hend : ∀ v : Int32, v = (if (if p = q then (if x = y then decide (a < b) else decide (y < x)) else decide (p < q)) = true then 1 else 0) → P (some (.int v)) (n, t, K, L, I, R) := fun v e => by rw [e]; exact hP
  clear hP hg hm hmk
  have h79 : p = q → a_at (d + 2) (a_xm a_m237) 79 [some (a_rf M), some (.int a), some (.int b), some (.int p), some (.int q)] [] (n, t, K, L, I, R) P := fun e => by
    simp only [q237_79, q237_80, q237_81, m_0 hS, m_K hS, as_nil, as_i, as_r, Nat.reduceAdd, Nat.reduceLeDiff, z_eq0, z_eq1, z_or, z_em, Classical.not_not, not_false_eq_true, not_true_eq_false, true_and, and_true, false_and, and_false, and_self, true_implies, false_implies, implies_true, Option.toList_some, Option.toList_none, List.cons_append, List.nil_append, Nat.add_eq_zero_iff, a_nl_i, a_nl_r, a_nl_n, true_or, or_true, eq_self, ok_4, ok_5, ok_6, ok_7, ok_9, ok_10, ok_20, ok_21, ok_24, ok_30, ok_48, ok_50, ok_60, ok_80, ok_120, ok_180, ok_192, ok_200, ok_900, ok_1000, ok_84000]
    refine ma _ ?_
    simp only [q237_84, q237_85, q237_86, m_0 hS, m_K hS, as_nil, as_i, as_r, Nat.reduceAdd, Nat.reduceLeDiff, z_eq0, z_eq1, z_or, z_em, Classical.not_not, not_false_eq_true, not_true_eq_false, true_and, and_true, false_and, and_false, and_self, true_implies, false_implies, implies_true, Option.toList_some, Option.toList_none, List.cons_append, List.nil_append, Nat.add_eq_zero_iff, a_nl_i, a_nl_r, a_nl_n, true_or, or_true, eq_self, ok_4, ok_5, ok_6, ok_7, ok_9, ok_10, ok_20, ok_21, ok_24, ok_30, ok_48, ok_50, ok_60, ok_80, ok_120, ok_180, ok_192, ok_200, ok_900, ok_1000, ok_84000]
    refine mb _ ?_
    simp only [q237_89, q237_92, q237_93, q237_94, m_0 hS, m_K hS, as_nil, as_i, as_r, Nat.reduceAdd, Nat.reduceLeDiff, z_eq0, z_eq1, z_or, z_em, Classical.not_not, not_false_eq_true, not_true_eq_false, true_and, and_true, false_and, and_false, and_self, true_implies, false_implies, implies_true, Option.toList_some, Option.toList_none, List.cons_append, List.nil_append, Nat.add_eq_zero_iff, a_nl_i, a_nl_r, a_nl_n, true_or, or_true, eq_self, ok_4, ok_5, ok_6, ok_7, ok_9, ok_10, ok_20, ok_21, ok_24, ok_30, ok_48, ok_50, ok_60, ok_80, ok_120, ok_180, ok_192, ok_200, ok_900, ok_1000, ok_84000]
    by_cases c : x = y
    · have h1 := hend 1
      have h0 := hend 0
      rw [if_pos e, if_pos c] at h1 h0
      simp only [q237_113, q237_114, q237_115, q237_118, q237_119, q237_122, q237_123, as_nil, as_i, as_r, Nat.reduceAdd, Nat.reduceLeDiff, z_eq0, z_eq1, z_or, z_em, Classical.not_not, not_false_eq_true, not_true_eq_false, true_and, and_true, false_and, and_false, and_self, true_implies, false_implies, implies_true, Option.toList_some, Option.toList_none, List.cons_append, List.nil_append, Nat.add_eq_zero_iff, a_nl_i, a_nl_r, a_nl_n, true_or, or_true, eq_self, ok_4, ok_5, ok_6, ok_7, ok_9, ok_10, ok_20, ok_21, ok_24, ok_30, ok_48, ok_50, ok_60, ok_80, ok_120, ok_180, ok_192, ok_200, ok_900, ok_1000, ok_84000, c]
      clear ma mb hend hS
      grind
    · have h1 := hend 1
      have h0 := hend 0
      rw [if_pos e, if_neg c] at h1 h0
      simp only [c]
      try simp only [true_and, and_true, true_implies, false_implies, implies_true, not_true_eq_false, not_false_eq_true]
      refine ma _ ?_
      simp only [q237_97, q237_98, q237_99, m_0 hS, m_K hS, as_nil, as_i, as_r, Nat.reduceAdd, Nat.reduceLeDiff, z_eq0, z_eq1, z_or, z_em, Classical.not_not, not_false_eq_true, not_true_eq_false, true_and, and_true, false_and, and_false, and_self, true_implies, false_implies, implies_true, Option.toList_some, Option.toList_none, List.cons_append, List.nil_append, Nat.add_eq_zero_iff, a_nl_i, a_nl_r, a_nl_n, true_or, or_true, eq_self, ok_4, ok_5, ok_6, ok_7, ok_9, ok_10, ok_20, ok_21, ok_24, ok_30, ok_48, ok_50, ok_60, ok_80, ok_120, ok_180, ok_192, ok_200, ok_900, ok_1000, ok_84000]
      refine mb _ ?_
      simp only [q237_102, q237_105, q237_106, q237_109, q237_110, q237_123, as_nil, as_i, as_r, Nat.reduceAdd, Nat.reduceLeDiff, z_eq0, z_eq1, z_or, z_em, Classical.not_not, not_false_eq_true, not_true_eq_false, true_and, and_true, false_and, and_false, and_self, true_implies, false_implies, implies_true, Option.toList_some, Option.toList_none, List.cons_append, List.nil_append, Nat.add_eq_zero_iff, a_nl_i, a_nl_r, a_nl_n, true_or, or_true, eq_self, ok_4, ok_5, ok_6, ok_7, ok_9, ok_10, ok_20, ok_21, ok_24, ok_30, ok_48, ok_50, ok_60, ok_80, ok_120, ok_180, ok_192, ok_200, ok_900, ok_1000, ok_84000]
      clear ma mb hend hS
      grind
  have h61 : a_at (d + 2) (a_xm a_m237) 61 [some (a_rf M), some (.int a), some (.int b), some (.int p), some (.int q)] [] (n, t, K, L, I, R) P := by
    have h1 := hend 1
    have h0 := hend 0
    simp only [q237_61, q237_62, q237_64, q237_67, q237_68, q237_70, q237_73, q237_74, q237_77, q237_78, q237_123, as_nil, as_i, as_r, Nat.reduceAdd, Nat.reduceLeDiff, z_eq0, z_eq1, z_or, z_em, Classical.not_not, not_false_eq_true, not_true_eq_false, true_and, and_true, false_and, and_false, and_self, true_implies, false_implies, implies_true, Option.toList_some, Option.toList_none, List.cons_append, List.nil_append, Nat.add_eq_zero_iff, a_nl_i, a_nl_r, a_nl_n, true_or, or_true, eq_self, ok_4, ok_5, ok_6, ok_7, ok_9, ok_10, ok_20, ok_21, ok_24, ok_30, ok_48, ok_50, ok_60, ok_80, ok_120, ok_180, ok_192, ok_200, ok_900, ok_1000, ok_84000]
    clear ma mb hend hS ra rb
    grind
  clear h79 hend ma mb
  rw [a_enter1 (M := a_m237) rfl (a_cat_rf (a_cat_int (a_cat_int a_cat_nil))) (show 3 ≤ 5 by decide)]
  show a_at _ (a_xm a_m237) 0 [some (a_rf M), some (.int a), some (.int b), none, none] [] _ _
  simp only [q237_0, q237_1, q237_4, q237_5, q237_6, q237_7, q237_10, q237_11, q237_14, q237_15, q237_18, q237_19, q237_20, q237_21, q237_24, q237_25, q237_28, q237_29, q237_30, q237_31, q237_34, q237_35, q237_36, q237_37, q237_40, q237_41, q237_44, q237_45, q237_48, q237_49, q237_50, q237_51, q237_54, q237_55, q237_58, q237_59, m_0 hS, m_K hS, mR_kind hS, mK_kind hS, mL_kind hS, as_nil, as_i, as_r, Nat.reduceAdd, Nat.reduceLeDiff, z_eq0, z_eq1, z_or, z_em, Classical.not_not, not_false_eq_true, not_true_eq_false, true_and, and_true, false_and, and_false, and_self, true_implies, false_implies, implies_true, Option.toList_some, Option.toList_none, List.cons_append, List.nil_append, Nat.add_eq_zero_iff, a_nl_i, a_nl_r, a_nl_n, true_or, or_true, eq_self, ok_4, ok_5, ok_6, ok_7, ok_9, ok_10, ok_20, ok_21, ok_24, ok_30, ok_48, ok_50, ok_60, ok_80, ok_120, ok_180, ok_192, ok_200, ok_900, ok_1000, ok_84000]
  subst ra
  subst rb
  clear hS
  grind
theorem on_p {p : Nat} (h : p < 1000) : Int32.ofNat (p + 1) - 1 = Int32.ofNat p ∧ Int32.ofNat (p + 1) + (-1) = Int32.ofNat p ∧ (Int32.ofNat p).toNatClampNeg = p ∧ 0 < Int32.ofNat (p + 1) ∧ Int32.ofNat p + 1 = Int32.ofNat (p + 1) ∧ (Int32.ofNat p).toInt = p := by
  have e : ∀ q : Nat, q < 2000 → (Int32.ofNat q).toInt = q := fun q hq => by
    rw [Int32.toInt_ofNat', show Int32.size = 4294967296 from rfl]
    simp only [Int.bmod_def]
    omega
  have c1 : (1 : Int32).toInt = 1 := rfl
  have c2 : (-1 : Int32).toInt = -1 := rfl
  have c0 : (0 : Int32).toInt = 0 := rfl
  have e1 := e p (by omega)
  have e2 := e (p + 1) (by omega)
  refine ⟨Int32.toInt_inj.mp ?_, Int32.toInt_inj.mp ?_, ?_, ?_, Int32.toInt_inj.mp ?_, e1⟩
  · rw [Int32.toInt_sub, e2, e1, c1, in_bm (by omega) (by omega)]
    omega
  · rw [Int32.toInt_add, e2, e1, c2, in_bm (by omega) (by omega)]
    omega
  · show (Int32.ofNat p).toInt.toNat = p
    rw [e1]
    rfl
  · rw [Int32.lt_iff_toInt_lt, e2, c0]
    omega
  · rw [Int32.toInt_add, e1, e2, c1, in_bm (by omega) (by omega)]
    omega
theorem on_lt {p q : Nat} (hp : p < 1000) (hq : q < 1000) : (Int32.ofNat p < Int32.ofNat q) = (p < q) := by
  rw [Int32.lt_iff_toInt_lt, (on_p hp).2.2.2.2.2, (on_p hq).2.2.2.2.2]
  exact propext ⟨fun h => by omega, fun h => by omega⟩
theorem xt_findOrder_29 (hS : m_S M K L R) (hm : moY Y) {g a : Int32} {m : Nat} (ha : 0 ≤ a ∧ a < 30) (hm30 : m < 30) {V : Nat → Int32} (hN : ∀ J p, gs M I0 J Y → J M 64 = Int32.ofNat (m + 1) → (∀ j, j ≤ m → J (M + 40) j = V j) → a_at (d + 3) (a_xm a_m236) 7 [some (a_rf M), some (.int g), some (.int (a + 1)), some (.int p)] [] (n, t, K, L, J, R) P) : ∀ (p : Nat) (J : Nat → Nat → Int32) (o : Nat → Int32), p ≤ m → gs M I0 J Y → J M 64 = Int32.ofNat m → (∀ j, j ≤ m → ¬ j = p → J (M + 40) j = o j ∧ 0 ≤ o j ∧ o j < 30) → (∀ j, j ≤ m → inS Y a p o j = V j) → a_at (d + 3) (a_xm a_m236) 29 [some (a_rf M), some (.int g), some (.int a), some (.int (Int32.ofNat p))] [] (n, t, K, L, J, R) P := by
  have put : ∀ (p : Nat) (J : Nat → Nat → Int32), p ≤ m → gs M I0 J Y → J M 64 = Int32.ofNat m → (∀ j, j ≤ m → up1 (J (M + 40)) p a j = V j) → a_at (d + 3) (a_xm a_m236) 69 [some (a_rf M), some (.int g), some (.int a), some (.int (Int32.ofNat p))] [] (n, t, K, L, J, R) P := fun p J hp hg h64 hV => by
    obtain ⟨-, -, ep, -⟩ := on_p (p := p) (by omega)
    obtain ⟨-, -, -, -, em, -⟩ := on_p (p := m) (by omega)
    have hok : 0 ≤ Int32.ofNat p ∧ Int32.ofNat p < 30 := ⟨Int32.not_lt.mp (fun q => by rw [show (0 : Int32) = Int32.ofNat 0 from rfl, on_lt (by omega) (by omega)] at q; omega), by rw [show (30 : Int32) = Int32.ofNat 30 from rfl, on_lt (by omega) (by omega)]; omega⟩
    have hn := hN (a_ui (a_ui J (M + 40) p a) M 64 (Int32.ofNat (m + 1))) (Int32.ofNat p) (gs_u0 (gs_ui hg (sR_order hg.1 ⟨ha.1, by clear hN hV; grind⟩) (by omega) ⟨by unfold ps1; omega, by omega⟩) (sR_orderMany (sR_order hg.1 ⟨ha.1, by clear hN hV; grind⟩)) (by unfold ps1; omega)) (by rw [ui_ap, if_pos ⟨rfl, rfl⟩]) (fun j hj => by
      rw [ui_ap, if_neg (by omega), ui_ap, ← hV j hj]
      unfold up1
      by_cases e : j = p
      · rw [if_pos ⟨rfl, e⟩, if_pos e]
      · rw [if_neg (fun q => e q.2), if_neg e])
    clear hN hV hm hg
    simp only [q236_69, q236_70, q236_73, q236_74, q236_75, q236_76, q236_77, q236_78, q236_81, q236_82, q236_83, q236_86, q236_89, m_0 hS, m_K hS, mR_order hS, mK_order hS, mL_order hS, as_nil, as_i, as_r, Nat.reduceAdd, Nat.reduceLeDiff, z_eq0, z_eq1, z_or, z_em, Classical.not_not, not_false_eq_true, not_true_eq_false, true_and, and_true, false_and, and_false, and_self, true_implies, false_implies, implies_true, Option.toList_some, Option.toList_none, List.cons_append, List.nil_append, Nat.add_eq_zero_iff, a_nl_i, a_nl_r, a_nl_n, true_or, or_true, eq_self, ok_4, ok_5, ok_6, ok_7, ok_9, ok_10, ok_20, ok_21, ok_24, ok_30, ok_48, ok_50, ok_60, ok_80, ok_120, ok_180, ok_192, ok_200, ok_900, ok_1000, ok_84000, ui_ap, ne_MM, ne_M0, ne_0M, Nat.reduceEqDiff, reduceIte, if_true, if_false, h64, ep, em, hok]
    try simp only [true_and, and_true, true_implies, false_implies, implies_true, not_true_eq_false, not_false_eq_true]
    exact hn
  intro p
  induction p with
  | zero =>
    intro J o hp hg h64 ho hV
    have hput := put 0 J hp hg h64 (fun j hj => by
      rw [← hV j hj]
      unfold inS up1
      by_cases e : j = 0
      · rw [if_pos e, if_pos e]
      · rw [if_neg e, if_neg e]
        exact (ho j hj e).1)
    have e0 : Int32.ofNat 0 = 0 := rfl
    rw [e0] at hput ⊢
    clear put hN ho hV hm hg
    rw [q236_29]
    simp only [q236_30, as_nil, as_i, as_r, Nat.reduceAdd, Nat.reduceLeDiff, z_eq0, z_eq1, z_or, z_em, Classical.not_not, not_false_eq_true, not_true_eq_false, true_and, and_true, false_and, and_false, and_self, true_implies, false_implies, implies_true, Option.toList_some, Option.toList_none, List.cons_append, List.nil_append, Nat.add_eq_zero_iff, a_nl_i, a_nl_r, a_nl_n, true_or, or_true, eq_self, ok_4, ok_5, ok_6, ok_7, ok_9, ok_10, ok_20, ok_21, ok_24, ok_30, ok_48, ok_50, ok_60, ok_80, ok_120, ok_180, ok_192, ok_200, ok_900, ok_1000, ok_84000]
    first
      | exact hput
      | grind
  | succ p ih =>
    intro J o hp hg h64 ho hV
    obtain ⟨e1, e2, e3, e4, -, -⟩ := on_p (p := p) (by omega)
    obtain ⟨-, -, e3', -⟩ := on_p (p := p + 1) (by omega)
    obtain ⟨q1, q2⟩ := ho p (by omega) (by omega)
    have hok : 0 ≤ Int32.ofNat p ∧ Int32.ofNat p < 30 := ⟨Int32.not_lt.mp (fun q => by rw [show (0 : Int32) = Int32.ofNat 0 from rfl, on_lt (by omega) (by omega)] at q; omega), by rw [show (30 : Int32) = Int32.ofNat 30 from rfl, on_lt (by omega) (by omega)]; omega⟩
    have hok1 : 0 ≤ Int32.ofNat (p + 1) ∧ Int32.ofNat (p + 1) < 30 := ⟨Int32.le_of_lt e4, by rw [show (30 : Int32) = Int32.ofNat 30 from rfl, on_lt (by omega) (by omega)]; omega⟩
    have n0 : ¬ Int32.ofNat (p + 1) ≤ 0 := Int32.not_le.mpr e4
    have hput := put (p + 1) J hp hg h64
    clear put
    rw [q236_29]
    simp only [q236_30, q236_33, q236_34, q236_35, q236_36, q236_39, q236_40, q236_41, q236_42, q236_43, m_0 hS, m_K hS, mR_order hS, mK_order hS, mL_order hS, as_nil, as_i, as_r, Nat.reduceAdd, Nat.reduceLeDiff, z_eq0, z_eq1, z_or, z_em, Classical.not_not, not_false_eq_true, not_true_eq_false, true_and, and_true, false_and, and_false, and_self, true_implies, false_implies, implies_true, Option.toList_some, Option.toList_none, List.cons_append, List.nil_append, Nat.add_eq_zero_iff, a_nl_i, a_nl_r, a_nl_n, true_or, or_true, eq_self, ok_4, ok_5, ok_6, ok_7, ok_9, ok_10, ok_20, ok_21, ok_24, ok_30, ok_48, ok_50, ok_60, ok_80, ok_120, ok_180, ok_192, ok_200, ok_900, ok_1000, ok_84000, e1, e3, hok, n0, q1]
    try simp only [true_and, and_true, true_implies, false_implies, implies_true, not_true_eq_false, not_false_eq_true]
    refine xt_goesAhead (d := d) hS hm hg ha q2 ?_
    by_cases c : ahB Y a (o p) = true
    · rw [if_pos c]
      have n10 : ¬ (1 : Int32) = 0 := by decide
      have hg2 := ih (a_ui J (M + 40) (p + 1) (o p)) (up1 o (p + 1) (o p)) (by omega) (gs_ui hg (sR_order hg.1 ⟨q2.1, by clear ih hN hV ho hput; grind⟩) (by omega) ⟨by unfold ps1; omega, by omega⟩) (by rw [ui_ap, if_neg (by omega)]; exact h64) (fun j hj hn => by
        rw [ui_ap]
        unfold up1
        by_cases e : j = p + 1
        · rw [if_pos ⟨rfl, e⟩, if_pos e]
          exact ⟨rfl, q2⟩
        · rw [if_neg (fun q => e q.2), if_neg e]
          exact ho j hj e) (fun j hj => by
        rw [← hV j hj]
        conv => rhs; unfold inS
        rw [if_pos c])
      clear ih hN hV ho hm hg hput
      simp only [q236_46, q236_49, q236_50, q236_53, q236_54, q236_55, q236_58, q236_59, q236_60, q236_61, q236_62, q236_63, q236_66, m_0 hS, m_K hS, mR_order hS, mK_order hS, mL_order hS, as_nil, as_i, as_r, Nat.reduceAdd, Nat.reduceLeDiff, z_eq0, z_eq1, z_or, z_em, Classical.not_not, not_false_eq_true, not_true_eq_false, true_and, and_true, false_and, and_false, and_self, true_implies, false_implies, implies_true, Option.toList_some, Option.toList_none, List.cons_append, List.nil_append, Nat.add_eq_zero_iff, a_nl_i, a_nl_r, a_nl_n, true_or, or_true, eq_self, ok_4, ok_5, ok_6, ok_7, ok_9, ok_10, ok_20, ok_21, ok_24, ok_30, ok_48, ok_50, ok_60, ok_80, ok_120, ok_180, ok_192, ok_200, ok_900, ok_1000, ok_84000, e1, e2, e3, e3', hok, hok1, n10, q1]
      try simp only [true_and, and_true, true_implies, false_implies, implies_true, not_true_eq_false, not_false_eq_true]
      exact hg2
    · rw [if_neg c]
      have hput := hput (fun j hj => by
        rw [← hV j hj]
        unfold inS
        rw [if_neg c]
        unfold up1
        by_cases e : j = p + 1
        · rw [if_pos e, if_pos e]
        · rw [if_neg e, if_neg e]
          exact (ho j hj e).1)
      clear ih hN hV ho hm hg
      simp only [q236_46, as_nil, as_i, as_r, Nat.reduceAdd, Nat.reduceLeDiff, z_eq0, z_eq1, z_or, z_em, Classical.not_not, not_false_eq_true, not_true_eq_false, true_and, and_true, false_and, and_false, and_self, true_implies, false_implies, implies_true, Option.toList_some, Option.toList_none, List.cons_append, List.nil_append, Nat.add_eq_zero_iff, a_nl_i, a_nl_r, a_nl_n, true_or, or_true, eq_self, ok_4, ok_5, ok_6, ok_7, ok_9, ok_10, ok_20, ok_21, ok_24, ok_30, ok_48, ok_50, ok_60, ok_80, ok_120, ok_180, ok_192, ok_200, ok_900, ok_1000, ok_84000]
      first
        | exact hput
        | grind
/-- the bit of a set that a shift looks at -/
def btB (g : Int32) (a : Int32) : Bool := decide ((g >>> (a &&& 31)) &&& 1 = 1)
theorem xt_findOrder_7 (hS : m_S M K L R) (hm : moY Y) (h17 : 0 ≤ Y 0 17 ∧ Y 0 17 ≤ 30) {g : Int32} {V : (Nat → Int32) × Nat} (hP : ∀ J, gs M I0 J Y → J M 64 = Int32.ofNat V.2 → V.2 ≤ 30 → (∀ j, j < V.2 → J (M + 40) j = V.1 j ∧ 0 ≤ V.1 j ∧ V.1 j < Y 0 17) → P none (n, t, K, L, J, R)) : ∀ a : Int32, a ≤ 30 → ∀ J p o m, 0 ≤ a → a ≤ Y 0 17 → gs M I0 J Y → J M 64 = Int32.ofNat m → m ≤ a.toNatClampNeg → (∀ j, j < m → J (M + 40) j = o j ∧ 0 ≤ o j ∧ o j < Y 0 17) → orF Y (btB g) ((Y 0 17).toNatClampNeg - a.toNatClampNeg) a (o, m) = V → a_at (d + 3) (a_xm a_m236) 7 [some (a_rf M), some (.int g), some (.int a), p] [] (n, t, K, L, J, R) P := by
  have l30 := cl_le0 h17.1 h17.2
  rw [show (30 : Int32).toNatClampNeg = 30 from rfl] at l30
  refine up_ind 30 (fun a a30 ih => ?_)
  intro J p o m h0 h1 hg h64 hma ho hV
  have e17 : J M 17 = Y 0 17 := hg.2.2.1 0 17 (by unfold ps1; omega)
  generalize ez : Y 0 17 = z at h17 h1 l30 e17 hV ho ih hP
  have hexit : ¬ a < z → P none (n, t, K, L, J, R) := fun w => by
    rw [(lp_end h1 w).1] at hV
    have e : (o, m) = V := hV
    have := cl_le0 h0 h1
    rw [← e] at hP
    exact hP J hg h64 (by show m ≤ 30; omega) ho
  have hV2 : a < z → orF Y (btB g) (z.toNatClampNeg - (a + 1).toNatClampNeg) (a + 1) (if btB g a = true then (inS Y a m o, m + 1) else (o, m)) = V := fun w => by
    rw [(lp_st h0 w).1] at hV
    exact hV
  have hno : a < z → ¬ (g >>> (a &&& 31)) &&& 1 = 1 → ∀ p, a_at (d + 3) (a_xm a_m236) 7 [some (a_rf M), some (.int g), some (.int (a + 1)), p] [] (n, t, K, L, J, R) P := fun w c p => by
    obtain ⟨s1, s2, s3, s4⟩ := lp_st h0 w
    have hV := hV2 w
    rw [if_neg (show ¬ btB g a = true from fun q => c (of_decide_eq_true q))] at hV
    exact ih (Int32.lt_of_lt_of_le w h17.2) J p o m s2 s3 hg h64 (by omega) ho hV
  have hyes : a < z → (g >>> (a &&& 31)) &&& 1 = 1 → a_at (d + 3) (a_xm a_m236) 29 [some (a_rf M), some (.int g), some (.int a), some (.int (J M 64))] [] (n, t, K, L, J, R) P := fun w c => by
    obtain ⟨s1, s2, s3, s4⟩ := lp_st h0 w
    have hV := hV2 w
    rw [if_pos (show btB g a = true from decide_eq_true c)] at hV
    have aT := cl_lt h0 w
    rw [h64]
    refine xt_findOrder_29 (d := d) hS hm (I0 := I0) (m := m) ⟨h0, Int32.lt_of_lt_of_le w h17.2⟩ (by omega) (V := inS Y a m o) (fun J2 p2 g2 h2 ho2 => ?_) m J o (Nat.le_refl _) hg h64 (fun j hj hn => by
      obtain ⟨q1, q2, q3⟩ := ho j (by omega)
      exact ⟨q1, q2, Int32.lt_of_lt_of_le q3 h17.2⟩) (fun j hj => rfl)
    exact ih (Int32.lt_of_lt_of_le w h17.2) J2 (some (.int p2)) (inS Y a m o) (m + 1) s2 s3 g2 h2 (by omega) (fun j hj => ⟨ho2 j (by omega), inS_all (Y := Y) (Q := fun v => 0 ≤ v ∧ v < z) ⟨h0, w⟩ m o (Nat.le_refl _) (fun i hi hn => (ho i (by omega)).2) j (by omega)⟩) hV
  clear ih hP hV hV2 ho
  rw [q236_7]
  repeat' first
    | with_reducible apply And.intro
    | with_reducible assumption
    | with_reducible intro _
    | refine hexit ?_
    | refine hyes ?_ ?_
    | refine hno ?_ ?_ _
    | simp only [q236_8, q236_9, q236_12, q236_15, q236_16, q236_17, q236_18, q236_19, q236_20, q236_21, q236_24, q236_25, q236_28, q236_86, q236_89, q236_92, m_0 hS, m_K hS, as_nil, as_i, as_r, Nat.reduceAdd, Nat.reduceLeDiff, z_eq0, z_eq1, z_or, z_em, Classical.not_not, not_false_eq_true, not_true_eq_false, true_and, and_true, false_and, and_false, and_self, true_implies, false_implies, implies_true, Option.toList_some, Option.toList_none, List.cons_append, List.nil_append, Nat.add_eq_zero_iff, a_nl_i, a_nl_r, a_nl_n, true_or, or_true, eq_self, ok_4, ok_5, ok_6, ok_7, ok_9, ok_10, ok_20, ok_21, ok_24, ok_30, ok_48, ok_50, ok_60, ok_80, ok_120, ok_180, ok_192, ok_200, ok_900, ok_1000, ok_84000, e17]
  all_goals ((try clear hexit); (try clear hyes); (try clear hno); (try clear hS); (try clear h64); grind [ui_ap])
theorem xt_findOrder (hS : m_S M K L R) (hm : moY Y) (h17 : 0 ≤ Y 0 17 ∧ Y 0 17 ≤ 30) (hg : gs M I0 I Y) {g : Int32} (hP : ∀ J, gs M I0 J Y → J M 64 = Int32.ofNat (orF Y (btB g) (Y 0 17).toNatClampNeg 0 (fun _ => 0, 0)).2 → (orF Y (btB g) (Y 0 17).toNatClampNeg 0 (fun _ => 0, 0)).2 ≤ 30 → (∀ j, j < (orF Y (btB g) (Y 0 17).toNatClampNeg 0 (fun _ => 0, 0)).2 → J (M + 40) j = (orF Y (btB g) (Y 0 17).toNatClampNeg 0 (fun _ => 0, 0)).1 j ∧ 0 ≤ (orF Y (btB g) (Y 0 17).toNatClampNeg 0 (fun _ => 0, 0)).1 j ∧ (orF Y (btB g) (Y 0 17).toNatClampNeg 0 (fun _ => 0, 0)).1 j < Y 0 17) → P none (n, t, K, L, J, R)) : a_does (d + 4) 236 [a_rf M, .int g] (n, t, K, L, I, R) P := by
  have hl := xt_findOrder_7 (d := d) hS hm h17 hP 0 (by decide) (a_ui I M 64 0) none (fun _ => 0) 0 (by decide) h17.1 (gs_u0 hg (sR_orderMany hg.1) (by unfold ps1; omega)) (by rw [ui_ap, if_pos ⟨rfl, rfl⟩]; rfl) (Nat.zero_le _) (fun j hj => absurd hj (Nat.not_lt_zero j)) (by rw [lp_0])
  clear hP hm hg
  rw [a_enter1 (M := a_m236) rfl (a_cat_rf (a_cat_int a_cat_nil)) (show 2 ≤ 4 by decide)]
  show a_at _ (a_xm a_m236) 0 [some (a_rf M), some (.int g), none, none] [] _ _
  simp only [q236_0, q236_1, q236_2, q236_5, q236_6, m_0 hS, m_K hS, as_nil, as_i, as_r, Nat.reduceAdd, Nat.reduceLeDiff, z_eq0, z_eq1, z_or, z_em, Classical.not_not, not_false_eq_true, not_true_eq_false, true_and, and_true, false_and, and_false, and_self, true_implies, false_implies, implies_true, Option.toList_some, Option.toList_none, List.cons_append, List.nil_append, Nat.add_eq_zero_iff, a_nl_i, a_nl_r, a_nl_n, true_or, or_true, eq_self, ok_4, ok_5, ok_6, ok_7, ok_9, ok_10, ok_20, ok_21, ok_24, ok_30, ok_48, ok_50, ok_60, ok_80, ok_120, ok_180, ok_192, ok_200, ok_900, ok_1000, ok_84000]
  exact hl
theorem xt_isWithinShare_23 (hS : m_S M K L R) (hg : gs M I0 I Y) (h17 : 0 ≤ Y 0 17 ∧ Y 0 17 ≤ 30) {a f e : Int32} (ha : 0 ≤ a ∧ a < 30) {V : Int32} (hN : ∀ o u, a_at (d + 1) (a_xm a_m239) 141 [some (a_rf M), some (.int a), some (.int f), some (.int e), some (.int V), some (.int o), u] [] (n, t, K, L, I, R) P) : ∀ o : Int32, o ≤ 30 → ∀ q u, 0 ≤ o → o ≤ Y 0 17 → shI Y a f e ((Y 0 17).toNatClampNeg - o.toNatClampNeg) o q = V → a_at (d + 1) (a_xm a_m239) 23 [some (a_rf M), some (.int a), some (.int f), some (.int e), some (.int q), some (.int o), u] [] (n, t, K, L, I, R) P := by
  have e17 : I M 17 = Y 0 17 := hg.2.2.1 0 17 (by unfold ps1; omega)
  have e20 : ∀ j, I (M + 20) j = Y 20 j := fun j => hg.2.2.1 20 j (by unfold ps1; omega)
  have e21 : ∀ j, I (M + 21) j = Y 21 j := fun j => hg.2.2.1 21 j (by unfold ps1; omega)
  have e10 : ∀ j, I (M + 10) j = Y 10 j := fun j => hg.2.2.1 10 j (by unfold ps1; omega)
  have e7 : ∀ j, I (M + 7) j = Y 7 j := fun j => hg.2.2.1 7 j (by unfold ps1; omega)
  have e9 : ∀ j, I (M + 9) j = Y 9 j := fun j => hg.2.2.1 9 j (by unfold ps1; omega)
  clear hg
  generalize ez : Y 0 17 = z at h17 e17
  refine up_ind 30 (fun o o30 ih => ?_)
  intro q u h0 h1 hV
  have hexit : ¬ o < z → a_at (d + 1) (a_xm a_m239) 141 [some (a_rf M), some (.int a), some (.int f), some (.int e), some (.int q), some (.int o), u] [] (n, t, K, L, I, R) P := fun w => by
    rw [(lp_end h1 w).1] at hV
    have hn := hN o u
    rw [← hV] at hn
    exact hn
  have hgo : o < z → ∀ q2 u2, q2 = (if ¬ o = a ∧ 0 ≤ Y 20 o.toNatClampNeg ∧ ¬ Y 7 o.toNatClampNeg = 5 ∧ Y 9 o.toNatClampNeg = Y 9 a.toNatClampNeg ∧ (f ≤ Y 21 o.toNatClampNeg ∧ Y 21 o.toNatClampNeg ≤ e) then q + ((if Y 21 o.toNatClampNeg + Y 10 o.toNatClampNeg - 1 < e then Y 21 o.toNatClampNeg + Y 10 o.toNatClampNeg - 1 else e) - Y 21 o.toNatClampNeg + 1) else q) → a_at (d + 1) (a_xm a_m239) 23 [some (a_rf M), some (.int a), some (.int f), some (.int e), some (.int q2), some (.int (o + 1)), u2] [] (n, t, K, L, I, R) P := fun w q2 u2 eq => by
    obtain ⟨s1, s2, s3, s4⟩ := lp_st h0 w
    rw [s1] at hV
    unfold shI at hV
    rw [← eq] at hV
    exact ih (Int32.lt_of_lt_of_le w h17.2) q2 u2 s2 s3 hV
  have o30' : o < z → 0 ≤ o ∧ o < 30 := fun w => ⟨h0, Int32.lt_of_lt_of_le w h17.2⟩
  clear ih hN hV
  rw [q239_23]
  repeat' first
    | with_reducible apply And.intro
    | with_reducible assumption
    | with_reducible intro _
    | refine hexit ?_
    | refine hgo ?_ _ _ ?_
    | simp only [q239_25, q239_26, q239_29, q239_32, q239_34, q239_35, q239_38, q239_39, q239_41, q239_44, q239_47, q239_48, q239_51, q239_53, q239_54, q239_55, q239_58, q239_59, q239_62, q239_64, q239_65, q239_66, q239_69, q239_70, q239_71, q239_74, q239_75, q239_78, q239_80, q239_81, q239_82, q239_83, q239_86, q239_89, q239_90, q239_93, q239_95, q239_96, q239_97, q239_100, q239_102, q239_103, q239_104, q239_105, q239_106, q239_108, q239_110, q239_112, q239_113, q239_116, q239_118, q239_121, q239_122, q239_123, q239_126, q239_128, q239_129, q239_130, q239_131, q239_132, q239_133, q239_135, q239_138, m_0 hS, m_K hS, mR_kind hS, mK_kind hS, mL_kind hS, mR_land hS, mK_land hS, mL_land hS, mR_atShift hS, mK_atShift hS, mL_atShift hS, mR_length hS, mK_length hS, mL_length hS, sp_hasPlace hS, sp_in, as_nil, as_i, as_r, Nat.reduceAdd, Nat.reduceLeDiff, z_eq0, z_eq1, z_or, z_em, Classical.not_not, not_false_eq_true, not_true_eq_false, true_and, and_true, false_and, and_false, and_self, true_implies, false_implies, implies_true, Option.toList_some, Option.toList_none, List.cons_append, List.nil_append, Nat.add_eq_zero_iff, a_nl_i, a_nl_r, a_nl_n, true_or, or_true, eq_self, ok_4, ok_5, ok_6, ok_7, ok_9, ok_10, ok_20, ok_21, ok_24, ok_30, ok_48, ok_50, ok_60, ok_80, ok_120, ok_180, ok_192, ok_200, ok_900, ok_1000, ok_84000, e17, e20, e21, e10, e7, e9, ha]
  all_goals ((try clear hexit); (try clear hgo); (try clear e20); (try clear e21); (try clear e10); (try clear e7); (try clear e9); (try clear hS); grind [ui_ap])
theorem xt_isWithinShare (hS : m_S M K L R) (hg : gs M I0 I Y) (h17 : 0 ≤ Y 0 17 ∧ Y 0 17 ≤ 30) {a f e : Int32} (ha : 0 ≤ a ∧ a < 30) (hP : P (some (.int (if shB Y a f e = true then 1 else 0))) (n, t, K, L, I, R)) : a_does (d + 2) 239 [a_rf M, .int a, .int f, .int e] (n, t, K, L, I, R) P := by
  have e7 : I (M + 7) a.toNatClampNeg = Y 7 a.toNatClampNeg := hg.2.2.1 7 _ (by unfold ps1; omega)
  have e10 : I (M + 10) a.toNatClampNeg = Y 10 a.toNatClampNeg := hg.2.2.1 10 _ (by unfold ps1; omega)
  have es : I M 10 = Y 0 10 := hg.2.2.1 0 10 (by unfold ps1; omega)
  have eb : I M 6 = Y 0 6 := hg.2.2.1 0 6 (by unfold ps1; omega)
  unfold shB at hP
  by_cases c : Y 7 a.toNatClampNeg = 5
  · rw [if_pos c, if_pos rfl] at hP
    clear hg
    rw [a_enter1 (M := a_m239) rfl (a_cat_rf (a_cat_int (a_cat_int (a_cat_int a_cat_nil)))) (show 4 ≤ 7 by decide)]
    show a_at _ (a_xm a_m239) 0 [some (a_rf M), some (.int a), some (.int f), some (.int e), none, none, none] [] _ _
    simp only [q239_0, q239_1, q239_4, q239_5, q239_6, q239_7, q239_10, q239_11, m_0 hS, m_K hS, mR_kind hS, mK_kind hS, mL_kind hS, as_nil, as_i, as_r, Nat.reduceAdd, Nat.reduceLeDiff, z_eq0, z_eq1, z_or, z_em, Classical.not_not, not_false_eq_true, not_true_eq_false, true_and, and_true, false_and, and_false, and_self, true_implies, false_implies, implies_true, Option.toList_some, Option.toList_none, List.cons_append, List.nil_append, Nat.add_eq_zero_iff, a_nl_i, a_nl_r, a_nl_n, true_or, or_true, eq_self, ok_4, ok_5, ok_6, ok_7, ok_9, ok_10, ok_20, ok_21, ok_24, ok_30, ok_48, ok_50, ok_60, ok_80, ok_120, ok_180, ok_192, ok_200, ok_900, ok_1000, ok_84000, e7, c, ha]
    try simp only [true_and, and_true, true_implies, false_implies, implies_true, not_true_eq_false, not_false_eq_true]
    exact hP
  · rw [if_neg c] at hP
    have hl := xt_isWithinShare_23 (d := d) (n := n) (t := t) (P := P) (a := a) (f := f) (e := e) hS hg h17 ha (V := shI Y a f e (Y 0 17).toNatClampNeg 0 (Y 10 a.toNatClampNeg)) (fun o u => by
      generalize shI Y a f e (Y 0 17).toNatClampNeg 0 (Y 10 a.toNatClampNeg) = V at hP ⊢
      clear hg
      simp only [q239_141, q239_143, q239_144, q239_147, q239_148, q239_151, q239_152, q239_153, q239_154, q239_155, q239_156, q239_157, q239_158, q239_160, q239_161, q239_164, q239_165, q239_168, q239_169, m_0 hS, m_K hS, as_nil, as_i, as_r, Nat.reduceAdd, Nat.reduceLeDiff, z_eq0, z_eq1, z_or, z_em, Classical.not_not, not_false_eq_true, not_true_eq_false, true_and, and_true, false_and, and_false, and_self, true_implies, false_implies, implies_true, Option.toList_some, Option.toList_none, List.cons_append, List.nil_append, Nat.add_eq_zero_iff, a_nl_i, a_nl_r, a_nl_n, true_or, or_true, eq_self, ok_4, ok_5, ok_6, ok_7, ok_9, ok_10, ok_20, ok_21, ok_24, ok_30, ok_48, ok_50, ok_60, ok_80, ok_120, ok_180, ok_192, ok_200, ok_900, ok_1000, ok_84000, es, eb]
      generalize Y 0 10 * Y 0 6 * (e - f + 1) / 100 = W at hP ⊢
      clear es eb e7 e10 hS
      grind) 0 (by decide) (Y 10 a.toNatClampNeg) none (by decide) h17.1 (by rw [lp_0])
    clear hg hP
    rw [a_enter1 (M := a_m239) rfl (a_cat_rf (a_cat_int (a_cat_int (a_cat_int a_cat_nil)))) (show 4 ≤ 7 by decide)]
    show a_at _ (a_xm a_m239) 0 [some (a_rf M), some (.int a), some (.int f), some (.int e), none, none, none] [] _ _
    simp only [q239_0, q239_1, q239_4, q239_5, q239_6, q239_7, q239_10, q239_11, q239_12, q239_13, q239_16, q239_17, q239_18, q239_20, q239_21, m_0 hS, m_K hS, mR_kind hS, mK_kind hS, mL_kind hS, mR_length hS, mK_length hS, mL_length hS, as_nil, as_i, as_r, Nat.reduceAdd, Nat.reduceLeDiff, z_eq0, z_eq1, z_or, z_em, Classical.not_not, not_false_eq_true, not_true_eq_false, true_and, and_true, false_and, and_false, and_self, true_implies, false_implies, implies_true, Option.toList_some, Option.toList_none, List.cons_append, List.nil_append, Nat.add_eq_zero_iff, a_nl_i, a_nl_r, a_nl_n, true_or, or_true, eq_self, ok_4, ok_5, ok_6, ok_7, ok_9, ok_10, ok_20, ok_21, ok_24, ok_30, ok_48, ok_50, ok_60, ok_80, ok_120, ok_180, ok_192, ok_200, ok_900, ok_1000, ok_84000, e7, e10, c, ha]
    try simp only [true_and, and_true, true_implies, false_implies, implies_true, not_true_eq_false, not_false_eq_true]
    exact hl
end YD0
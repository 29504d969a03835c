/-! the class: what changes nothing -/
section K5
variable {d n t C : Nat} {K L : Nat → Nat} {I I0 J J0 J1 J2 : Nat → Nat → Int32} {R : Nat → Nat → Nat} {P : Option Value → AH → Prop}
theorem ck_isOthers {b : Nat} (hb : K b = 3) (hT : cT C K L I R) {s k : Int32} (hs : 0 ≤ s ∧ s < 200) (hP : ∀ v, P (some (.int v)) (n, t, K, L, I, R)) : a_does (d + 1) 105 [a_rf b, .int s, .int k] (n, t, K, L, I, R) P := by
  have hS := hT.s
  obtain ⟨b1, ⟨w1, w2, w3⟩, ⟨s1, s2, s3⟩, ⟨h1, h2, h3⟩, ⟨p1, p2, p3⟩, q1⟩ := hT.g_bnc b hb
  have b0 : (b = 0) = False := eq_false (by omega)
  have w0 : (R b 2 = 0) = False := eq_false (by omega)
  have s0 : (R b 3 = 0) = False := eq_false (by omega)
  have h0 : (R b 4 = 0) = False := eq_false (by omega)
  have p0 : (R b 5 = 0) = False := eq_false (by omega)
  rw [a_enter1 (M := a_m105) rfl (a_cat_rf (a_cat_int (a_cat_int a_cat_nil))) (show 3 ≤ 3 by decide)]
  show a_at _ (a_xm a_m105) 0 [some (a_rf b), some (.int s), some (.int k)] [] _ _
  repeat' first
    | with_reducible apply And.intro
    | with_reducible assumption
    | with_reducible intro _
    | with_reducible apply hP
    | simp only [q105_0, q105_1, q105_4, q105_5, q105_6, q105_8, q105_11, q105_12, q105_15, q105_16, q105_17, q105_18, q105_21, q105_22, q105_25, q105_26, as_nil, as_i, as_r, Nat.reduceAdd, Nat.reduceLeDiff, z_eq0, z_eq1, z_or, z_em, Classical.not_not, not_false_eq_true, not_true_eq_false, true_and, and_true, false_and, and_false, and_self, true_implies, false_implies, implies_true, Option.toList_some, Option.toList_none, List.cons_append, List.nil_append, Nat.add_eq_zero_iff, a_nl_i, a_nl_r, a_nl_n, true_or, or_true, eq_self, a_isRA_22, a_isRA_24, a_isRA_32, a_isA_20, ok_4, ok_5, ok_6, ok_7, ok_9, ok_20, ok_21, ok_30, ok_50, ok_180, ok_192, ok_200, hb, b0, w0, w2, w3, s0, s2, s3, h0, h2, h3, p0, p2]
  all_goals grind [ui_ap]
theorem lk_standing_6 {b : Nat} (hb : K b = 3) (hT : cT C K L I R) {f e k : Int32} (he : e ≤ 199) (hP : ∀ v, P (some (.int v)) (n, t, K, L, I, R)) : ∀ s : Int32, s ≤ 200 → ∀ o, 0 ≤ s → a_at d (a_xm a_m109) 6 [some (a_rf b), some (.int f), some (.int e), some (.int k), some (.int o), some (.int s)] [] (n, t, K, L, I, R) P := by
  have hS := hT.s
  obtain ⟨b1, ⟨w1, w2, w3⟩, ⟨s1, s2, s3⟩, ⟨h1, h2, h3⟩, ⟨p1, p2, p3⟩, q1⟩ := hT.g_bnc b hb
  have b0 : (b = 0) = False := eq_false (by omega)
  have w0 : (R b 2 = 0) = False := eq_false (by omega)
  have s0 : (R b 3 = 0) = False := eq_false (by omega)
  have h0 : (R b 4 = 0) = False := eq_false (by omega)
  have p0 : (R b 5 = 0) = False := eq_false (by omega)
  refine up_ind 200 (fun s hk ih => ?_)
  intro o q0
  rw [q109_6]
  repeat' first
    | with_reducible apply And.intro
    | with_reducible assumption
    | with_reducible intro _
    | with_reducible apply hP
    | with_reducible apply ih
    | simp only [q109_8, q109_9, q109_12, q109_13, q109_16, q109_18, q109_19, q109_20, q109_23, q109_25, q109_26, q109_29, q109_31, q109_32, q109_33, q109_35, q109_38, q109_41, q109_43, as_nil, as_i, as_r, Nat.reduceAdd, Nat.reduceLeDiff, z_eq0, z_eq1, z_or, z_em, Classical.not_not, not_false_eq_true, not_true_eq_false, true_and, and_true, false_and, and_false, and_self, true_implies, false_implies, implies_true, Option.toList_some, Option.toList_none, List.cons_append, List.nil_append, Nat.add_eq_zero_iff, a_nl_i, a_nl_r, a_nl_n, true_or, or_true, eq_self, a_isRA_22, a_isRA_24, a_isRA_32, a_isA_20, ok_4, ok_5, ok_6, ok_7, ok_9, ok_20, ok_21, ok_30, ok_50, ok_180, ok_192, ok_200, hb, b0, w0, w2, w3, s0, s2, s3, h0, h2, h3, p0, p2]
  all_goals grind [ui_ap]
theorem ck_standing {b : Nat} (hb : K b = 3) (hT : cT C K L I R) {f e k : Int32} (hf : 0 ≤ f ∧ f ≤ 200) (he : e ≤ 199) (hP : ∀ v, P (some (.int v)) (n, t, K, L, I, R)) : a_does (d + 1) 109 [a_rf b, .int f, .int e, .int k] (n, t, K, L, I, R) P := by
  rw [a_enter1 (M := a_m109) rfl (a_cat_rf (a_cat_int (a_cat_int (a_cat_int a_cat_nil)))) (show 4 ≤ 6 by decide)]
  show a_at _ (a_xm a_m109) 0 [some (a_rf b), some (.int f), some (.int e), some (.int k), none, none] [] _ _
  simp only [q109_0, q109_1, q109_3, q109_4, as_nil, as_i, as_r, Nat.reduceAdd, Nat.reduceLeDiff, z_eq0, z_eq1, z_or, z_em, Classical.not_not, not_false_eq_true, not_true_eq_false, true_and, and_true, false_and, and_false, and_self, true_implies, false_implies, implies_true, Option.toList_some, Option.toList_none, List.cons_append, List.nil_append, Nat.add_eq_zero_iff, a_nl_i, a_nl_r, a_nl_n, true_or, or_true, eq_self, a_isRA_22, a_isRA_24, a_isRA_32, a_isA_20, ok_4, ok_5, ok_6, ok_7, ok_9, ok_20, ok_21, ok_30, ok_50, ok_180, ok_192, ok_200]
  exact lk_standing_6 hb hT he hP f hf.2 0 hf.1
theorem cp_settle {b : Nat} (hb : K b = 3) (hT : cT C K L I R) {s k g : Int32} (hs : 0 ≤ s ∧ s < 200) (hP : P none (n, t, K, L, (a_ui (a_ui I (R b 2) s.toNatClampNeg k) (R b 3) s.toNatClampNeg g), R)) : a_does (d + 1) 52 [a_rf b, .int s, .int k, .int g] (n, t, K, L, I, R) P := by
  have hS := hT.s
  obtain ⟨b1, ⟨w1, w2, w3⟩, ⟨s1, s2, s3⟩, ⟨h1, h2, h3⟩, ⟨p1, p2, p3⟩, q1⟩ := hT.g_bnc b hb
  have b0 : (b = 0) = False := eq_false (by omega)
  have w0 : (R b 2 = 0) = False := eq_false (by omega)
  have s0 : (R b 3 = 0) = False := eq_false (by omega)
  have h0 : (R b 4 = 0) = False := eq_false (by omega)
  have p0 : (R b 5 = 0) = False := eq_false (by omega)
  rw [a_enter1 (M := a_m52) rfl (a_cat_rf (a_cat_int (a_cat_int (a_cat_int a_cat_nil)))) (show 4 ≤ 4 by decide)]
  show a_at _ (a_xm a_m52) 0 [some (a_rf b), some (.int s), some (.int k), some (.int g)] [] _ _
  repeat' first
    | with_reducible apply And.intro
    | with_reducible assumption
    | with_reducible intro _
    | with_reducible apply hP
    | simp only [q52_0, q52_1, q52_4, q52_5, q52_6, q52_7, q52_8, q52_11, q52_12, q52_13, q52_14, as_nil, as_i, as_r, Nat.reduceAdd, Nat.reduceLeDiff, z_eq0, z_eq1, z_or, z_em, Classical.not_not, not_false_eq_true, not_true_eq_false, true_and, and_true, false_and, and_false, and_self, true_implies, false_implies, implies_true, Option.toList_some, Option.toList_none, List.cons_append, List.nil_append, Nat.add_eq_zero_iff, a_nl_i, a_nl_r, a_nl_n, true_or, or_true, eq_self, a_isRA_22, a_isRA_24, a_isRA_32, a_isA_20, ok_4, ok_5, ok_6, ok_7, ok_9, ok_20, ok_21, ok_30, ok_50, ok_180, ok_192, ok_200, hb, b0, w0, w2, w3, s0, s2, s3, h0, h2, h3, p0, p2]
  all_goals grind [ui_ap]
theorem ck_settle {b : Nat} (hb : K b = 3) {I0 : Nat → Nat → Int32} (hL : dL C K L R I0 I) {s k g : Int32} (hs : 0 ≤ s ∧ s < 200) (hP : ∀ J, dL C K L R I0 J → P none (n, t, K, L, J, R)) : a_does (d + 1) 52 [a_rf b, .int s, .int k, .int g] (n, t, K, L, I, R) P := by
  have hT := hL.1
  obtain ⟨b1, ⟨w1, w2, w3⟩, ⟨s1, s2, s3⟩, -⟩ := hT.g_bnc b hb
  exact cp_settle hb hT hs (hP _ (dL_arr (dL_arr hL w1 w2) s1 s2))
theorem lk_date_3 {b : Nat} (hb : K b = 3) {f e k : Int32} (hP : ∀ J, dL C K L R I J → P none (n, t, K, L, J, R)) : ∀ s : Int32, s ≤ 200 → ∀ J, 0 ≤ s → dL C K L R I J → a_at d (a_xm a_m50) 3 [some (a_rf b), some (.int f), some (.int e), some (.int k), some (.int s)] [] (n, t, K, L, J, R) P := by
  refine up_ind 200 (fun s hk ih => ?_)
  intro J q0 hL
  have hT := hL.1
  have hS := hT.s
  obtain ⟨b1, ⟨w1, w2, w3⟩, ⟨s1, s2, s3⟩, ⟨h1, h2, h3⟩, ⟨p1, p2, p3⟩, q1⟩ := hT.g_bnc b hb
  have b0 : (b = 0) = False := eq_false (by omega)
  have w0 : (R b 2 = 0) = False := eq_false (by omega)
  have s0 : (R b 3 = 0) = False := eq_false (by omega)
  have h0 : (R b 4 = 0) = False := eq_false (by omega)
  have p0 : (R b 5 = 0) = False := eq_false (by omega)
  have hw : ∀ k v, dL C K L R I (a_ui J (R b 4) k v) := fun k v => dL_arr hL h1 h2
  rw [q50_3]
  repeat' first
    | with_reducible apply And.intro
    | with_reducible assumption
    | with_reducible intro _
    | with_reducible apply hP
    | with_reducible apply ih
    | with_reducible apply hw
    | simp only [q50_5, q50_6, q50_9, q50_11, q50_14, q50_17, q50_18, q50_21, q50_23, q50_24, q50_25, q50_28, q50_31, as_nil, as_i, as_r, Nat.reduceAdd, Nat.reduceLeDiff, z_eq0, z_eq1, z_or, z_em, Classical.not_not, not_false_eq_true, not_true_eq_false, true_and, and_true, false_and, and_false, and_self, true_implies, false_implies, implies_true, Option.toList_some, Option.toList_none, List.cons_append, List.nil_append, Nat.add_eq_zero_iff, a_nl_i, a_nl_r, a_nl_n, true_or, or_true, eq_self, a_isRA_22, a_isRA_24, a_isRA_32, a_isA_20, ok_4, ok_5, ok_6, ok_7, ok_9, ok_20, ok_21, ok_30, ok_50, ok_180, ok_192, ok_200, hb, b0, w0, w2, w3, s0, s2, s3, h0, h2, h3, p0, p2]
  all_goals grind [ui_ap]
theorem ck_date {b : Nat} (hb : K b = 3) {I0 : Nat → Nat → Int32} (hL : dL C K L R I0 I) {f e k : Int32} (hf : 0 ≤ f ∧ f ≤ 200) (hP : ∀ J, dL C K L R I0 J → P none (n, t, K, L, J, R)) : a_does (d + 1) 50 [a_rf b, .int f, .int e, .int k] (n, t, K, L, I, R) P := by
  have hS := hL.1.s
  rw [a_enter1 (M := a_m50) rfl (a_cat_rf (a_cat_int (a_cat_int (a_cat_int a_cat_nil)))) (show 4 ≤ 5 by decide)]
  show a_at _ (a_xm a_m50) 0 [some (a_rf b), some (.int f), some (.int e), some (.int k), none] [] _ _
  simp only [q50_0, q50_1, as_nil, as_i, as_r, Nat.reduceAdd, Nat.reduceLeDiff, z_eq0, z_eq1, z_or, z_em, Classical.not_not, not_false_eq_true, not_true_eq_false, true_and, and_true, false_and, and_false, and_self, true_implies, false_implies, implies_true, Option.toList_some, Option.toList_none, List.cons_append, List.nil_append, Nat.add_eq_zero_iff, a_nl_i, a_nl_r, a_nl_n, true_or, or_true, eq_self, a_isRA_22, a_isRA_24, a_isRA_32, a_isA_20, ok_4, ok_5, ok_6, ok_7, ok_9, ok_20, ok_21, ok_30, ok_50, ok_180, ok_192, ok_200]
  exact lk_date_3 hb (fun J h => hP J (dL_L hL h)) f hf.2 I hf.1 (dL_refl hL.1)
theorem past_ok {p i e : Int32} {n : Nat} (h0 : 0 ≤ i) (h1 : i < p) (h2 : p ≤ 16384) (h3 : 5 * p.toNatClampNeg ≤ n) (h4 : 0 ≤ e ∧ e ≤ 4) : a_ok (i * 5 + e) n := by
  have e0 := Int32.le_iff_toInt_le.mp h0
  have e1 := Int32.lt_iff_toInt_lt.mp h1
  have e2 := Int32.le_iff_toInt_le.mp h2
  have e4 := Int32.le_iff_toInt_le.mp h4.1
  have e5 := Int32.le_iff_toInt_le.mp h4.2
  have c1 : (16384 : Int32).toInt = 16384 := rfl
  have c2 : (4 : Int32).toInt = 4 := rfl
  have c5 : (5 : Int32).toInt = 5 := rfl
  simp at e0 e4
  have hp : (p.toNatClampNeg : Int) = p.toInt := by
    show (p.toInt.toNat : Int) = p.toInt
    omega
  have hv : (i * 5 + e).toInt = i.toInt * 5 + e.toInt := by
    rw [Int32.toInt_add, Int32.toInt_mul, c5]
    simp only [Int.bmod_def]
    omega
  refine okI ?_ ?_
  · rw [Int32.le_iff_toInt_le, hv]
    simp
    omega
  · rw [hv]
    omega
theorem past_ok0 {p i : Int32} {n : Nat} (h0 : 0 ≤ i) (h1 : i < p) (h2 : p ≤ 16384) (h3 : 5 * p.toNatClampNeg ≤ n) : a_ok (i * 5) n := by
  have := past_ok (e := 0) h0 h1 h2 h3 (by decide)
  simpa using this
theorem lk_knownOn_19 {b : Nat} (hb : K b = 3) (hT : cT C K L I R) {s k : Int32} (hP : ∀ v, P (some (.int v)) (n, t, K, L, I, R)) : ∀ i : Int32, i ≤ 16384 → ∀ u, 0 ≤ i → a_at d (a_xm a_m161) 19 [some (a_rf b), some (.int s), some (.int k), some (.int i), u] [] (n, t, K, L, I, R) P := by
  have hS := hT.s
  obtain ⟨b1, ⟨w1, w2, w3⟩, ⟨s1, s2, s3⟩, ⟨h1, h2, h3⟩, ⟨p1, p2, p3⟩, q1⟩ := hT.g_bnc b hb
  have b0 : (b = 0) = False := eq_false (by omega)
  have w0 : (R b 2 = 0) = False := eq_false (by omega)
  have s0 : (R b 3 = 0) = False := eq_false (by omega)
  have h0 : (R b 4 = 0) = False := eq_false (by omega)
  have p0 : (R b 5 = 0) = False := eq_false (by omega)
  refine up_ind 16384 (fun i hk ih => ?_)
  intro u q0
  have k0 : ¬ I b 6 ≤ i → a_ok (i * 5) (L (R b 5)) := fun h => past_ok0 q0 (Int32.not_le.mp h) q1.2.1 q1.2.2
  have k1 : ¬ I b 6 ≤ i → ∀ e, 0 ≤ e ∧ e ≤ 4 → a_ok (i * 5 + e) (L (R b 5)) := fun h e he => past_ok q0 (Int32.not_le.mp h) q1.2.1 q1.2.2 he
  rw [q161_19]
  simp only [q161_20, q161_21, q161_24, as_nil, as_i, as_r, Nat.reduceAdd, Nat.reduceLeDiff, z_eq0, z_eq1, z_or, z_em, Classical.not_not, not_false_eq_true, not_true_eq_false, true_and, and_true, false_and, and_false, and_self, true_implies, false_implies, implies_true, Option.toList_some, Option.toList_none, List.cons_append, List.nil_append, Nat.add_eq_zero_iff, a_nl_i, a_nl_r, a_nl_n, true_or, or_true, eq_self, a_isRA_22, a_isRA_24, a_isRA_32, a_isA_20, ok_4, ok_5, ok_6, ok_7, ok_9, ok_20, ok_21, ok_30, ok_50, ok_180, ok_192, ok_200, hb, b0, w0, w2, w3, s0, s2, s3, h0, h2, h3, p0, p2]
  refine ⟨fun c1 => ?_, fun c1 => ?_⟩
  · simp only [q161_98, q161_100, as_nil, as_i, as_r, Nat.reduceAdd, Nat.reduceLeDiff, z_eq0, z_eq1, z_or, z_em, Classical.not_not, not_false_eq_true, not_true_eq_false, true_and, and_true, false_and, and_false, and_self, true_implies, false_implies, implies_true, Option.toList_some, Option.toList_none, List.cons_append, List.nil_append, Nat.add_eq_zero_iff, a_nl_i, a_nl_r, a_nl_n, true_or, or_true, eq_self, a_isRA_22, a_isRA_24, a_isRA_32, a_isA_20, ok_4, ok_5, ok_6, ok_7, ok_9, ok_20, ok_21, ok_30, ok_50, ok_180, ok_192, ok_200]
    exact hP _
  · have k0 := k0 c1
    have k1 := k1 c1
    have m1 := k1 1 (by decide)
    have m2 := k1 2 (by decide)
    have m3 := k1 3 (by decide)
    have m4 := k1 4 (by decide)
    have ih := ih (by grind)
    repeat' first
      | with_reducible apply And.intro
      | with_reducible assumption
      | with_reducible intro _
      | with_reducible apply hP
      | with_reducible apply ih
      | simp only [q161_27, q161_28, q161_29, q161_30, q161_32, q161_33, q161_36, q161_38, q161_39, q161_40, q161_41, q161_42, q161_45, q161_46, q161_47, q161_50, q161_52, q161_53, q161_54, q161_55, q161_58, q161_59, q161_62, q161_64, q161_65, q161_66, q161_67, q161_68, q161_71, q161_72, q161_73, q161_76, q161_78, q161_79, q161_80, q161_81, q161_84, q161_85, q161_88, q161_90, q161_91, q161_92, q161_95, as_nil, as_i, as_r, Nat.reduceAdd, Nat.reduceLeDiff, z_eq0, z_eq1, z_or, z_em, Classical.not_not, not_false_eq_true, not_true_eq_false, true_and, and_true, false_and, and_false, and_self, true_implies, false_implies, implies_true, Option.toList_some, Option.toList_none, List.cons_append, List.nil_append, Nat.add_eq_zero_iff, a_nl_i, a_nl_r, a_nl_n, true_or, or_true, eq_self, a_isRA_22, a_isRA_24, a_isRA_32, a_isA_20, ok_4, ok_5, ok_6, ok_7, ok_9, ok_20, ok_21, ok_30, ok_50, ok_180, ok_192, ok_200, hb, b0, w0, w2, w3, s0, s2, s3, h0, h2, h3, p0, p2]
    all_goals grind [ui_ap]
theorem ck_knownOn {b : Nat} (hb : K b = 3) (hT : cT C K L I R) {s k : Int32} (hs : 0 ≤ s ∧ s < 200) (hP : ∀ v, P (some (.int v)) (n, t, K, L, I, R)) : a_does (d + 1) 161 [a_rf b, .int s, .int k] (n, t, K, L, I, R) P := by
  have hS := hT.s
  obtain ⟨b1, ⟨w1, w2, w3⟩, ⟨s1, s2, s3⟩, ⟨h1, h2, h3⟩, ⟨p1, p2, p3⟩, q1⟩ := hT.g_bnc b hb
  have b0 : (b = 0) = False := eq_false (by omega)
  have w0 : (R b 2 = 0) = False := eq_false (by omega)
  have s0 : (R b 3 = 0) = False := eq_false (by omega)
  have h0 : (R b 4 = 0) = False := eq_false (by omega)
  have p0 : (R b 5 = 0) = False := eq_false (by omega)
  have hl : ∀ u, a_at d (a_xm a_m161) 19 [some (a_rf b), some (.int s), some (.int k), some (.int 0), u] [] (n, t, K, L, I, R) P := fun u => lk_knownOn_19 hb hT hP 0 (by decide) u (by decide)
  rw [a_enter1 (M := a_m161) rfl (a_cat_rf (a_cat_int (a_cat_int a_cat_nil))) (show 3 ≤ 5 by decide)]
  show a_at _ (a_xm a_m161) 0 [some (a_rf b), some (.int s), some (.int k), none, none] [] _ _
  repeat' first
    | with_reducible apply And.intro
    | with_reducible assumption
    | with_reducible intro _
    | with_reducible apply hP
    | with_reducible apply hl
    | simp only [q161_0, q161_1, q161_4, q161_5, q161_6, q161_7, q161_10, q161_11, q161_14, q161_15, q161_16, q161_17, q161_18, as_nil, as_i, as_r, Nat.reduceAdd, Nat.reduceLeDiff, z_eq0, z_eq1, z_or, z_em, Classical.not_not, not_false_eq_true, not_true_eq_false, true_and, and_true, false_and, and_false, and_self, true_implies, false_implies, implies_true, Option.toList_some, Option.toList_none, List.cons_append, List.nil_append, Nat.add_eq_zero_iff, a_nl_i, a_nl_r, a_nl_n, true_or, or_true, eq_self, a_isRA_22, a_isRA_24, a_isRA_32, a_isA_20, ok_4, ok_5, ok_6, ok_7, ok_9, ok_20, ok_21, ok_30, ok_50, ok_180, ok_192, ok_200, hb, b0, w0, w2, w3, s0, s2, s3, h0, h2, h3, p0, p2]
  all_goals grind [ui_ap]
end K5
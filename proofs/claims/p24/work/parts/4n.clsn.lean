/-! bits -/
def bq (x : Int32) (i : Nat) : Bool := x.toBitVec.getLsbD i
theorem bq_ext {x y : Int32} (h : ∀ i, i < 32 → bq x i = bq y i) : x = y := Int32.toBitVec_inj.mp (BitVec.eq_of_getLsbD_eq (fun i hi => h i hi))
theorem bq_or (x y : Int32) (i : Nat) : bq (x ||| y) i = (bq x i || bq y i) := by unfold bq; rw [Int32.toBitVec_or, BitVec.getLsbD_or]
theorem bq_and (x y : Int32) (i : Nat) : bq (x &&& y) i = (bq x i && bq y i) := by unfold bq; rw [Int32.toBitVec_and, BitVec.getLsbD_and]
theorem bq_0 (i : Nat) : bq 0 i = false := BitVec.getLsbD_zero
theorem bq_1 : ∀ i, i < 32 → bq 1 i = decide (i = 0) := by decide +kernel
theorem bq_s : ∀ k, k < 32 → ((Int32.ofNat k &&& 31).toBitVec.smod 32).toNat = k := by decide +kernel
theorem bq_shl {k : Nat} (hk : k < 32) (x : Int32) {i : Nat} (hi : i < 32) : bq (x <<< (Int32.ofNat k &&& 31)) i = (decide (k ≤ i) && bq x (i - k)) := by
  unfold bq
  rw [Int32.toBitVec_shiftLeft]
  show (x.toBitVec <<< ((Int32.ofNat k &&& 31).toBitVec.smod 32).toNat).getLsbD i = _
  rw [bq_s k hk, BitVec.getLsbD_shiftLeft]
  rcases Nat.lt_or_ge i k with h | h
  · simp [h, Nat.not_le.mpr h]
  · simp [hi, h, Nat.not_lt.mpr h]
theorem bq_shr {k : Nat} (hk : k < 32) (x : Int32) {i : Nat} (hi : i < 32) : bq (x >>> (Int32.ofNat k &&& 31)) i = if k + i < 32 then bq x (k + i) else bq x 31 := by
  unfold bq
  rw [Int32.toBitVec_shiftRight]
  show (x.toBitVec.sshiftRight ((Int32.ofNat k &&& 31).toBitVec.smod 32).toNat).getLsbD i = _
  rw [bq_s k hk, BitVec.getLsbD_sshiftRight, BitVec.msb_eq_getLsbD_last]
  simp [hi]
theorem bq_and1 (y : Int32) : y &&& 1 = 0 ↔ bq y 0 = false := by
  constructor
  · intro h
    have e : bq (y &&& 1) 0 = false := by rw [h]; exact bq_0 0
    rw [bq_and, bq_1 0 (by decide)] at e
    simpa using e
  · intro h
    refine bq_ext (fun i hi => ?_)
    rw [bq_and, bq_1 i hi, bq_0]
    by_cases e : i = 0
    · subst e; rw [h]; rfl
    · rw [decide_eq_false e]; simp
/-- the bit that a shift looks at -/
theorem bq_at {k : Nat} (hk : k < 32) (x : Int32) : (x >>> (Int32.ofNat k &&& 31)) &&& 1 = 0 ↔ bq x k = false := by
  rw [bq_and1, bq_shr hk x (by decide), Nat.add_zero, if_pos hk]
/-- a bit that is set -/
theorem bq_set {k i : Nat} (hk : k < 32) (hi : i < 32) (x : Int32) : bq (x ||| ((1 : Int32) <<< (Int32.ofNat k &&& 31))) i = (bq x i || decide (i = k)) := by
  rw [bq_or, bq_shl hk _ hi, bq_1 _ (by omega)]
  by_cases e : i = k
  · subst e; simp
  · by_cases h : k ≤ i
    · rw [decide_eq_false (show ¬ i - k = 0 by omega), decide_eq_false e]; simp
    · rw [decide_eq_false h, decide_eq_false e]; simp
theorem on_cl {x : Int32} (h : 0 ≤ x) : x = Int32.ofNat x.toNatClampNeg := by
  have h0 := Int32.le_iff_toInt_le.mp h
  have c0 : (0 : Int32).toInt = 0 := rfl
  have h1 := Int32.toInt_lt x
  refine Int32.toInt_inj.mp ?_
  rw [Int32.toInt_ofNat', show Int32.size = 4294967296 from rfl]
  show x.toInt = Int.bmod (x.toInt.toNat : Int) 4294967296
  simp only [Int.bmod_def]
  omega
theorem cl_le0 {x y : Int32} (h : 0 ≤ x) (h2 : x ≤ y) : x.toNatClampNeg ≤ y.toNatClampNeg := by
  have h0 := Int32.le_iff_toInt_le.mp h
  have h1 := Int32.le_iff_toInt_le.mp h2
  have c0 : (0 : Int32).toInt = 0 := rfl
  show x.toInt.toNat ≤ y.toInt.toNat
  omega
/-! the class: put, check, kin, just so -/
section KU
variable {d n t C c n0 n' n'' t' : Nat} {K L K0 L0 K' L' K'' L'' : Nat → Nat} {I I0 J J0 J1 J2 : Nat → Nat → Int32} {R R0 R' R'' : Nat → Nat → Nat} {P : Option Value → AH → Prop}
theorem ke_put (hH : cH C c (n + 1) t K L I R) {v : Int32} (h1 : 21 ≤ I C 10 → ∀ J, cZ C c (n + 1) K L I R (n + 1) t K L J R → P (some (.int (-6))) (n + 1, t, K, L, J, R)) (hP : I C 10 < 21 → cT C K L (a_ui (a_ui I (C + 43) (I C 10).toNatClampNeg v) C 10 (I C 10 + 1)) R → P (some (.int (I C 10 + 1))) (n + 1, t, K, L, (a_ui (a_ui I (C + 43) (I C 10).toNatClampNeg v) C 10 (I C 10 + 1)), R)) : a_does (d + 70) 163 [a_rf C, .int v] (n + 1, t, K, L, I, R) P := by
  have hT := hH.1
  have hS := hT.s
  have hZ := cZ_refl hH
  have g := hT.g_row
  have hf : I C 10 < 21 → P (some (.int (I C 10 + 1))) (n + 1, t, K, L, (a_ui (a_ui I (C + 43) (I C 10).toNatClampNeg v) C 10 (I C 10 + 1)), R) := fun h => hP h (sT_BeamHall_rowSize (sT_BeamHall_row hT) (by clear hP h1 hZ hH hT hS; grind))
  have hx := fun (e : 21 ≤ I C 10) => h1 e
  rw [a_enter1 (M := a_m163) rfl (a_cat_rf (a_cat_int a_cat_nil)) (show 2 ≤ 2 by decide)]
  show a_at _ (a_xm a_m163) 0 [some (a_rf C), some (.int v)] [] _ _
  repeat' first
    | with_reducible apply And.intro
    | with_reducible assumption
    | with_reducible intro _
    | refine ck_refuse hZ (fun _ _ => ?_)
    | exact h1 (Int32.not_lt.mp (by assumption)) _ (by assumption)
    | exact h1 (by assumption) _ (by assumption)
    | with_reducible apply hf
    | simp only [q163_0, q163_1, q163_4, q163_6, q163_9, q163_10, q163_12, q163_15, q163_16, q163_17, q163_20, q163_21, q163_24, q163_25, q163_26, q163_27, q163_28, q163_31, q163_32, q163_33, q163_36, q163_37, q163_40, k_0 hS, z_C hS, r_0_9 hS, k_43 hS, l_43 hS, z_43, as_nil, as_i, as_r, Nat.reduceAdd, Nat.reduceLeDiff, z_eq0, z_eq1, z_or, z_em, Classical.not_not, not_false_eq_true, not_true_eq_false, true_and, and_true, false_and, and_false, and_self, true_implies, false_implies, implies_true, Option.toList_some, Option.toList_none, List.cons_append, List.nil_append, Nat.add_eq_zero_iff, a_nl_i, a_nl_r, a_nl_n, true_or, or_true, eq_self, a_isRA_22, a_isRA_24, a_isRA_32, a_isA_20, ok_4, ok_5, ok_6, ok_7, ok_9, ok_20, ok_21, ok_30, ok_50, ok_180, ok_192, ok_200, ui_ap, cc_ne, cc_n0, cc_0n, Nat.reduceEqDiff, reduceIte, if_true, if_false]
  all_goals ((try clear hf); (try clear hx); (try clear h1); (try clear h2); (try clear h3); (try clear h4); (try clear hP); (try clear hZ); (try clear hH); (try clear hT); (try clear hS); grind [ui_ap])
theorem ke_check (hH : cH C c (n + 1) t K L I R) {b a k : Int32} (h1 : ¬ ((0 ≤ b ∧ b < I (C + 14) 5) ∧ (0 ≤ a ∧ a < 200) ∧ a + I C 10 ≤ 200) → ∀ J, cZ C c (n + 1) K L I R (n + 1) t K L J R → P (some (.int (-1))) (n + 1, t, K, L, J, R)) (h2 : ((0 ≤ b ∧ b < I (C + 14) 5) ∧ (0 ≤ a ∧ a < 200) ∧ a + I C 10 ≤ 200) → k < 0 → ∀ J, cZ C c (n + 1) K L I R (n + 1) t K L J R → P (some (.int (-4))) (n + 1, t, K, L, J, R)) (h3 : ((0 ≤ b ∧ b < I (C + 14) 5) ∧ (0 ≤ a ∧ a < 200) ∧ a + I C 10 ≤ 200) → ¬ k < 0 → I (C + 1) 6 < k → ∀ J, cZ C c (n + 1) K L I R (n + 1) t K L J R → P (some (.int (-6))) (n + 1, t, K, L, J, R)) (hP : ((0 ≤ b ∧ b < I (C + 14) 5) ∧ (0 ≤ a ∧ a < 200) ∧ a + I C 10 ≤ 200) → ¬ k < 0 → ¬ I (C + 1) 6 < k → cT C K L (a_ui I C 10 0) R → ∀ v, P (some (.int v)) (n + 1, t, K, L, (a_ui I C 10 0), R)) : a_does (d + 70) 164 [a_rf C, .int b, .int a, .int k] (n + 1, t, K, L, I, R) P := by
  have hT := hH.1
  have hS := hT.s
  have hZ := cZ_refl hH
  have gA := hT.g_asksR
  have gB := hT.g_benchesR
  have gX := hT.g_textsR
  have gb := gB b.toNatClampNeg
  have gbn := hT.g_benches
  have gY := hT.g_benY
  have gy : 0 ≤ b → b < I (C + 14) 5 → ¬ R (C + 16) b.toNatClampNeg = 0 := fun e1 e2 => gY _ (cl_lt e1 e2)
  have hf : ((0 ≤ b ∧ b < I (C + 14) 5) ∧ (0 ≤ a ∧ a < 200) ∧ a + I C 10 ≤ 200) → ¬ k < 0 → ¬ I (C + 1) 6 < k → ∀ v, P (some (.int v)) (n + 1, t, K, L, (a_ui I C 10 0), R) := fun e1 e2 e3 v => hP e1 e2 e3 (sT_BeamHall_rowSize hT (by decide)) v
  have hgo : ((0 ≤ b ∧ b < I (C + 14) 5) ∧ (0 ≤ a ∧ a < 200) ∧ a + I C 10 ≤ 200) → ¬ k < 0 → ¬ I (C + 1) 6 < k → ¬ R (C + 16) b.toNatClampNeg = 0 → ∀ u, a_at (d + 69) (a_xm a_m164) 69 [some (a_rf C), some (.int b), some (.int a), some (.int k), some (a_rf (R (C + 16) b.toNatClampNeg)), u] [] (n + 1, t, K, L, I, R) P := fun e1 e2 e3 h0 u => by
    simp only [q164_69, q164_70, q164_72, q164_73, q164_74, k_0 hS, z_C hS, as_nil, as_i, as_r, Nat.reduceAdd, Nat.reduceLeDiff, z_eq0, z_eq1, z_or, z_em, Classical.not_not, not_false_eq_true, not_true_eq_false, true_and, and_true, false_and, and_false, and_self, true_implies, false_implies, implies_true, Option.toList_some, Option.toList_none, List.cons_append, List.nil_append, Nat.add_eq_zero_iff, a_nl_i, a_nl_r, a_nl_n, true_or, or_true, eq_self, a_isRA_22, a_isRA_24, a_isRA_32, a_isA_20, ok_4, ok_5, ok_6, ok_7, ok_9, ok_20, ok_21, ok_30, ok_50, ok_180, ok_192, ok_200]
    refine ck_firstWrong hT (gb.resolve_left h0) e1.2.1.1 e1.2.2 e1.2.1.2 (fun v => ?_)
    simp only [q164_77, q164_79, q164_80, q164_81, q164_84, q164_86, k_0 hS, z_C hS, as_nil, as_i, as_r, Nat.reduceAdd, Nat.reduceLeDiff, z_eq0, z_eq1, z_or, z_em, Classical.not_not, not_false_eq_true, not_true_eq_false, true_and, and_true, false_and, and_false, and_self, true_implies, false_implies, implies_true, Option.toList_some, Option.toList_none, List.cons_append, List.nil_append, Nat.add_eq_zero_iff, a_nl_i, a_nl_r, a_nl_n, true_or, or_true, eq_self, a_isRA_22, a_isRA_24, a_isRA_32, a_isA_20, ok_4, ok_5, ok_6, ok_7, ok_9, ok_20, ok_21, ok_30, ok_50, ok_180, ok_192, ok_200]
    exact hf e1 e2 e3 v
  rw [a_enter1 (M := a_m164) rfl (a_cat_rf (a_cat_int (a_cat_int (a_cat_int a_cat_nil)))) (show 4 ≤ 6 by decide)]
  show a_at _ (a_xm a_m164) 0 [some (a_rf C), some (.int b), some (.int a), some (.int k), none, none] [] _ _
  repeat' first
    | with_reducible apply And.intro
    | with_reducible assumption
    | with_reducible intro _
    | refine ck_refuse hZ (fun _ _ => ?_)
    | refine h1 ?_ _ (by assumption)
    | refine h2 ?_ ?_ _ (by assumption)
    | refine h3 ?_ ?_ ?_ _ (by assumption)
    | refine hgo ?_ ?_ ?_ ?_ _
    | simp only [q164_0, q164_1, q164_4, q164_5, q164_8, q164_10, q164_12, q164_15, q164_16, q164_19, q164_22, q164_23, q164_24, q164_27, q164_28, q164_31, q164_34, q164_35, q164_36, q164_39, q164_40, q164_41, q164_44, q164_45, q164_47, q164_50, q164_51, q164_52, q164_53, q164_56, q164_59, q164_62, q164_63, q164_65, q164_68, k_0 hS, z_C hS, r_0_4 hS, k_14 hS, z_14, r_0_0 hS, k_1 hS, z_1, sp_benchAt hS gB, sp_isShiftC, as_nil, as_i, as_r, Nat.reduceAdd, Nat.reduceLeDiff, z_eq0, z_eq1, z_or, z_em, Classical.not_not, not_false_eq_true, not_true_eq_false, true_and, and_true, false_and, and_false, and_self, true_implies, false_implies, implies_true, Option.toList_some, Option.toList_none, List.cons_append, List.nil_append, Nat.add_eq_zero_iff, a_nl_i, a_nl_r, a_nl_n, true_or, or_true, eq_self, a_isRA_22, a_isRA_24, a_isRA_32, a_isA_20, ok_4, ok_5, ok_6, ok_7, ok_9, ok_20, ok_21, ok_30, ok_50, ok_180, ok_192, ok_200]
  all_goals ((try clear hgo); (try clear hf); (try clear gY); (try clear gA); (try clear gB); (try clear gX); (try clear gb); (try clear h1); (try clear h2); (try clear h3); (try clear h4); (try clear hP); (try clear hZ); (try clear hH); (try clear hT); (try clear hS); grind [ui_ap])
theorem ke_kin (hH : cH C c (n + 1) t K L I R) {r g : Int32} (h1 : ¬ ((0 ≤ r ∧ r ≤ 5) ∧ (0 ≤ g ∧ g ≤ 9)) → ∀ J, cZ C c (n + 1) K L I R (n + 1) t K L J R → P (some (.int (-1))) (n + 1, t, K, L, J, R)) (hP : (0 ≤ r ∧ r ≤ 5) → (0 ≤ g ∧ g ≤ 9) → cT C K L (a_ui I (C + 18) r.toNatClampNeg ((I (C + 18) r.toNatClampNeg) ||| (1 <<< (g &&& 31)))) R → P (some (.int (if ((I (C + 18) r.toNatClampNeg) >>> (g &&& 31)) &&& 1 = 0 then 1 else 0))) (n + 1, t, K, L, (a_ui I (C + 18) r.toNatClampNeg ((I (C + 18) r.toNatClampNeg) ||| (1 <<< (g &&& 31)))), R)) : a_does (d + 70) 89 [a_rf C, .int r, .int g] (n + 1, t, K, L, I, R) P := by
  have hT := hH.1
  have hS := hT.s
  have hZ := cZ_refl hH
  have hgo : (0 ≤ r ∧ r < 6) → ¬ g < 0 → g < 10 → a_at (d + 69) (a_xm a_m89) 23 [some (a_rf C), some (.int r), some (.int g)] [] (n + 1, t, K, L, I, R) P := fun h2 h3 h4 => by
    have hf := hP ⟨h2.1, by clear hP h1 hZ hH hT hS; grind⟩ ⟨Int32.not_lt.mp h3, by clear hP h1 hZ hH hT hS; grind⟩ (sT_Panel_kin hT)
    simp only [q89_23, q89_24, q89_27, q89_28, q89_29, k_0 hS, z_C hS, r_0_3 hS, k_17 hS, z_17, as_nil, as_i, as_r, Nat.reduceAdd, Nat.reduceLeDiff, z_eq0, z_eq1, z_or, z_em, Classical.not_not, not_false_eq_true, not_true_eq_false, true_and, and_true, false_and, and_false, and_self, true_implies, false_implies, implies_true, Option.toList_some, Option.toList_none, List.cons_append, List.nil_append, Nat.add_eq_zero_iff, a_nl_i, a_nl_r, a_nl_n, true_or, or_true, eq_self, a_isRA_22, a_isRA_24, a_isRA_32, a_isA_20, ok_4, ok_5, ok_6, ok_7, ok_9, ok_20, ok_21, ok_30, ok_50, ok_180, ok_192, ok_200]
    refine ck_tellKin hS h2 ?_
    simp only [q89_32, q89_35, q89_36, q89_39, q89_40, as_nil, as_i, as_r, Nat.reduceAdd, Nat.reduceLeDiff, z_eq0, z_eq1, z_or, z_em, Classical.not_not, not_false_eq_true, not_true_eq_false, true_and, and_true, false_and, and_false, and_self, true_implies, false_implies, implies_true, Option.toList_some, Option.toList_none, List.cons_append, List.nil_append, Nat.add_eq_zero_iff, a_nl_i, a_nl_r, a_nl_n, true_or, or_true, eq_self, a_isRA_22, a_isRA_24, a_isRA_32, a_isA_20, ok_4, ok_5, ok_6, ok_7, ok_9, ok_20, ok_21, ok_30, ok_50, ok_180, ok_192, ok_200]
    by_cases e : ((I (C + 18) r.toNatClampNeg) >>> (g &&& 31)) &&& 1 = 0
    · simp only [e, if_true, not_true_eq_false, false_implies, true_implies, and_true, true_and, implies_true, not_false_eq_true] at hf ⊢
      exact hf
    · simp only [e, if_false, not_true_eq_false, false_implies, true_implies, and_true, true_and, implies_true, not_false_eq_true] at hf ⊢
      exact hf
  have hr0 : r < 0 → ¬ ((0 ≤ r ∧ r ≤ 5) ∧ (0 ≤ g ∧ g ≤ 9)) := fun q e => absurd q (Int32.not_lt.mpr e.1.1)
  rw [a_enter1 (M := a_m89) rfl (a_cat_rf (a_cat_int (a_cat_int a_cat_nil))) (show 3 ≤ 3 by decide)]
  show a_at _ (a_xm a_m89) 0 [some (a_rf C), some (.int r), some (.int g)] [] _ _
  repeat' first
    | with_reducible apply And.intro
    | with_reducible assumption
    | with_reducible intro _
    | refine ck_refuse hZ (fun _ _ => ?_)
    | refine h1 ?_ _ (by assumption)
    | refine hgo ?_ ?_ ?_
    | simp only [q89_0, q89_1, q89_4, q89_7, q89_8, q89_11, q89_12, q89_14, q89_17, q89_18, q89_19, q89_22, k_0 hS, z_C hS, sp_isReaderC, as_nil, as_i, as_r, Nat.reduceAdd, Nat.reduceLeDiff, z_eq0, z_eq1, z_or, z_em, Classical.not_not, not_false_eq_true, not_true_eq_false, true_and, and_true, false_and, and_false, and_self, true_implies, false_implies, implies_true, Option.toList_some, Option.toList_none, List.cons_append, List.nil_append, Nat.add_eq_zero_iff, a_nl_i, a_nl_r, a_nl_n, true_or, or_true, eq_self, a_isRA_22, a_isRA_24, a_isRA_32, a_isA_20, ok_4, ok_5, ok_6, ok_7, ok_9, ok_20, ok_21, ok_30, ok_50, ok_180, ok_192, ok_200]
  all_goals ((try clear hgo); (try clear hr0); (try clear h1); (try clear h2); (try clear h3); (try clear h4); (try clear hP); (try clear hZ); (try clear hH); (try clear hT); (try clear hS); grind [ui_ap])
/-- whether an HOUR lies in a TRIP of z from i on, found by k -/
def lhu (f e g : Nat → Int32) (k h : Int32) : Nat → Nat → Int32
  | 0, _ => 0
  | z + 1, i => if g i ≤ k ∧ f i ≤ h ∧ h ≤ e i then 1 else lhu f e g k h z (i + 1)
theorem lhu_01 {f e g : Nat → Int32} {k h : Int32} : ∀ z i, lhu f e g k h z i = 0 ∨ lhu f e g k h z i = 1 := by
  intro z
  induction z with
  | zero => intro i; exact Or.inl rfl
  | succ z ih =>
    intro i
    unfold lhu
    split
    · exact Or.inr rfl
    · exact ih (i + 1)
theorem lhu_eq {f e g f' e' g' : Nat → Int32} {k h : Int32} : ∀ z i, (∀ j, i ≤ j → j < i + z → ((g j ≤ k ∧ f j ≤ h ∧ h ≤ e j) ↔ (g' j ≤ k ∧ f' j ≤ h ∧ h ≤ e' j))) → lhu f e g k h z i = lhu f' e' g' k h z i := by
  intro z
  induction z with
  | zero => intro i _; rfl
  | succ z ih =>
    intro i hi
    unfold lhu
    simp only [hi i (Nat.le_refl _) (by omega)]
    split
    · rfl
    · exact ih (i + 1) (fun j h1 h2 => hi j (by omega) (by omega))
/-- how many of z HOURS from o on -/
def lsu (q : Int32 → Int32) (o : Int32) : Nat → Int32 → Int32 → Int32
  | 0, _, v => v
  | z + 1, i, v => lsu q o z (i + 1) (v + q (o + i))
def lkC (C : Nat) (I : Nat → Nat → Int32) (k h : Int32) : Int32 := lhu (I (C + 4)) (I (C + 5)) (I (C + 6)) k h (I (C + 1) 5).toNatClampNeg 0
theorem le_isLost_2 (hT : cT C K L I R) {h k : Int32} (hP : P (some (.int (lkC C I k h))) (n, t, K, L, I, R)) : ∀ i : Int32, i ≤ 20 → 0 ≤ i → i ≤ I (C + 1) 5 → lhu (I (C + 4)) (I (C + 5)) (I (C + 6)) k h ((I (C + 1) 5).toNatClampNeg - i.toNatClampNeg) i.toNatClampNeg = lkC C I k h → a_at d (a_xm a_m19) 2 [some (a_rf (C + 1)), some (.int h), some (.int k), some (.int i)] [] (n, t, K, L, I, R) P := by
  have hS := hT.s
  have g := hT.g_trips
  refine up_ind 20 (fun i hk ih => ?_)
  intro q0 q1 q2
  have hend : ¬ i < I (C + 1) 5 → P (some (.int 0)) (n, t, K, L, I, R) := fun e => by
    have : i = I (C + 1) 5 := by clear ih hP hT hS q2; grind
    rw [this, Nat.sub_self] at q2
    rw [show lkC C I k h = 0 from q2.symm] at hP
    exact hP
  have hgo : i < I (C + 1) 5 → ¬ (I (C + 6) i.toNatClampNeg ≤ k ∧ I (C + 4) i.toNatClampNeg ≤ h ∧ h ≤ I (C + 5) i.toNatClampNeg) → a_at d (a_xm a_m19) 2 [some (a_rf (C + 1)), some (.int h), some (.int k), some (.int (i + 1))] [] (n, t, K, L, I, R) P := fun e1 e2 => by
    have ei := cl_lt q0 e1
    have e3 : (i + 1).toNatClampNeg = i.toNatClampNeg + 1 := cl_up q0 (by clear ih hP hT hS q2; grind)
    refine ih (by clear ih hP hT hS q2; grind) (by clear ih hP hT hS q2; grind) (by clear ih hP hT hS q2; grind) ?_
    rw [← q2, e3, show (I (C + 1) 5).toNatClampNeg - i.toNatClampNeg = ((I (C + 1) 5).toNatClampNeg - (i.toNatClampNeg + 1)) + 1 by omega]
    show _ = if _ then _ else _
    rw [if_neg e2]
  have hyes : i < I (C + 1) 5 → I (C + 6) i.toNatClampNeg ≤ k → I (C + 4) i.toNatClampNeg ≤ h → h ≤ I (C + 5) i.toNatClampNeg → P (some (.int 1)) (n, t, K, L, I, R) := fun e1 e2 e3 e4 => by
    have ei := cl_lt q0 e1
    rw [show (I (C + 1) 5).toNatClampNeg - i.toNatClampNeg = ((I (C + 1) 5).toNatClampNeg - (i.toNatClampNeg + 1)) + 1 by omega] at q2
    have : lkC C I k h = 1 := by
      rw [← q2]
      show (if _ then _ else _) = _
      rw [if_pos ⟨e2, e3, e4⟩]
    rw [this] at hP
    exact hP
  clear ih hP q2
  rw [q19_2]
  repeat' first
    | with_reducible apply And.intro
    | with_reducible assumption
    | with_reducible intro _
    | refine hend ?_
    | refine hyes ?_ ?_ ?_ ?_
    | refine hgo ?_ ?_
    | simp only [q19_3, q19_4, q19_7, q19_10, q19_11, q19_14, q19_15, q19_16, q19_17, q19_20, q19_21, q19_22, q19_25, q19_26, q19_27, q19_30, q19_31, q19_32, q19_35, q19_36, q19_37, q19_40, q19_41, q19_42, q19_45, q19_48, q19_49, k_1 hS, z_1, r_1_4 hS, k_6 hS, l_6 hS, z_6, r_1_2 hS, k_4 hS, l_4 hS, z_4, r_1_3 hS, k_5 hS, l_5 hS, z_5, as_nil, as_i, as_r, Nat.reduceAdd, Nat.reduceLeDiff, z_eq0, z_eq1, z_or, z_em, Classical.not_not, not_false_eq_true, not_true_eq_false, true_and, and_true, false_and, and_false, and_self, true_implies, false_implies, implies_true, Option.toList_some, Option.toList_none, List.cons_append, List.nil_append, Nat.add_eq_zero_iff, a_nl_i, a_nl_r, a_nl_n, true_or, or_true, eq_self, a_isRA_22, a_isRA_24, a_isRA_32, a_isA_20, ok_4, ok_5, ok_6, ok_7, ok_9, ok_20, ok_21, ok_30, ok_50, ok_180, ok_192, ok_200]
  all_goals ((try clear hend); (try clear hgo); (try clear hyes); (try clear hT); (try clear hS); grind [ui_ap])
theorem ce_isLost (hT : cT C K L I R) {h k : Int32} (hP : P (some (.int (lkC C I k h))) (n, t, K, L, I, R)) : a_does (d + 1) 19 [a_rf (C + 1), .int h, .int k] (n, t, K, L, I, R) P := by
  have hl := le_isLost_2 (d := d) hT (h := h) (k := k) hP 0 (by decide) (by decide) hT.g_trips.1 rfl
  rw [a_enter1 (M := a_m19) rfl (a_cat_rf (a_cat_int (a_cat_int a_cat_nil))) (show 3 ≤ 4 by decide)]
  show a_at _ (a_xm a_m19) 0 [some (a_rf (C + 1)), some (.int h), some (.int k), none] [] _ _
  repeat' first
    | with_reducible apply And.intro
    | with_reducible assumption
    | with_reducible intro _
    | with_reducible apply hl
    | simp only [q19_0, q19_1, as_nil, as_i, as_r, Nat.reduceAdd, Nat.reduceLeDiff, z_eq0, z_eq1, z_or, z_em, Classical.not_not, not_false_eq_true, not_true_eq_false, true_and, and_true, false_and, and_false, and_self, true_implies, false_implies, implies_true, Option.toList_some, Option.toList_none, List.cons_append, List.nil_append, Nat.add_eq_zero_iff, a_nl_i, a_nl_r, a_nl_n, true_or, or_true, eq_self, a_isRA_22, a_isRA_24, a_isRA_32, a_isA_20, ok_4, ok_5, ok_6, ok_7, ok_9, ok_20, ok_21, ok_30, ok_50, ok_180, ok_192, ok_200]
  all_goals ((try clear ih); (try clear hP); (try clear hl); (try clear hq); (try clear a3); grind [ui_ap])
theorem le_lostAsKnown_5 (hT : cT C K L I R) {s k V : Int32} (hP : P (some (.int V)) (n, t, K, L, I, R)) : ∀ i : Int32, i ≤ 8 → ∀ o, 0 ≤ i → lsu (lkC C I k) (s * 8) (8 - i.toNatClampNeg) i o = V → a_at (d + 1) (a_xm a_m18) 5 [some (a_rf (C + 1)), some (.int s), some (.int k), some (.int o), some (.int i)] [] (n, t, K, L, I, R) P := by
  have hS := hT.s
  refine up_ind 8 (fun i hk ih => ?_)
  intro o q0 q2
  have hend : ¬ i < 8 → P (some (.int o)) (n, t, K, L, I, R) := fun e => by
    have : i = 8 := by clear ih hP hT hS q2; grind
    subst this
    rw [show o = V from q2]
    exact hP
  have hgo : i < 8 → ∀ v, v = o + lkC C I k (s * 8 + i) → a_at (d + 1) (a_xm a_m18) 5 [some (a_rf (C + 1)), some (.int s), some (.int k), some (.int v), some (.int (i + 1))] [] (n, t, K, L, I, R) P := fun e1 v ev => by
    have ei : i.toNatClampNeg < 8 := show _ < (8 : Int32).toNatClampNeg from cl_lt q0 e1
    have e3 : (i + 1).toNatClampNeg = i.toNatClampNeg + 1 := cl_up q0 (by clear ih hP hT hS q2; grind)
    refine ih (by clear ih hP hT hS q2; grind) _ (by clear ih hP hT hS q2; grind) ?_
    rw [← q2, e3, ev, show 8 - i.toNatClampNeg = (8 - (i.toNatClampNeg + 1)) + 1 by omega]
    rfl
  have hcall : i < 8 → a_at (d + 1) (a_xm a_m18) 12 [some (a_rf (C + 1)), some (.int s), some (.int k), some (.int o), some (.int i)] [] (n, t, K, L, I, R) P := fun e1 => by
    simp only [q18_12, q18_13, q18_14, q18_16, q18_17, q18_19, q18_20, q18_21, k_1 hS, z_1, as_nil, as_i, as_r, Nat.reduceAdd, Nat.reduceLeDiff, z_eq0, z_eq1, z_or, z_em, Classical.not_not, not_false_eq_true, not_true_eq_false, true_and, and_true, false_and, and_false, and_self, true_implies, false_implies, implies_true, Option.toList_some, Option.toList_none, List.cons_append, List.nil_append, Nat.add_eq_zero_iff, a_nl_i, a_nl_r, a_nl_n, true_or, or_true, eq_self, a_isRA_22, a_isRA_24, a_isRA_32, a_isA_20, ok_4, ok_5, ok_6, ok_7, ok_9, ok_20, ok_21, ok_30, ok_50, ok_180, ok_192, ok_200]
    refine ce_isLost hT ?_
    have hg := hgo e1
    rcases lhu_01 (f := I (C + 4)) (e := I (C + 5)) (g := I (C + 6)) (k := k) (h := s * 8 + i) (I (C + 1) 5).toNatClampNeg 0 with e | e
    · have e' : lkC C I k (s * 8 + i) = 0 := e
      have hg0 := hg o (by rw [e', Int32.add_zero])
      simp only [q18_24, q18_27, q18_30, q18_33, as_nil, as_i, as_r, Nat.reduceAdd, Nat.reduceLeDiff, z_eq0, z_eq1, z_or, z_em, Classical.not_not, not_false_eq_true, not_true_eq_false, true_and, and_true, false_and, and_false, and_self, true_implies, false_implies, implies_true, Option.toList_some, Option.toList_none, List.cons_append, List.nil_append, Nat.add_eq_zero_iff, a_nl_i, a_nl_r, a_nl_n, true_or, or_true, eq_self, a_isRA_22, a_isRA_24, a_isRA_32, a_isA_20, ok_4, ok_5, ok_6, ok_7, ok_9, ok_20, ok_21, ok_30, ok_50, ok_180, ok_192, ok_200, e']
      first
        | exact hg0
        | exact ⟨fun _ => hg0, fun q => absurd rfl q⟩
    · have e' : lkC C I k (s * 8 + i) = 1 := e
      have hg0 := hg (o + 1) (by rw [e'])
      have n1 : ¬ (1 : Int32) = 0 := by decide
      simp only [q18_24, q18_27, q18_30, q18_33, as_nil, as_i, as_r, Nat.reduceAdd, Nat.reduceLeDiff, z_eq0, z_eq1, z_or, z_em, Classical.not_not, not_false_eq_true, not_true_eq_false, true_and, and_true, false_and, and_false, and_self, true_implies, false_implies, implies_true, Option.toList_some, Option.toList_none, List.cons_append, List.nil_append, Nat.add_eq_zero_iff, a_nl_i, a_nl_r, a_nl_n, true_or, or_true, eq_self, a_isRA_22, a_isRA_24, a_isRA_32, a_isA_20, ok_4, ok_5, ok_6, ok_7, ok_9, ok_20, ok_21, ok_30, ok_50, ok_180, ok_192, ok_200, e', n1]
      first
        | exact hg0
        | exact ⟨fun q => q.elim, fun _ => hg0⟩
        | exact ⟨fun q => absurd q n1, fun _ => hg0⟩
  clear ih hP q2 hgo
  rw [q18_5]
  repeat' first
    | with_reducible apply And.intro
    | with_reducible assumption
    | with_reducible intro _
    | refine hend ?_
    | refine hcall ?_
    | simp only [q18_7, q18_9, q18_36, q18_37, as_nil, as_i, as_r, Nat.reduceAdd, Nat.reduceLeDiff, z_eq0, z_eq1, z_or, z_em, Classical.not_not, not_false_eq_true, not_true_eq_false, true_and, and_true, false_and, and_false, and_self, true_implies, false_implies, implies_true, Option.toList_some, Option.toList_none, List.cons_append, List.nil_append, Nat.add_eq_zero_iff, a_nl_i, a_nl_r, a_nl_n, true_or, or_true, eq_self, a_isRA_22, a_isRA_24, a_isRA_32, a_isA_20, ok_4, ok_5, ok_6, ok_7, ok_9, ok_20, ok_21, ok_30, ok_50, ok_180, ok_192, ok_200]
  all_goals ((try clear hend); (try clear hcall); (try clear hT); (try clear hS); grind [ui_ap])
theorem ce_lostAsKnown (hT : cT C K L I R) {s k : Int32} (hP : P (some (.int (lsu (lkC C I k) (s * 8) 8 0 0))) (n, t, K, L, I, R)) : a_does (d + 2) 18 [a_rf (C + 1), .int s, .int k] (n, t, K, L, I, R) P := by
  have hl := le_lostAsKnown_5 (d := d) hT (s := s) (k := k) hP 0 (by decide) 0 (by decide) rfl
  rw [a_enter1 (M := a_m18) rfl (a_cat_rf (a_cat_int (a_cat_int a_cat_nil))) (show 3 ≤ 5 by decide)]
  show a_at _ (a_xm a_m18) 0 [some (a_rf (C + 1)), some (.int s), some (.int k), none, none] [] _ _
  repeat' first
    | with_reducible apply And.intro
    | with_reducible assumption
    | with_reducible intro _
    | with_reducible apply hl
    | simp only [q18_0, q18_1, q18_2, q18_3, as_nil, as_i, as_r, Nat.reduceAdd, Nat.reduceLeDiff, z_eq0, z_eq1, z_or, z_em, Classical.not_not, not_false_eq_true, not_true_eq_false, true_and, and_true, false_and, and_false, and_self, true_implies, false_implies, implies_true, Option.toList_some, Option.toList_none, List.cons_append, List.nil_append, Nat.add_eq_zero_iff, a_nl_i, a_nl_r, a_nl_n, true_or, or_true, eq_self, a_isRA_22, a_isRA_24, a_isRA_32, a_isA_20, ok_4, ok_5, ok_6, ok_7, ok_9, ok_20, ok_21, ok_30, ok_50, ok_180, ok_192, ok_200]
  all_goals ((try clear ih); (try clear hP); (try clear hl); (try clear hq); (try clear a3); grind [ui_ap])
end KU
/-! the reference: shiftOf, just so -/
section KV
variable {d n t M c : Nat} {K L : Nat → Nat} {I I0 J J0 J1 J2 : Nat → Nat → Int32} {R : Nat → Nat → Nat} {P : Option Value → AH → Prop}
def lkM (M : Nat) (I : Nat → Nat → Int32) (k h : Int32) : Int32 := lhu (I (M + 2)) (fun j => I (M + 2) j + I (M + 3) j - 1) (I (M + 4)) k h (I M 2).toNatClampNeg 0
/-- rows of TRIPS as trip makes them -/
def tpP (M : Nat) (I : Nat → Nat → Int32) : Prop := ∀ j, j < (I M 2).toNatClampNeg → (0 ≤ I (M + 2) j ∧ I (M + 2) j ≤ 1600) ∧ (1 ≤ I (M + 3) j ∧ I (M + 3) j ≤ 60)
theorem le_lostIn_26 (hS : m_S M K L R) (hR : mR M I) (hp : tpP M I) {s k b h : Int32} (hC : ∀ j, a_at d (a_xm a_m177) 96 [some (a_rf M), some (.int s), some (.int k), some (.int b), some (.int h), some (.int (lkM M I k h)), some (.int j)] [] (n, t, K, L, I, R) P) : ∀ j : Int32, j ≤ 20 → ∀ is, 0 ≤ j → j ≤ I M 2 → ((is = 1 ∧ lkM M I k h = 1) ∨ (is = 0 ∧ lhu (I (M + 2)) (fun j => I (M + 2) j + I (M + 3) j - 1) (I (M + 4)) k h ((I M 2).toNatClampNeg - j.toNatClampNeg) j.toNatClampNeg = lkM M I k h)) → a_at d (a_xm a_m177) 26 [some (a_rf M), some (.int s), some (.int k), some (.int b), some (.int h), some (.int is), some (.int j)] [] (n, t, K, L, I, R) P := by
  have g1 := rg_trips hR
  refine up_ind 20 (fun j hj ih => ?_)
  intro is h0 q1 q2
  have hend : ¬ j < I M 2 → a_at d (a_xm a_m177) 96 [some (a_rf M), some (.int s), some (.int k), some (.int b), some (.int h), some (.int is), some (.int j)] [] (n, t, K, L, I, R) P := fun e => by
    have hc := hC j
    have e5 : j = I M 2 := by clear ih hC hc q2; grind
    rcases q2 with q2 | q2
    · rw [q2.2] at hc; rw [q2.1]; exact hc
    · have q3 := q2.2
      rw [e5, Nat.sub_self] at q3
      rw [q2.1, show (0 : Int32) = lkM M I k h from q3]
      exact hc
  have hgo : j < I M 2 → ∀ w, ((w = 1 ∧ (is = 1 ∨ (I (M + 4) j.toNatClampNeg ≤ k ∧ I (M + 2) j.toNatClampNeg ≤ h ∧ h < I (M + 2) j.toNatClampNeg + I (M + 3) j.toNatClampNeg))) ∨ (w = 0 ∧ is = 0 ∧ ¬ (I (M + 4) j.toNatClampNeg ≤ k ∧ I (M + 2) j.toNatClampNeg ≤ h ∧ h < I (M + 2) j.toNatClampNeg + I (M + 3) j.toNatClampNeg))) → a_at d (a_xm a_m177) 26 [some (a_rf M), some (.int s), some (.int k), some (.int b), some (.int h), some (.int w), some (.int (j + 1))] [] (n, t, K, L, I, R) P := fun e1 w hw => by
    have ei := cl_lt h0 e1
    have e3 : (j + 1).toNatClampNeg = j.toNatClampNeg + 1 := cl_up h0 (by clear ih hC q2 hw; grind)
    have tp := hp _ ei
    have el : h < I (M + 2) j.toNatClampNeg + I (M + 3) j.toNatClampNeg ↔ h ≤ I (M + 2) j.toNatClampNeg + I (M + 3) j.toNatClampNeg - 1 := by clear ih hC q2 hw; grind
    rw [el] at hw
    refine ih (by clear ih hC q2 hw; grind) _ (by clear ih hC q2 hw; grind) (by clear ih hC q2 hw; grind) ?_
    rw [show (I M 2).toNatClampNeg - j.toNatClampNeg = ((I M 2).toNatClampNeg - (j.toNatClampNeg + 1)) + 1 by omega] at q2
    rw [e3]
    unfold lhu at q2
    rcases q2 with q2 | q2
    · rcases hw with hw | hw
      · exact Or.inl ⟨hw.1, q2.2⟩
      · rw [q2.1] at hw; exact absurd hw.2.1 (by decide)
    · rcases hw with hw | hw
      · rcases hw.2 with hw2 | hw2
        · rw [q2.1] at hw2; exact absurd hw2 (by decide)
        · rw [if_pos hw2] at q2
          exact Or.inl ⟨hw.1, q2.2.symm⟩
      · rw [if_neg hw.2.2] at q2
        exact Or.inr ⟨hw.1, q2.2⟩
  have is01 : is = 1 ∨ is = 0 := q2.elim (fun q => Or.inl q.1) (fun q => Or.inr q.1)
  clear ih hC q2
  rw [q177_26]
  simp only [q177_0, q177_1, q177_2, q177_4, q177_5, q177_6, q177_10, q177_12, q177_13, q177_14, q177_16, q177_17, q177_20, q177_21, q177_23, q177_24, q177_28, q177_29, q177_32, q177_35, q177_37, q177_40, q177_41, q177_44, q177_46, q177_47, q177_48, q177_51, q177_53, q177_54, q177_57, q177_59, q177_60, q177_63, q177_65, q177_66, q177_69, q177_71, q177_72, q177_73, q177_76, q177_78, q177_79, q177_80, q177_83, q177_84, q177_87, q177_88, q177_90, q177_93, q177_97, q177_99, q177_102, q177_103, q177_106, q177_107, q177_108, q177_109, q177_112, q177_115, q177_116, m_0 hS, m_K hS, mR_tFound hS, mK_tFound hS, mL_tFound hS, mR_tHour hS, mK_tHour hS, mL_tHour hS, mR_tMany hS, mK_tMany hS, mL_tMany hS, as_nil, as_i, as_r, Nat.reduceAdd, Nat.reduceLeDiff, z_eq0, z_eq1, z_or, z_em, Classical.not_not, not_false_eq_true, not_true_eq_false, true_and, and_true, false_and, and_false, and_self, true_implies, false_implies, implies_true, Option.toList_some, Option.toList_none, List.cons_append, List.nil_append, Nat.add_eq_zero_iff, a_nl_i, a_nl_r, a_nl_n, true_or, or_true, eq_self, ok_4, ok_5, ok_6, ok_7, ok_9, ok_10, ok_20, ok_21, ok_24, ok_30, ok_48, ok_50, ok_60, ok_80, ok_120, ok_180, ok_192, ok_200, ok_900, ok_1000, ok_84000]
  clear hp hS hR
  grind
theorem le_lostIn_8 (hS : m_S M K L R) (hR : mR M I) (hp : tpP M I) {s k V : Int32} (hs : 0 ≤ s ∧ s ≤ 199) (hP : P (some (.int V)) (n, t, K, L, I, R)) : ∀ i : Int32, i ≤ 8 → ∀ h b is j, h = 8 * s + i → 0 ≤ i → lsu (lkM M I k) (8 * s) (8 - i.toNatClampNeg) i b = V → a_at d (a_xm a_m177) 8 [some (a_rf M), some (.int s), some (.int k), some (.int b), some (.int h), is, j] [] (n, t, K, L, I, R) P := by
  refine up_ind 8 (fun i hh ih => ?_)
  intro h b is j eh h0 q2
  have hend : ¬ i < 8 → P (some (.int b)) (n, t, K, L, I, R) := fun e => by
    have : i = 8 := by clear ih hP q2; grind
    subst this
    rw [show b = V from q2]
    exact hP
  have hgo : i < 8 → ∀ v j, v = b + lkM M I k h → a_at d (a_xm a_m177) 8 [some (a_rf M), some (.int s), some (.int k), some (.int v), some (.int (h + 1)), some (.int (lkM M I k h)), some (.int j)] [] (n, t, K, L, I, R) P := fun e1 v j ev => by
    have ei : i.toNatClampNeg < 8 := show _ < (8 : Int32).toNatClampNeg from cl_lt h0 e1
    have e3 : (i + 1).toNatClampNeg = i.toNatClampNeg + 1 := cl_up h0 (by clear ih hP q2 ev; grind)
    refine ih (by clear ih hP q2 ev; grind) _ _ _ _ (by rw [eh, Int32.add_assoc]) (by clear ih hP q2 ev; grind) ?_
    rw [← q2, e3, ev, eh, show 8 - i.toNatClampNeg = (8 - (i.toNatClampNeg + 1)) + 1 by omega]
    rfl
  have hC : i < 8 → ∀ j, a_at d (a_xm a_m177) 96 [some (a_rf M), some (.int s), some (.int k), some (.int b), some (.int h), some (.int (lkM M I k h)), some (.int j)] [] (n, t, K, L, I, R) P := fun e1 j => by
    have hg := hgo e1
    rcases lhu_01 (f := I (M + 2)) (e := fun j => I (M + 2) j + I (M + 3) j - 1) (g := I (M + 4)) (k := k) (h := h) (I M 2).toNatClampNeg 0 with e | e
    · have e' : lkM M I k h = 0 := e
      have hg0 := hg b j (by rw [e', Int32.add_zero])
      rw [e'] at hg0 ⊢
      simp only [q177_96, q177_97, q177_99, q177_102, q177_103, q177_106, q177_107, q177_108, q177_109, q177_112, as_nil, as_i, as_r, Nat.reduceAdd, Nat.reduceLeDiff, z_eq0, z_eq1, z_or, z_em, Classical.not_not, not_false_eq_true, not_true_eq_false, true_and, and_true, false_and, and_false, and_self, true_implies, false_implies, implies_true, Option.toList_some, Option.toList_none, List.cons_append, List.nil_append, Nat.add_eq_zero_iff, a_nl_i, a_nl_r, a_nl_n, true_or, or_true, eq_self, ok_4, ok_5, ok_6, ok_7, ok_9, ok_10, ok_20, ok_21, ok_24, ok_30, ok_48, ok_50, ok_60, ok_80, ok_120, ok_180, ok_192, ok_200, ok_900, ok_1000, ok_84000, Int32.add_zero]
      first
        | exact hg0
        | exact ⟨fun _ => hg0, fun q => absurd rfl q⟩
    · have e' : lkM M I k h = 1 := e
      have hg0 := hg (b + 1) j (by rw [e'])
      have n1 : ¬ (1 : Int32) = 0 := by decide
      rw [e'] at hg0 ⊢
      simp only [q177_96, q177_97, q177_99, q177_102, q177_103, q177_106, q177_107, q177_108, q177_109, q177_112, as_nil, as_i, as_r, Nat.reduceAdd, Nat.reduceLeDiff, z_eq0, z_eq1, z_or, z_em, Classical.not_not, not_false_eq_true, not_true_eq_false, true_and, and_true, false_and, and_false, and_self, true_implies, false_implies, implies_true, Option.toList_some, Option.toList_none, List.cons_append, List.nil_append, Nat.add_eq_zero_iff, a_nl_i, a_nl_r, a_nl_n, true_or, or_true, eq_self, ok_4, ok_5, ok_6, ok_7, ok_9, ok_10, ok_20, ok_21, ok_24, ok_30, ok_48, ok_50, ok_60, ok_80, ok_120, ok_180, ok_192, ok_200, ok_900, ok_1000, ok_84000, n1]
      first
        | exact hg0
        | exact ⟨fun q => q.elim, fun _ => hg0⟩
        | exact ⟨fun q => absurd q n1, fun _ => hg0⟩
  have hin : i < 8 → a_at d (a_xm a_m177) 26 [some (a_rf M), some (.int s), some (.int k), some (.int b), some (.int h), some (.int 0), some (.int 0)] [] (n, t, K, L, I, R) P := fun e1 => le_lostIn_26 hS hR hp (hC e1) 0 (by decide) 0 (by decide) (rg_trips hR).1 (Or.inr ⟨rfl, rfl⟩)
  have hlt : 8 * s + 8 ≤ h ↔ ¬ i < 8 := by clear ih hP q2 hend hgo hC hin; grind
  clear ih hP q2 hgo hC
  rw [q177_8]
  simp only [q177_10, q177_12, q177_13, q177_14, q177_16, q177_17, q177_20, q177_21, q177_23, q177_24, q177_115, q177_116, as_nil, as_i, as_r, Nat.reduceAdd, Nat.reduceLeDiff, z_eq0, z_eq1, z_or, z_em, Classical.not_not, not_false_eq_true, not_true_eq_false, true_and, and_true, false_and, and_false, and_self, true_implies, false_implies, implies_true, Option.toList_some, Option.toList_none, List.cons_append, List.nil_append, Nat.add_eq_zero_iff, a_nl_i, a_nl_r, a_nl_n, true_or, or_true, eq_self, ok_4, ok_5, ok_6, ok_7, ok_9, ok_10, ok_20, ok_21, ok_24, ok_30, ok_48, ok_50, ok_60, ok_80, ok_120, ok_180, ok_192, ok_200, ok_900, ok_1000, ok_84000, hlt]
  clear hp hS hR
  grind
theorem ce_lostIn (hS : m_S M K L R) (hR : mR M I) (hp : tpP M I) {s k : Int32} (hs : 0 ≤ s ∧ s ≤ 199) (hP : P (some (.int (lsu (lkM M I k) (8 * s) 8 0 0))) (n, t, K, L, I, R)) : a_does (d + 1) 177 [a_rf M, .int s, .int k] (n, t, K, L, I, R) P := by
  have hl := le_lostIn_8 (d := d) hS hR hp hs hP 0 (by decide) (8 * s) 0 none none (by rw [Int32.add_zero]) (by decide) rfl
  rw [a_enter1 (M := a_m177) rfl (a_cat_rf (a_cat_int (a_cat_int a_cat_nil))) (show 3 ≤ 7 by decide)]
  show a_at _ (a_xm a_m177) 0 [some (a_rf M), some (.int s), some (.int k), none, none, none, none] [] _ _
  repeat' first
    | with_reducible apply And.intro
    | with_reducible assumption
    | with_reducible intro _
    | with_reducible apply hl
    | simp only [q177_0, q177_1, q177_2, q177_4, q177_5, q177_6, as_nil, as_i, as_r, Nat.reduceAdd, Nat.reduceLeDiff, z_eq0, z_eq1, z_or, z_em, Classical.not_not, not_false_eq_true, not_true_eq_false, true_and, and_true, false_and, and_false, and_self, true_implies, false_implies, implies_true, Option.toList_some, Option.toList_none, List.cons_append, List.nil_append, Nat.add_eq_zero_iff, a_nl_i, a_nl_r, a_nl_n, true_or, or_true, eq_self, ok_4, ok_5, ok_6, ok_7, ok_9, ok_10, ok_20, ok_21, ok_24, ok_30, ok_48, ok_50, ok_60, ok_80, ok_120, ok_180, ok_192, ok_200, ok_900, ok_1000, ok_84000]
  all_goals grind [ui_ap]
end KV

/-! the makings -/
section KM
variable {d n t C c n0 n' n'' t' : Nat} {K L K0 L0 K' L' K'' L'' : Nat → Nat} {I I0 J J0 J1 J2 : Nat → Nat → Int32} {R R0 R' R'' : Nat → Nat → Nat} {P : Option Value → AH → Prop}
theorem n_z (k : Nat) : (n = n + k) = (k = 0) := by simp
theorem cn_n4 : Int32.toNatClampNeg 4 = 4 := rfl
theorem ng_n4 : ((4 : Int32) < 0) = False := eq_false (by decide)
theorem cn_n5 : Int32.toNatClampNeg 5 = 5 := rfl
theorem ng_n5 : ((5 : Int32) < 0) = False := eq_false (by decide)
theorem cn_n6 : Int32.toNatClampNeg 6 = 6 := rfl
theorem ng_n6 : ((6 : Int32) < 0) = False := eq_false (by decide)
theorem cn_n7 : Int32.toNatClampNeg 7 = 7 := rfl
theorem ng_n7 : ((7 : Int32) < 0) = False := eq_false (by decide)
theorem cn_n9 : Int32.toNatClampNeg 9 = 9 := rfl
theorem ng_n9 : ((9 : Int32) < 0) = False := eq_false (by decide)
theorem cn_n20 : Int32.toNatClampNeg 20 = 20 := rfl
theorem ng_n20 : ((20 : Int32) < 0) = False := eq_false (by decide)
theorem cn_n21 : Int32.toNatClampNeg 21 = 21 := rfl
theorem ng_n21 : ((21 : Int32) < 0) = False := eq_false (by decide)
theorem cn_n30 : Int32.toNatClampNeg 30 = 30 := rfl
theorem ng_n30 : ((30 : Int32) < 0) = False := eq_false (by decide)
theorem cn_n50 : Int32.toNatClampNeg 50 = 50 := rfl
theorem ng_n50 : ((50 : Int32) < 0) = False := eq_false (by decide)
theorem cn_n180 : Int32.toNatClampNeg 180 = 180 := rfl
theorem ng_n180 : ((180 : Int32) < 0) = False := eq_false (by decide)
theorem cn_n192 : Int32.toNatClampNeg 192 = 192 := rfl
theorem ng_n192 : ((192 : Int32) < 0) = False := eq_false (by decide)
theorem cn_n200 : Int32.toNatClampNeg 200 = 200 := rfl
theorem ng_n200 : ((200 : Int32) < 0) = False := eq_false (by decide)
theorem ki_Beam (hn : ∀ x, n + 1 ≤ x → K x = 0) (hP : ∀ K' L' J' R', (∀ x, x < n + 1 → K' x = K x) → (∀ x, x < n + 1 → L' x = L x) → (∀ x j, x < n + 1 → J' x j = I x j) → (∀ x j, x < n + 1 → R' x j = R x j) → (∀ x, n + 7 ≤ x → K' x = 0) → K' (n + 1) = 2 → K' (n + 2) = 20 → L' (n + 2) = 200 → R' (n + 1) 0 = n + 2 → (∀ j, R' (n + 2) j = 0) → (∀ j, J' (n + 2) j = 0) → K' (n + 3) = 20 → L' (n + 3) = 200 → R' (n + 1) 1 = n + 3 → (∀ j, R' (n + 3) j = 0) → (∀ j, J' (n + 3) j = 0) → K' (n + 4) = 20 → L' (n + 4) = 20 → R' (n + 1) 2 = n + 4 → (∀ j, R' (n + 4) j = 0) → (∀ j, J' (n + 4) j = 0) → K' (n + 5) = 20 → L' (n + 5) = 20 → R' (n + 1) 3 = n + 5 → (∀ j, R' (n + 5) j = 0) → (∀ j, J' (n + 5) j = 0) → K' (n + 6) = 20 → L' (n + 6) = 20 → R' (n + 1) 4 = n + 6 → (∀ j, R' (n + 6) j = 0) → (∀ j, J' (n + 6) j = 0) → J' (n + 1) 5 = 0 → J' (n + 1) 6 = 0 → P none (n + 6 + 1, t + 460, K', L', J', R')) : a_does (d + 1) 1 [a_rf (n + 1)] (n + 1 + 1, t, a_up K (n + 1) 2, a_up L (n + 1) 7, a_zi I (n + 1), a_zr R (n + 1)) P := by
  have f0 : (n + 1 = 0) = False := eq_false (by omega)
  rw [a_enter1 (M := a_m1) rfl (a_cat_rf a_cat_nil) (show 1 ≤ 1 by decide)]
  show a_at _ (a_xm a_m1) 0 [some (a_rf (n+1))] [] _ _
  simp only [q1_0, as_nil, as_i, as_r, Nat.reduceAdd, Nat.reduceLeDiff, z_eq0, z_eq1, z_or, z_em, Classical.not_not, not_false_eq_true, not_true_eq_false, true_and, and_true, false_and, and_false, and_self, true_implies, false_implies, implies_true, Option.toList_some, Option.toList_none, List.cons_append, List.nil_append, Nat.add_eq_zero_iff, a_nl_i, a_nl_r, a_nl_n, true_or, or_true, eq_self, a_isRA_22, a_isRA_24, a_isRA_32, a_isA_20]
  rw [q1_1 (show ¬ n + 1 = 0 by omega) (show a_sum [] ≤ 8 by decide)]
  simp only [q1_4, q1_5, q1_8, q1_10, q1_13, q1_14, q1_17, q1_19, q1_22, q1_23, q1_25, q1_27, q1_30, q1_31, q1_33, q1_35, q1_38, q1_39, q1_41, q1_43, q1_46, as_nil, as_i, as_r, Nat.reduceAdd, Nat.reduceLeDiff, z_eq0, z_eq1, z_or, z_em, Classical.not_not, not_false_eq_true, not_true_eq_false, true_and, and_true, false_and, and_false, and_self, true_implies, false_implies, implies_true, Option.toList_some, Option.toList_none, List.cons_append, List.nil_append, Nat.add_eq_zero_iff, a_nl_i, a_nl_r, a_nl_n, true_or, or_true, eq_self, a_isRA_22, a_isRA_24, a_isRA_32, a_isA_20, n_z, up_ap, up_eq, Nat.add_left_cancel_iff, Nat.add_right_cancel_iff, Nat.reduceEqDiff, if_true, if_false, n_ne, f0, cn_n4, ng_n4, cn_n5, ng_n5, cn_n6, ng_n6, cn_n7, ng_n7, cn_n9, ng_n9, cn_n20, ng_n20, cn_n21, ng_n21, cn_n30, ng_n30, cn_n50, ng_n50, cn_n180, ng_n180, cn_n192, ng_n192, cn_n200, ng_n200]
  have hne : ∀ x, x < n + 1 → (¬ x = n + 1) ∧ (¬ x = n + 2) ∧ (¬ x = n + 3) ∧ (¬ x = n + 4) ∧ (¬ x = n + 5) ∧ (¬ x = n + 6) := fun x hx => by omega
  have fK : ∀ x, x < n + 1 → a_up (a_up (a_up (a_up (a_up (a_up K (n + 1) 2) (n + 2) 20) (n + 2 + 1) 20) (n + 3 + 1) 20) (n + 4 + 1) 20) (n + 5 + 1) 20 x = K x := fun x hx => by
    obtain ⟨e1, e2, e3, e4, e5, e6⟩ := hne x hx
    simp [up_ap, e1, e2, e3, e4, e5, e6]
  have fL : ∀ x, x < n + 1 → a_up (a_up (a_up (a_up (a_up (a_up L (n + 1) 7) (n + 1 + 1) 200) (n + 2 + 1) 200) (n + 3 + 1) 20) (n + 4 + 1) 20) (n + 5 + 1) 20 x = L x := fun x hx => by
    obtain ⟨e1, e2, e3, e4, e5, e6⟩ := hne x hx
    simp [up_ap, e1, e2, e3, e4, e5, e6]
  have fI : ∀ x j, x < n + 1 → a_zi (a_zi (a_zi (a_zi (a_zi (a_zi I (n + 1)) (n + 1 + 1)) (n + 2 + 1)) (n + 3 + 1)) (n + 4 + 1)) (n + 5 + 1) x j = I x j := fun x j hx => by
    obtain ⟨e1, e2, e3, e4, e5, e6⟩ := hne x hx
    simp [ui_ap, zi_ap, e1, e2, e3, e4, e5, e6]
  have fR : ∀ x j, x < n + 1 → a_ur (a_zr (a_ur (a_zr (a_ur (a_zr (a_ur (a_zr (a_ur (a_zr (a_zr R (n + 1)) (n + 1 + 1)) (n + 1) 0 (n + 1 + 1)) (n + 2 + 1)) (n + 1) 1 (n + 2 + 1)) (n + 3 + 1)) (n + 1) 2 (n + 3 + 1)) (n + 4 + 1)) (n + 1) 3 (n + 4 + 1)) (n + 5 + 1)) (n + 1) 4 (n + 5 + 1) x j = R x j := fun x j hx => by
    obtain ⟨e1, e2, e3, e4, e5, e6⟩ := hne x hx
    simp [ur_ap, zr_ap, e1, e2, e3, e4, e5, e6]
  have fz : ∀ x, n + 7 ≤ x → a_up (a_up (a_up (a_up (a_up (a_up K (n + 1) 2) (n + 1 + 1) 20) (n + 2 + 1) 20) (n + 3 + 1) 20) (n + 4 + 1) 20) (n + 5 + 1) 20 x = 0 := fun x hx => by
    simp only [up_ap]
    rw [if_neg (by omega), if_neg (by omega), if_neg (by omega), if_neg (by omega), if_neg (by omega), if_neg (by omega)]
    exact hn x (by omega)
  have hf := hP _ _ _ _ fK fL fI fR fz (by simp [up_ap, ur_ap, zr_ap, zi_ap, ui_ap]) (by simp [up_ap, ur_ap, zr_ap, zi_ap, ui_ap]) (by simp [up_ap, ur_ap, zr_ap, zi_ap, ui_ap]) (by simp [up_ap, ur_ap, zr_ap, zi_ap, ui_ap]) (by simp [up_ap, ur_ap, zr_ap, zi_ap, ui_ap]) (by simp [up_ap, ur_ap, zr_ap, zi_ap, ui_ap]) (by simp [up_ap, ur_ap, zr_ap, zi_ap, ui_ap]) (by simp [up_ap, ur_ap, zr_ap, zi_ap, ui_ap]) (by simp [up_ap, ur_ap, zr_ap, zi_ap, ui_ap]) (by simp [up_ap, ur_ap, zr_ap, zi_ap, ui_ap]) (by simp [up_ap, ur_ap, zr_ap, zi_ap, ui_ap]) (by simp [up_ap, ur_ap, zr_ap, zi_ap, ui_ap]) (by simp [up_ap, ur_ap, zr_ap, zi_ap, ui_ap]) (by simp [up_ap, ur_ap, zr_ap, zi_ap, ui_ap]) (by simp [up_ap, ur_ap, zr_ap, zi_ap, ui_ap]) (by simp [up_ap, ur_ap, zr_ap, zi_ap, ui_ap]) (by simp [up_ap, ur_ap, zr_ap, zi_ap, ui_ap]) (by simp [up_ap, ur_ap, zr_ap, zi_ap, ui_ap]) (by simp [up_ap, ur_ap, zr_ap, zi_ap, ui_ap]) (by simp [up_ap, ur_ap, zr_ap, zi_ap, ui_ap]) (by simp [up_ap, ur_ap, zr_ap, zi_ap, ui_ap]) (by simp [up_ap, ur_ap, zr_ap, zi_ap, ui_ap]) (by simp [up_ap, ur_ap, zr_ap, zi_ap, ui_ap]) (by simp [up_ap, ur_ap, zr_ap, zi_ap, ui_ap]) (by simp [up_ap, ur_ap, zr_ap, zi_ap, ui_ap]) (by simp [up_ap, ur_ap, zr_ap, zi_ap, ui_ap]) (by simp [up_ap, ur_ap, zr_ap, zi_ap, ui_ap]) (by simp [up_ap, ur_ap, zr_ap, zi_ap, ui_ap])
  repeat' first
    | with_reducible apply And.intro
    | exact hf
    | (simp; done)
theorem ki_Rules (hn : ∀ x, n + 1 ≤ x → K x = 0) (hP : ∀ K' L' J' R', (∀ x, x < n + 1 → K' x = K x) → (∀ x, x < n + 1 → L' x = L x) → (∀ x j, x < n + 1 → J' x j = I x j) → (∀ x j, x < n + 1 → R' x j = R x j) → (∀ x, n + 5 ≤ x → K' x = 0) → K' (n + 1) = 9 → K' (n + 2) = 32 → L' (n + 2) = 20 → R' (n + 1) 0 = n + 2 → (∀ j, R' (n + 2) j = 0) → (∀ j, J' (n + 2) j = 0) → K' (n + 3) = 20 → L' (n + 3) = 9 → R' (n + 1) 1 = n + 3 → (∀ j, R' (n + 3) j = 0) → (∀ j, J' (n + 3) j = 0) → K' (n + 4) = 20 → L' (n + 4) = 50 → R' (n + 1) 2 = n + 4 → (∀ j, R' (n + 4) j = 0) → (∀ j, J' (n + 4) j = 0) → J' (n + 1) 3 = 0 → P none (n + 4 + 1, t + 79, K', L', J', R')) : a_does (d + 1) 2 [a_rf (n + 1)] (n + 1 + 1, t, a_up K (n + 1) 9, a_up L (n + 1) 4, a_zi I (n + 1), a_zr R (n + 1)) P := by
  have f0 : (n + 1 = 0) = False := eq_false (by omega)
  rw [a_enter1 (M := a_m2) rfl (a_cat_rf a_cat_nil) (show 1 ≤ 1 by decide)]
  show a_at _ (a_xm a_m2) 0 [some (a_rf (n+1))] [] _ _
  simp only [q2_0, as_nil, as_i, as_r, Nat.reduceAdd, Nat.reduceLeDiff, z_eq0, z_eq1, z_or, z_em, Classical.not_not, not_false_eq_true, not_true_eq_false, true_and, and_true, false_and, and_false, and_self, true_implies, false_implies, implies_true, Option.toList_some, Option.toList_none, List.cons_append, List.nil_append, Nat.add_eq_zero_iff, a_nl_i, a_nl_r, a_nl_n, true_or, or_true, eq_self, a_isRA_22, a_isRA_24, a_isRA_32, a_isA_20]
  rw [q2_1 (show ¬ n + 1 = 0 by omega) (show a_sum [] ≤ 8 by decide)]
  simp only [q2_4, q2_5, q2_7, q2_10, q2_13, q2_14, q2_16, q2_18, q2_21, q2_22, q2_24, q2_26, q2_29, as_nil, as_i, as_r, Nat.reduceAdd, Nat.reduceLeDiff, z_eq0, z_eq1, z_or, z_em, Classical.not_not, not_false_eq_true, not_true_eq_false, true_and, and_true, false_and, and_false, and_self, true_implies, false_implies, implies_true, Option.toList_some, Option.toList_none, List.cons_append, List.nil_append, Nat.add_eq_zero_iff, a_nl_i, a_nl_r, a_nl_n, true_or, or_true, eq_self, a_isRA_22, a_isRA_24, a_isRA_32, a_isA_20, n_z, up_ap, up_eq, Nat.add_left_cancel_iff, Nat.add_right_cancel_iff, Nat.reduceEqDiff, if_true, if_false, n_ne, f0, cn_n4, ng_n4, cn_n5, ng_n5, cn_n6, ng_n6, cn_n7, ng_n7, cn_n9, ng_n9, cn_n20, ng_n20, cn_n21, ng_n21, cn_n30, ng_n30, cn_n50, ng_n50, cn_n180, ng_n180, cn_n192, ng_n192, cn_n200, ng_n200]
  have hne : ∀ x, x < n + 1 → (¬ x = n + 1) ∧ (¬ x = n + 2) ∧ (¬ x = n + 3) ∧ (¬ x = n + 4) := fun x hx => by omega
  have fK : ∀ x, x < n + 1 → a_up (a_up (a_up (a_up K (n + 1) 9) (n + 2) 32) (n + 2 + 1) 20) (n + 3 + 1) 20 x = K x := fun x hx => by
    obtain ⟨e1, e2, e3, e4⟩ := hne x hx
    simp [up_ap, e1, e2, e3, e4]
  have fL : ∀ x, x < n + 1 → a_up (a_up (a_up (a_up L (n + 1) 4) (n + 1 + 1) 20) (n + 2 + 1) 9) (n + 3 + 1) 50 x = L x := fun x hx => by
    obtain ⟨e1, e2, e3, e4⟩ := hne x hx
    simp [up_ap, e1, e2, e3, e4]
  have fI : ∀ x j, x < n + 1 → a_zi (a_zi (a_zi (a_zi I (n + 1)) (n + 1 + 1)) (n + 2 + 1)) (n + 3 + 1) x j = I x j := fun x j hx => by
    obtain ⟨e1, e2, e3, e4⟩ := hne x hx
    simp [ui_ap, zi_ap, e1, e2, e3, e4]
  have fR : ∀ x j, x < n + 1 → a_ur (a_zr (a_ur (a_zr (a_ur (a_zr (a_zr R (n + 1)) (n + 1 + 1)) (n + 1) 0 (n + 1 + 1)) (n + 2 + 1)) (n + 1) 1 (n + 2 + 1)) (n + 3 + 1)) (n + 1) 2 (n + 3 + 1) x j = R x j := fun x j hx => by
    obtain ⟨e1, e2, e3, e4⟩ := hne x hx
    simp [ur_ap, zr_ap, e1, e2, e3, e4]
  have fz : ∀ x, n + 5 ≤ x → a_up (a_up (a_up (a_up K (n + 1) 9) (n + 1 + 1) 32) (n + 2 + 1) 20) (n + 3 + 1) 20 x = 0 := fun x hx => by
    simp only [up_ap]
    rw [if_neg (by omega), if_neg (by omega), if_neg (by omega), if_neg (by omega)]
    exact hn x (by omega)
  have hf := hP _ _ _ _ fK fL fI fR fz (by simp [up_ap, ur_ap, zr_ap, zi_ap, ui_ap]) (by simp [up_ap, ur_ap, zr_ap, zi_ap, ui_ap]) (by simp [up_ap, ur_ap, zr_ap, zi_ap, ui_ap]) (by simp [up_ap, ur_ap, zr_ap, zi_ap, ui_ap]) (by simp [up_ap, ur_ap, zr_ap, zi_ap, ui_ap]) (by simp [up_ap, ur_ap, zr_ap, zi_ap, ui_ap]) (by simp [up_ap, ur_ap, zr_ap, zi_ap, ui_ap]) (by simp [up_ap, ur_ap, zr_ap, zi_ap, ui_ap]) (by simp [up_ap, ur_ap, zr_ap, zi_ap, ui_ap]) (by simp [up_ap, ur_ap, zr_ap, zi_ap, ui_ap]) (by simp [up_ap, ur_ap, zr_ap, zi_ap, ui_ap]) (by simp [up_ap, ur_ap, zr_ap, zi_ap, ui_ap]) (by simp [up_ap, ur_ap, zr_ap, zi_ap, ui_ap]) (by simp [up_ap, ur_ap, zr_ap, zi_ap, ui_ap]) (by simp [up_ap, ur_ap, zr_ap, zi_ap, ui_ap]) (by simp [up_ap, ur_ap, zr_ap, zi_ap, ui_ap]) (by simp [up_ap, ur_ap, zr_ap, zi_ap, ui_ap])
  repeat' first
    | with_reducible apply And.intro
    | exact hf
    | (simp; done)
theorem ki_Tape (hn : ∀ x, n + 1 ≤ x → K x = 0) (hP : ∀ K' L' J' R', (∀ x, x < n + 1 → K' x = K x) → (∀ x, x < n + 1 → L' x = L x) → (∀ x j, x < n + 1 → J' x j = I x j) → (∀ x j, x < n + 1 → R' x j = R x j) → (∀ x, n + 4 ≤ x → K' x = 0) → K' (n + 1) = 10 → K' (n + 2) = 20 → L' (n + 2) = 50 → R' (n + 1) 0 = n + 2 → (∀ j, R' (n + 2) j = 0) → (∀ j, J' (n + 2) j = 0) → K' (n + 3) = 20 → L' (n + 3) = 50 → R' (n + 1) 1 = n + 3 → (∀ j, R' (n + 3) j = 0) → (∀ j, J' (n + 3) j = 0) → J' (n + 1) 2 = 0 → J' (n + 1) 3 = 0 → J' (n + 1) 4 = 0 → P none (n + 3 + 1, t + 100, K', L', J', R')) : a_does (d + 1) 3 [a_rf (n + 1)] (n + 1 + 1, t, a_up K (n + 1) 10, a_up L (n + 1) 5, a_zi I (n + 1), a_zr R (n + 1)) P := by
  have f0 : (n + 1 = 0) = False := eq_false (by omega)
  rw [a_enter1 (M := a_m3) rfl (a_cat_rf a_cat_nil) (show 1 ≤ 1 by decide)]
  show a_at _ (a_xm a_m3) 0 [some (a_rf (n+1))] [] _ _
  simp only [q3_0, as_nil, as_i, as_r, Nat.reduceAdd, Nat.reduceLeDiff, z_eq0, z_eq1, z_or, z_em, Classical.not_not, not_false_eq_true, not_true_eq_false, true_and, and_true, false_and, and_false, and_self, true_implies, false_implies, implies_true, Option.toList_some, Option.toList_none, List.cons_append, List.nil_append, Nat.add_eq_zero_iff, a_nl_i, a_nl_r, a_nl_n, true_or, or_true, eq_self, a_isRA_22, a_isRA_24, a_isRA_32, a_isA_20]
  rw [q3_1 (show ¬ n + 1 = 0 by omega) (show a_sum [] ≤ 8 by decide)]
  simp only [q3_4, q3_5, q3_7, q3_9, q3_12, q3_13, q3_15, q3_17, q3_20, as_nil, as_i, as_r, Nat.reduceAdd, Nat.reduceLeDiff, z_eq0, z_eq1, z_or, z_em, Classical.not_not, not_false_eq_true, not_true_eq_false, true_and, and_true, false_and, and_false, and_self, true_implies, false_implies, implies_true, Option.toList_some, Option.toList_none, List.cons_append, List.nil_append, Nat.add_eq_zero_iff, a_nl_i, a_nl_r, a_nl_n, true_or, or_true, eq_self, a_isRA_22, a_isRA_24, a_isRA_32, a_isA_20, n_z, up_ap, up_eq, Nat.add_left_cancel_iff, Nat.add_right_cancel_iff, Nat.reduceEqDiff, if_true, if_false, n_ne, f0, cn_n4, ng_n4, cn_n5, ng_n5, cn_n6, ng_n6, cn_n7, ng_n7, cn_n9, ng_n9, cn_n20, ng_n20, cn_n21, ng_n21, cn_n30, ng_n30, cn_n50, ng_n50, cn_n180, ng_n180, cn_n192, ng_n192, cn_n200, ng_n200]
  have hne : ∀ x, x < n + 1 → (¬ x = n + 1) ∧ (¬ x = n + 2) ∧ (¬ x = n + 3) := fun x hx => by omega
  have fK : ∀ x, x < n + 1 → a_up (a_up (a_up K (n + 1) 10) (n + 2) 20) (n + 2 + 1) 20 x = K x := fun x hx => by
    obtain ⟨e1, e2, e3⟩ := hne x hx
    simp [up_ap, e1, e2, e3]
  have fL : ∀ x, x < n + 1 → a_up (a_up (a_up L (n + 1) 5) (n + 1 + 1) 50) (n + 2 + 1) 50 x = L x := fun x hx => by
    obtain ⟨e1, e2, e3⟩ := hne x hx
    simp [up_ap, e1, e2, e3]
  have fI : ∀ x j, x < n + 1 → a_zi (a_zi (a_zi I (n + 1)) (n + 1 + 1)) (n + 2 + 1) x j = I x j := fun x j hx => by
    obtain ⟨e1, e2, e3⟩ := hne x hx
    simp [ui_ap, zi_ap, e1, e2, e3]
  have fR : ∀ x j, x < n + 1 → a_ur (a_zr (a_ur (a_zr (a_zr R (n + 1)) (n + 1 + 1)) (n + 1) 0 (n + 1 + 1)) (n + 2 + 1)) (n + 1) 1 (n + 2 + 1) x j = R x j := fun x j hx => by
    obtain ⟨e1, e2, e3⟩ := hne x hx
    simp [ur_ap, zr_ap, e1, e2, e3]
  have fz : ∀ x, n + 4 ≤ x → a_up (a_up (a_up K (n + 1) 10) (n + 1 + 1) 20) (n + 2 + 1) 20 x = 0 := fun x hx => by
    simp only [up_ap]
    rw [if_neg (by omega), if_neg (by omega), if_neg (by omega)]
    exact hn x (by omega)
  have hf := hP _ _ _ _ fK fL fI fR fz (by simp [up_ap, ur_ap, zr_ap, zi_ap, ui_ap]) (by simp [up_ap, ur_ap, zr_ap, zi_ap, ui_ap]) (by simp [up_ap, ur_ap, zr_ap, zi_ap, ui_ap]) (by simp [up_ap, ur_ap, zr_ap, zi_ap, ui_ap]) (by simp [up_ap, ur_ap, zr_ap, zi_ap, ui_ap]) (by simp [up_ap, ur_ap, zr_ap, zi_ap, ui_ap]) (by simp [up_ap, ur_ap, zr_ap, zi_ap, ui_ap]) (by simp [up_ap, ur_ap, zr_ap, zi_ap, ui_ap]) (by simp [up_ap, ur_ap, zr_ap, zi_ap, ui_ap]) (by simp [up_ap, ur_ap, zr_ap, zi_ap, ui_ap]) (by simp [up_ap, ur_ap, zr_ap, zi_ap, ui_ap]) (by simp [up_ap, ur_ap, zr_ap, zi_ap, ui_ap]) (by simp [up_ap, ur_ap, zr_ap, zi_ap, ui_ap]) (by simp [up_ap, ur_ap, zr_ap, zi_ap, ui_ap])
  repeat' first
    | with_reducible apply And.intro
    | exact hf
    | (simp; done)
theorem ki_Hall (hn : ∀ x, n + 1 ≤ x → K x = 0) {p0 p1 : Nat} (hP : ∀ K' L' J' R', (∀ x, x < n + 1 → K' x = K x) → (∀ x, x < n + 1 → L' x = L x) → (∀ x j, x < n + 1 → J' x j = I x j) → (∀ x j, x < n + 1 → R' x j = R x j) → (∀ x, n + 4 ≤ x → K' x = 0) → K' (n + 1) = 6 → K' (n + 2) = 22 → L' (n + 2) = 30 → R' (n + 1) 2 = n + 2 → (∀ j, R' (n + 2) j = 0) → (∀ j, J' (n + 2) j = 0) → K' (n + 3) = 24 → L' (n + 3) = 6 → R' (n + 1) 3 = n + 3 → (∀ j, R' (n + 3) j = 0) → (∀ j, J' (n + 3) j = 0) → R' (n + 1) 0 = p0 → R' (n + 1) 1 = p1 → J' (n + 1) 4 = 0 → J' (n + 1) 5 = 0 → J' (n + 1) 6 = 1 → P none (n + 3 + 1, t + 36, K', L', J', R')) : a_does (d + 1) 4 [a_rf (n + 1), a_rf p0, a_rf p1] (n + 1 + 1, t, a_up K (n + 1) 6, a_up L (n + 1) 7, a_zi I (n + 1), a_zr R (n + 1)) P := by
  have f0 : (n + 1 = 0) = False := eq_false (by omega)
  rw [a_enter1 (M := a_m4) rfl (a_cat_rf (a_cat_rf (a_cat_rf a_cat_nil))) (show 3 ≤ 3 by decide)]
  show a_at _ (a_xm a_m4) 0 [some (a_rf (n+1)), some (a_rf p0), some (a_rf p1)] [] _ _
  simp only [q4_0, as_nil, as_i, as_r, Nat.reduceAdd, Nat.reduceLeDiff, z_eq0, z_eq1, z_or, z_em, Classical.not_not, not_false_eq_true, not_true_eq_false, true_and, and_true, false_and, and_false, and_self, true_implies, false_implies, implies_true, Option.toList_some, Option.toList_none, List.cons_append, List.nil_append, Nat.add_eq_zero_iff, a_nl_i, a_nl_r, a_nl_n, true_or, or_true, eq_self, a_isRA_22, a_isRA_24, a_isRA_32, a_isA_20]
  rw [q4_1 (show ¬ n + 1 = 0 by omega) (show a_sum [] ≤ 8 by decide)]
  simp only [q4_4, q4_5, q4_6, q4_9, q4_10, q4_11, q4_14, q4_15, q4_17, q4_20, q4_23, q4_24, q4_26, q4_29, q4_32, q4_33, q4_34, q4_37, as_nil, as_i, as_r, Nat.reduceAdd, Nat.reduceLeDiff, z_eq0, z_eq1, z_or, z_em, Classical.not_not, not_false_eq_true, not_true_eq_false, true_and, and_true, false_and, and_false, and_self, true_implies, false_implies, implies_true, Option.toList_some, Option.toList_none, List.cons_append, List.nil_append, Nat.add_eq_zero_iff, a_nl_i, a_nl_r, a_nl_n, true_or, or_true, eq_self, a_isRA_22, a_isRA_24, a_isRA_32, a_isA_20, n_z, up_ap, up_eq, Nat.add_left_cancel_iff, Nat.add_right_cancel_iff, Nat.reduceEqDiff, if_true, if_false, n_ne, f0, cn_n4, ng_n4, cn_n5, ng_n5, cn_n6, ng_n6, cn_n7, ng_n7, cn_n9, ng_n9, cn_n20, ng_n20, cn_n21, ng_n21, cn_n30, ng_n30, cn_n50, ng_n50, cn_n180, ng_n180, cn_n192, ng_n192, cn_n200, ng_n200]
  have hne : ∀ x, x < n + 1 → (¬ x = n + 1) ∧ (¬ x = n + 2) ∧ (¬ x = n + 3) := fun x hx => by omega
  have fK : ∀ x, x < n + 1 → a_up (a_up (a_up K (n + 1) 6) (n + 2) 22) (n + 2 + 1) 24 x = K x := fun x hx => by
    obtain ⟨e1, e2, e3⟩ := hne x hx
    simp [up_ap, e1, e2, e3]
  have fL : ∀ x, x < n + 1 → a_up (a_up (a_up L (n + 1) 7) (n + 1 + 1) 30) (n + 2 + 1) 6 x = L x := fun x hx => by
    obtain ⟨e1, e2, e3⟩ := hne x hx
    simp [up_ap, e1, e2, e3]
  have fI : ∀ x j, x < n + 1 → a_ui (a_zi (a_zi (a_zi I (n + 1)) (n + 1 + 1)) (n + 2 + 1)) (n + 1) 6 1 x j = I x j := fun x j hx => by
    obtain ⟨e1, e2, e3⟩ := hne x hx
    simp [ui_ap, zi_ap, e1, e2, e3]
  have fR : ∀ x j, x < n + 1 → a_ur (a_zr (a_ur (a_zr (a_ur (a_ur (a_zr R (n + 1)) (n + 1) 0 p0) (n + 1) 1 p1) (n + 1 + 1)) (n + 1) 2 (n + 1 + 1)) (n + 2 + 1)) (n + 1) 3 (n + 2 + 1) x j = R x j := fun x j hx => by
    obtain ⟨e1, e2, e3⟩ := hne x hx
    simp [ur_ap, zr_ap, e1, e2, e3]
  have fz : ∀ x, n + 4 ≤ x → a_up (a_up (a_up K (n + 1) 6) (n + 1 + 1) 22) (n + 2 + 1) 24 x = 0 := fun x hx => by
    simp only [up_ap]
    rw [if_neg (by omega), if_neg (by omega), if_neg (by omega)]
    exact hn x (by omega)
  have hf := hP _ _ _ _ fK fL fI fR fz (by simp [up_ap, ur_ap, zr_ap, zi_ap, ui_ap]) (by simp [up_ap, ur_ap, zr_ap, zi_ap, ui_ap]) (by simp [up_ap, ur_ap, zr_ap, zi_ap, ui_ap]) (by simp [up_ap, ur_ap, zr_ap, zi_ap, ui_ap]) (by simp [up_ap, ur_ap, zr_ap, zi_ap, ui_ap]) (by simp [up_ap, ur_ap, zr_ap, zi_ap, ui_ap]) (by simp [up_ap, ur_ap, zr_ap, zi_ap, ui_ap]) (by simp [up_ap, ur_ap, zr_ap, zi_ap, ui_ap]) (by simp [up_ap, ur_ap, zr_ap, zi_ap, ui_ap]) (by simp [up_ap, ur_ap, zr_ap, zi_ap, ui_ap]) (by simp [up_ap, ur_ap, zr_ap, zi_ap, ui_ap]) (by simp [up_ap, ur_ap, zr_ap, zi_ap, ui_ap]) (by simp [up_ap, ur_ap, zr_ap, zi_ap, ui_ap]) (by simp [up_ap, ur_ap, zr_ap, zi_ap, ui_ap]) (by simp [up_ap, ur_ap, zr_ap, zi_ap, ui_ap]) (by simp [up_ap, ur_ap, zr_ap, zi_ap, ui_ap])
  repeat' first
    | with_reducible apply And.intro
    | exact hf
    | (simp; done)
theorem ki_Planner (hn : ∀ x, n + 1 ≤ x → K x = 0) {p0 p1 : Nat} (hP : ∀ K' L' J' R', (∀ x, x < n + 1 → K' x = K x) → (∀ x, x < n + 1 → L' x = L x) → (∀ x j, x < n + 1 → J' x j = I x j) → (∀ x j, x < n + 1 → R' x j = R x j) → (∀ x, n + 6 ≤ x → K' x = 0) → K' (n + 1) = 8 → K' (n + 2) = 22 → L' (n + 2) = 30 → R' (n + 1) 2 = n + 2 → (∀ j, R' (n + 2) j = 0) → (∀ j, J' (n + 2) j = 0) → K' (n + 3) = 20 → L' (n + 3) = 30 → R' (n + 1) 3 = n + 3 → (∀ j, R' (n + 3) j = 0) → (∀ j, J' (n + 3) j = 0) → K' (n + 4) = 20 → L' (n + 4) = 30 → R' (n + 1) 4 = n + 4 → (∀ j, R' (n + 4) j = 0) → (∀ j, J' (n + 4) j = 0) → K' (n + 5) = 20 → L' (n + 5) = 30 → R' (n + 1) 5 = n + 5 → (∀ j, R' (n + 5) j = 0) → (∀ j, J' (n + 5) j = 0) → R' (n + 1) 0 = p0 → R' (n + 1) 1 = p1 → J' (n + 1) 6 = 0 → J' (n + 1) 7 = 0 → J' (n + 1) 8 = 100 → P none (n + 5 + 1, t + 120, K', L', J', R')) : a_does (d + 1) 6 [a_rf (n + 1), a_rf p0, a_rf p1] (n + 1 + 1, t, a_up K (n + 1) 8, a_up L (n + 1) 9, a_zi I (n + 1), a_zr R (n + 1)) P := by
  have f0 : (n + 1 = 0) = False := eq_false (by omega)
  rw [a_enter1 (M := a_m6) rfl (a_cat_rf (a_cat_rf (a_cat_rf a_cat_nil))) (show 3 ≤ 3 by decide)]
  show a_at _ (a_xm a_m6) 0 [some (a_rf (n+1)), some (a_rf p0), some (a_rf p1)] [] _ _
  simp only [q6_0, as_nil, as_i, as_r, Nat.reduceAdd, Nat.reduceLeDiff, z_eq0, z_eq1, z_or, z_em, Classical.not_not, not_false_eq_true, not_true_eq_false, true_and, and_true, false_and, and_false, and_self, true_implies, false_implies, implies_true, Option.toList_some, Option.toList_none, List.cons_append, List.nil_append, Nat.add_eq_zero_iff, a_nl_i, a_nl_r, a_nl_n, true_or, or_true, eq_self, a_isRA_22, a_isRA_24, a_isRA_32, a_isA_20]
  rw [q6_1 (show ¬ n + 1 = 0 by omega) (show a_sum [] ≤ 8 by decide)]
  simp only [q6_4, q6_5, q6_6, q6_9, q6_10, q6_11, q6_14, q6_15, q6_17, q6_20, q6_23, q6_24, q6_26, q6_28, q6_31, q6_32, q6_34, q6_36, q6_39, q6_40, q6_42, q6_44, q6_47, q6_48, q6_50, q6_53, as_nil, as_i, as_r, Nat.reduceAdd, Nat.reduceLeDiff, z_eq0, z_eq1, z_or, z_em, Classical.not_not, not_false_eq_true, not_true_eq_false, true_and, and_true, false_and, and_false, and_self, true_implies, false_implies, implies_true, Option.toList_some, Option.toList_none, List.cons_append, List.nil_append, Nat.add_eq_zero_iff, a_nl_i, a_nl_r, a_nl_n, true_or, or_true, eq_self, a_isRA_22, a_isRA_24, a_isRA_32, a_isA_20, n_z, up_ap, up_eq, Nat.add_left_cancel_iff, Nat.add_right_cancel_iff, Nat.reduceEqDiff, if_true, if_false, n_ne, f0, cn_n4, ng_n4, cn_n5, ng_n5, cn_n6, ng_n6, cn_n7, ng_n7, cn_n9, ng_n9, cn_n20, ng_n20, cn_n21, ng_n21, cn_n30, ng_n30, cn_n50, ng_n50, cn_n180, ng_n180, cn_n192, ng_n192, cn_n200, ng_n200]
  have hne : ∀ x, x < n + 1 → (¬ x = n + 1) ∧ (¬ x = n + 2) ∧ (¬ x = n + 3) ∧ (¬ x = n + 4) ∧ (¬ x = n + 5) := fun x hx => by omega
  have fK : ∀ x, x < n + 1 → a_up (a_up (a_up (a_up (a_up K (n + 1) 8) (n + 2) 22) (n + 2 + 1) 20) (n + 3 + 1) 20) (n + 4 + 1) 20 x = K x := fun x hx => by
    obtain ⟨e1, e2, e3, e4, e5⟩ := hne x hx
    simp [up_ap, e1, e2, e3, e4, e5]
  have fL : ∀ x, x < n + 1 → a_up (a_up (a_up (a_up (a_up L (n + 1) 9) (n + 1 + 1) 30) (n + 2 + 1) 30) (n + 3 + 1) 30) (n + 4 + 1) 30 x = L x := fun x hx => by
    obtain ⟨e1, e2, e3, e4, e5⟩ := hne x hx
    simp [up_ap, e1, e2, e3, e4, e5]
  have fI : ∀ x j, x < n + 1 → a_ui (a_zi (a_zi (a_zi (a_zi (a_zi I (n + 1)) (n + 1 + 1)) (n + 2 + 1)) (n + 3 + 1)) (n + 4 + 1)) (n + 1) 8 100 x j = I x j := fun x j hx => by
    obtain ⟨e1, e2, e3, e4, e5⟩ := hne x hx
    simp [ui_ap, zi_ap, e1, e2, e3, e4, e5]
  have fR : ∀ x j, x < n + 1 → a_ur (a_zr (a_ur (a_zr (a_ur (a_zr (a_ur (a_zr (a_ur (a_ur (a_zr R (n + 1)) (n + 1) 0 p0) (n + 1) 1 p1) (n + 1 + 1)) (n + 1) 2 (n + 1 + 1)) (n + 2 + 1)) (n + 1) 3 (n + 2 + 1)) (n + 3 + 1)) (n + 1) 4 (n + 3 + 1)) (n + 4 + 1)) (n + 1) 5 (n + 4 + 1) x j = R x j := fun x j hx => by
    obtain ⟨e1, e2, e3, e4, e5⟩ := hne x hx
    simp [ur_ap, zr_ap, e1, e2, e3, e4, e5]
  have fz : ∀ x, n + 6 ≤ x → a_up (a_up (a_up (a_up (a_up K (n + 1) 8) (n + 1 + 1) 22) (n + 2 + 1) 20) (n + 3 + 1) 20) (n + 4 + 1) 20 x = 0 := fun x hx => by
    simp only [up_ap]
    rw [if_neg (by omega), if_neg (by omega), if_neg (by omega), if_neg (by omega), if_neg (by omega)]
    exact hn x (by omega)
  have hf := hP _ _ _ _ fK fL fI fR fz (by simp [up_ap, ur_ap, zr_ap, zi_ap, ui_ap]) (by simp [up_ap, ur_ap, zr_ap, zi_ap, ui_ap]) (by simp [up_ap, ur_ap, zr_ap, zi_ap, ui_ap]) (by simp [up_ap, ur_ap, zr_ap, zi_ap, ui_ap]) (by simp [up_ap, ur_ap, zr_ap, zi_ap, ui_ap]) (by simp [up_ap, ur_ap, zr_ap, zi_ap, ui_ap]) (by simp [up_ap, ur_ap, zr_ap, zi_ap, ui_ap]) (by simp [up_ap, ur_ap, zr_ap, zi_ap, ui_ap]) (by simp [up_ap, ur_ap, zr_ap, zi_ap, ui_ap]) (by simp [up_ap, ur_ap, zr_ap, zi_ap, ui_ap]) (by simp [up_ap, ur_ap, zr_ap, zi_ap, ui_ap]) (by simp [up_ap, ur_ap, zr_ap, zi_ap, ui_ap]) (by simp [up_ap, ur_ap, zr_ap, zi_ap, ui_ap]) (by simp [up_ap, ur_ap, zr_ap, zi_ap, ui_ap]) (by simp [up_ap, ur_ap, zr_ap, zi_ap, ui_ap]) (by simp [up_ap, ur_ap, zr_ap, zi_ap, ui_ap]) (by simp [up_ap, ur_ap, zr_ap, zi_ap, ui_ap]) (by simp [up_ap, ur_ap, zr_ap, zi_ap, ui_ap]) (by simp [up_ap, ur_ap, zr_ap, zi_ap, ui_ap]) (by simp [up_ap, ur_ap, zr_ap, zi_ap, ui_ap]) (by simp [up_ap, ur_ap, zr_ap, zi_ap, ui_ap]) (by simp [up_ap, ur_ap, zr_ap, zi_ap, ui_ap]) (by simp [up_ap, ur_ap, zr_ap, zi_ap, ui_ap]) (by simp [up_ap, ur_ap, zr_ap, zi_ap, ui_ap]) (by simp [up_ap, ur_ap, zr_ap, zi_ap, ui_ap]) (by simp [up_ap, ur_ap, zr_ap, zi_ap, ui_ap])
  repeat' first
    | with_reducible apply And.intro
    | exact hf
    | (simp; done)
theorem ki_Best (hn : ∀ x, n + 1 ≤ x → K x = 0) {p0 : Nat} (hP : ∀ K' L' J' R', (∀ x, x < n + 1 → K' x = K x) → (∀ x, x < n + 1 → L' x = L x) → (∀ x j, x < n + 1 → J' x j = I x j) → (∀ x j, x < n + 1 → R' x j = R x j) → (∀ x, n + 9 ≤ x → K' x = 0) → K' (n + 1) = 4 → K' (n + 2) = 22 → L' (n + 2) = 4 → R' (n + 1) 1 = n + 2 → (∀ j, R' (n + 2) j = 0) → (∀ j, J' (n + 2) j = 0) → K' (n + 3) = 20 → L' (n + 3) = 192 → R' (n + 1) 2 = n + 3 → (∀ j, R' (n + 3) j = 0) → (∀ j, J' (n + 3) j = 0) → K' (n + 4) = 20 → L' (n + 4) = 192 → R' (n + 1) 3 = n + 4 → (∀ j, R' (n + 4) j = 0) → (∀ j, J' (n + 4) j = 0) → K' (n + 5) = 20 → L' (n + 5) = 4 → R' (n + 1) 4 = n + 5 → (∀ j, R' (n + 5) j = 0) → (∀ j, J' (n + 5) j = 0) → K' (n + 6) = 20 → L' (n + 6) = 5 → R' (n + 1) 5 = n + 6 → (∀ j, R' (n + 6) j = 0) → (∀ j, J' (n + 6) j = 0) → K' (n + 7) = 20 → L' (n + 7) = 4 → R' (n + 1) 6 = n + 7 → (∀ j, R' (n + 7) j = 0) → (∀ j, J' (n + 7) j = 0) → K' (n + 8) = 20 → L' (n + 8) = 4 → R' (n + 1) 7 = n + 8 → (∀ j, R' (n + 8) j = 0) → (∀ j, J' (n + 8) j = 0) → R' (n + 1) 0 = p0 → J' (n + 1) 8 = 0 → J' (n + 1) 9 = 0 → P none (n + 8 + 1, t + 405, K', L', J', R')) : a_does (d + 1) 7 [a_rf (n + 1), a_rf p0] (n + 1 + 1, t, a_up K (n + 1) 4, a_up L (n + 1) 10, a_zi I (n + 1), a_zr R (n + 1)) P := by
  have f0 : (n + 1 = 0) = False := eq_false (by omega)
  rw [a_enter1 (M := a_m7) rfl (a_cat_rf (a_cat_rf a_cat_nil)) (show 2 ≤ 2 by decide)]
  show a_at _ (a_xm a_m7) 0 [some (a_rf (n+1)), some (a_rf p0)] [] _ _
  simp only [q7_0, as_nil, as_i, as_r, Nat.reduceAdd, Nat.reduceLeDiff, z_eq0, z_eq1, z_or, z_em, Classical.not_not, not_false_eq_true, not_true_eq_false, true_and, and_true, false_and, and_false, and_self, true_implies, false_implies, implies_true, Option.toList_some, Option.toList_none, List.cons_append, List.nil_append, Nat.add_eq_zero_iff, a_nl_i, a_nl_r, a_nl_n, true_or, or_true, eq_self, a_isRA_22, a_isRA_24, a_isRA_32, a_isA_20]
  rw [q7_1 (show ¬ n + 1 = 0 by omega) (show a_sum [] ≤ 8 by decide)]
  simp only [q7_4, q7_5, q7_6, q7_9, q7_10, q7_11, q7_14, q7_17, q7_18, q7_21, q7_23, q7_26, q7_27, q7_30, q7_32, q7_35, q7_36, q7_37, q7_39, q7_42, q7_43, q7_44, q7_46, q7_49, q7_50, q7_51, q7_53, q7_56, q7_57, q7_58, q7_60, q7_63, as_nil, as_i, as_r, Nat.reduceAdd, Nat.reduceLeDiff, z_eq0, z_eq1, z_or, z_em, Classical.not_not, not_false_eq_true, not_true_eq_false, true_and, and_true, false_and, and_false, and_self, true_implies, false_implies, implies_true, Option.toList_some, Option.toList_none, List.cons_append, List.nil_append, Nat.add_eq_zero_iff, a_nl_i, a_nl_r, a_nl_n, true_or, or_true, eq_self, a_isRA_22, a_isRA_24, a_isRA_32, a_isA_20, n_z, up_ap, up_eq, Nat.add_left_cancel_iff, Nat.add_right_cancel_iff, Nat.reduceEqDiff, if_true, if_false, n_ne, f0, cn_n4, ng_n4, cn_n5, ng_n5, cn_n6, ng_n6, cn_n7, ng_n7, cn_n9, ng_n9, cn_n20, ng_n20, cn_n21, ng_n21, cn_n30, ng_n30, cn_n50, ng_n50, cn_n180, ng_n180, cn_n192, ng_n192, cn_n200, ng_n200]
  have hne : ∀ x, x < n + 1 → (¬ x = n + 1) ∧ (¬ x = n + 2) ∧ (¬ x = n + 3) ∧ (¬ x = n + 4) ∧ (¬ x = n + 5) ∧ (¬ x = n + 6) ∧ (¬ x = n + 7) ∧ (¬ x = n + 8) := fun x hx => by omega
  have fK : ∀ x, x < n + 1 → a_up (a_up (a_up (a_up (a_up (a_up (a_up (a_up K (n + 1) 4) (n + 2) 22) (n + 2 + 1) 20) (n + 3 + 1) 20) (n + 4 + 1) 20) (n + 5 + 1) 20) (n + 6 + 1) 20) (n + 7 + 1) 20 x = K x := fun x hx => by
    obtain ⟨e1, e2, e3, e4, e5, e6, e7, e8⟩ := hne x hx
    simp [up_ap, e1, e2, e3, e4, e5, e6, e7, e8]
  have fL : ∀ x, x < n + 1 → a_up (a_up (a_up (a_up (a_up (a_up (a_up (a_up L (n + 1) 10) (n + 1 + 1) 4) (n + 2 + 1) 192) (n + 3 + 1) 192) (n + 4 + 1) 4) (n + 5 + 1) 5) (n + 6 + 1) 4) (n + 7 + 1) 4 x = L x := fun x hx => by
    obtain ⟨e1, e2, e3, e4, e5, e6, e7, e8⟩ := hne x hx
    simp [up_ap, e1, e2, e3, e4, e5, e6, e7, e8]
  have fI : ∀ x j, x < n + 1 → a_zi (a_zi (a_zi (a_zi (a_zi (a_zi (a_zi (a_zi I (n + 1)) (n + 1 + 1)) (n + 2 + 1)) (n + 3 + 1)) (n + 4 + 1)) (n + 5 + 1)) (n + 6 + 1)) (n + 7 + 1) x j = I x j := fun x j hx => by
    obtain ⟨e1, e2, e3, e4, e5, e6, e7, e8⟩ := hne x hx
    simp [ui_ap, zi_ap, e1, e2, e3, e4, e5, e6, e7, e8]
  have fR : ∀ x j, x < n + 1 → a_ur (a_zr (a_ur (a_zr (a_ur (a_zr (a_ur (a_zr (a_ur (a_zr (a_ur (a_zr (a_ur (a_zr (a_ur (a_zr R (n + 1)) (n + 1) 0 p0) (n + 1 + 1)) (n + 1) 1 (n + 1 + 1)) (n + 2 + 1)) (n + 1) 2 (n + 2 + 1)) (n + 3 + 1)) (n + 1) 3 (n + 3 + 1)) (n + 4 + 1)) (n + 1) 4 (n + 4 + 1)) (n + 5 + 1)) (n + 1) 5 (n + 5 + 1)) (n + 6 + 1)) (n + 1) 6 (n + 6 + 1)) (n + 7 + 1)) (n + 1) 7 (n + 7 + 1) x j = R x j := fun x j hx => by
    obtain ⟨e1, e2, e3, e4, e5, e6, e7, e8⟩ := hne x hx
    simp [ur_ap, zr_ap, e1, e2, e3, e4, e5, e6, e7, e8]
  have fz : ∀ x, n + 9 ≤ x → a_up (a_up (a_up (a_up (a_up (a_up (a_up (a_up K (n + 1) 4) (n + 1 + 1) 22) (n + 2 + 1) 20) (n + 3 + 1) 20) (n + 4 + 1) 20) (n + 5 + 1) 20) (n + 6 + 1) 20) (n + 7 + 1) 20 x = 0 := fun x hx => by
    simp only [up_ap]
    rw [if_neg (by omega), if_neg (by omega), if_neg (by omega), if_neg (by omega), if_neg (by omega), if_neg (by omega), if_neg (by omega), if_neg (by omega)]
    exact hn x (by omega)
  have hf := hP _ _ _ _ fK fL fI fR fz (by simp [up_ap, ur_ap, zr_ap, zi_ap, ui_ap]) (by simp [up_ap, ur_ap, zr_ap, zi_ap, ui_ap]) (by simp [up_ap, ur_ap, zr_ap, zi_ap, ui_ap]) (by simp [up_ap, ur_ap, zr_ap, zi_ap, ui_ap]) (by simp [up_ap, ur_ap, zr_ap, zi_ap, ui_ap]) (by simp [up_ap, ur_ap, zr_ap, zi_ap, ui_ap]) (by simp [up_ap, ur_ap, zr_ap, zi_ap, ui_ap]) (by simp [up_ap, ur_ap, zr_ap, zi_ap, ui_ap]) (by simp [up_ap, ur_ap, zr_ap, zi_ap, ui_ap]) (by simp [up_ap, ur_ap, zr_ap, zi_ap, ui_ap]) (by simp [up_ap, ur_ap, zr_ap, zi_ap, ui_ap]) (by simp [up_ap, ur_ap, zr_ap, zi_ap, ui_ap]) (by simp [up_ap, ur_ap, zr_ap, zi_ap, ui_ap]) (by simp [up_ap, ur_ap, zr_ap, zi_ap, ui_ap]) (by simp [up_ap, ur_ap, zr_ap, zi_ap, ui_ap]) (by simp [up_ap, ur_ap, zr_ap, zi_ap, ui_ap]) (by simp [up_ap, ur_ap, zr_ap, zi_ap, ui_ap]) (by simp [up_ap, ur_ap, zr_ap, zi_ap, ui_ap]) (by simp [up_ap, ur_ap, zr_ap, zi_ap, ui_ap]) (by simp [up_ap, ur_ap, zr_ap, zi_ap, ui_ap]) (by simp [up_ap, ur_ap, zr_ap, zi_ap, ui_ap]) (by simp [up_ap, ur_ap, zr_ap, zi_ap, ui_ap]) (by simp [up_ap, ur_ap, zr_ap, zi_ap, ui_ap]) (by simp [up_ap, ur_ap, zr_ap, zi_ap, ui_ap]) (by simp [up_ap, ur_ap, zr_ap, zi_ap, ui_ap]) (by simp [up_ap, ur_ap, zr_ap, zi_ap, ui_ap]) (by simp [up_ap, ur_ap, zr_ap, zi_ap, ui_ap]) (by simp [up_ap, ur_ap, zr_ap, zi_ap, ui_ap]) (by simp [up_ap, ur_ap, zr_ap, zi_ap, ui_ap]) (by simp [up_ap, ur_ap, zr_ap, zi_ap, ui_ap]) (by simp [up_ap, ur_ap, zr_ap, zi_ap, ui_ap]) (by simp [up_ap, ur_ap, zr_ap, zi_ap, ui_ap]) (by simp [up_ap, ur_ap, zr_ap, zi_ap, ui_ap]) (by simp [up_ap, ur_ap, zr_ap, zi_ap, ui_ap]) (by simp [up_ap, ur_ap, zr_ap, zi_ap, ui_ap]) (by simp [up_ap, ur_ap, zr_ap, zi_ap, ui_ap]) (by simp [up_ap, ur_ap, zr_ap, zi_ap, ui_ap]) (by simp [up_ap, ur_ap, zr_ap, zi_ap, ui_ap]) (by simp [up_ap, ur_ap, zr_ap, zi_ap, ui_ap])
  repeat' first
    | with_reducible apply And.intro
    | exact hf
    | (simp; done)
theorem ki_Circle (hn : ∀ x, n + 1 ≤ x → K x = 0) {p0 : Nat} (hP : ∀ K' L' J' R', (∀ x, x < n + 1 → K' x = K x) → (∀ x, x < n + 1 → L' x = L x) → (∀ x j, x < n + 1 → J' x j = I x j) → (∀ x j, x < n + 1 → R' x j = R x j) → (∀ x, n + 8 ≤ x → K' x = 0) → K' (n + 1) = 5 → K' (n + 2) = 20 → L' (n + 2) = 30 → R' (n + 1) 1 = n + 2 → (∀ j, R' (n + 2) j = 0) → (∀ j, J' (n + 2) j = 0) → K' (n + 3) = 20 → L' (n + 3) = 30 → R' (n + 1) 2 = n + 3 → (∀ j, R' (n + 3) j = 0) → (∀ j, J' (n + 3) j = 0) → K' (n + 4) = 22 → L' (n + 4) = 5 → R' (n + 1) 3 = n + 4 → (∀ j, R' (n + 4) j = 0) → (∀ j, J' (n + 4) j = 0) → K' (n + 5) = 20 → L' (n + 5) = 5 → R' (n + 1) 4 = n + 5 → (∀ j, R' (n + 5) j = 0) → (∀ j, J' (n + 5) j = 0) → K' (n + 6) = 20 → L' (n + 6) = 5 → R' (n + 1) 5 = n + 6 → (∀ j, R' (n + 6) j = 0) → (∀ j, J' (n + 6) j = 0) → K' (n + 7) = 20 → L' (n + 7) = 20 → R' (n + 1) 6 = n + 7 → (∀ j, R' (n + 7) j = 0) → (∀ j, J' (n + 7) j = 0) → R' (n + 1) 0 = p0 → J' (n + 1) 7 = 0 → P none (n + 7 + 1, t + 95, K', L', J', R')) : a_does (d + 1) 8 [a_rf (n + 1), a_rf p0] (n + 1 + 1, t, a_up K (n + 1) 5, a_up L (n + 1) 8, a_zi I (n + 1), a_zr R (n + 1)) P := by
  have f0 : (n + 1 = 0) = False := eq_false (by omega)
  rw [a_enter1 (M := a_m8) rfl (a_cat_rf (a_cat_rf a_cat_nil)) (show 2 ≤ 2 by decide)]
  show a_at _ (a_xm a_m8) 0 [some (a_rf (n+1)), some (a_rf p0)] [] _ _
  simp only [q8_0, as_nil, as_i, as_r, Nat.reduceAdd, Nat.reduceLeDiff, z_eq0, z_eq1, z_or, z_em, Classical.not_not, not_false_eq_true, not_true_eq_false, true_and, and_true, false_and, and_false, and_self, true_implies, false_implies, implies_true, Option.toList_some, Option.toList_none, List.cons_append, List.nil_append, Nat.add_eq_zero_iff, a_nl_i, a_nl_r, a_nl_n, true_or, or_true, eq_self, a_isRA_22, a_isRA_24, a_isRA_32, a_isA_20]
  rw [q8_1 (show ¬ n + 1 = 0 by omega) (show a_sum [] ≤ 8 by decide)]
  simp only [q8_4, q8_5, q8_6, q8_9, q8_10, q8_12, q8_14, q8_17, q8_18, q8_20, q8_22, q8_25, q8_26, q8_27, q8_30, q8_33, q8_34, q8_35, q8_37, q8_40, q8_41, q8_42, q8_44, q8_47, q8_48, q8_50, q8_52, q8_55, as_nil, as_i, as_r, Nat.reduceAdd, Nat.reduceLeDiff, z_eq0, z_eq1, z_or, z_em, Classical.not_not, not_false_eq_true, not_true_eq_false, true_and, and_true, false_and, and_false, and_self, true_implies, false_implies, implies_true, Option.toList_some, Option.toList_none, List.cons_append, List.nil_append, Nat.add_eq_zero_iff, a_nl_i, a_nl_r, a_nl_n, true_or, or_true, eq_self, a_isRA_22, a_isRA_24, a_isRA_32, a_isA_20, n_z, up_ap, up_eq, Nat.add_left_cancel_iff, Nat.add_right_cancel_iff, Nat.reduceEqDiff, if_true, if_false, n_ne, f0, cn_n4, ng_n4, cn_n5, ng_n5, cn_n6, ng_n6, cn_n7, ng_n7, cn_n9, ng_n9, cn_n20, ng_n20, cn_n21, ng_n21, cn_n30, ng_n30, cn_n50, ng_n50, cn_n180, ng_n180, cn_n192, ng_n192, cn_n200, ng_n200]
  have hne : ∀ x, x < n + 1 → (¬ x = n + 1) ∧ (¬ x = n + 2) ∧ (¬ x = n + 3) ∧ (¬ x = n + 4) ∧ (¬ x = n + 5) ∧ (¬ x = n + 6) ∧ (¬ x = n + 7) := fun x hx => by omega
  have fK : ∀ x, x < n + 1 → a_up (a_up (a_up (a_up (a_up (a_up (a_up K (n + 1) 5) (n + 2) 20) (n + 2 + 1) 20) (n + 3 + 1) 22) (n + 4 + 1) 20) (n + 5 + 1) 20) (n + 6 + 1) 20 x = K x := fun x hx => by
    obtain ⟨e1, e2, e3, e4, e5, e6, e7⟩ := hne x hx
    simp [up_ap, e1, e2, e3, e4, e5, e6, e7]
  have fL : ∀ x, x < n + 1 → a_up (a_up (a_up (a_up (a_up (a_up (a_up L (n + 1) 8) (n + 1 + 1) 30) (n + 2 + 1) 30) (n + 3 + 1) 5) (n + 4 + 1) 5) (n + 5 + 1) 5) (n + 6 + 1) 20 x = L x := fun x hx => by
    obtain ⟨e1, e2, e3, e4, e5, e6, e7⟩ := hne x hx
    simp [up_ap, e1, e2, e3, e4, e5, e6, e7]
  have fI : ∀ x j, x < n + 1 → a_zi (a_zi (a_zi (a_zi (a_zi (a_zi (a_zi I (n + 1)) (n + 1 + 1)) (n + 2 + 1)) (n + 3 + 1)) (n + 4 + 1)) (n + 5 + 1)) (n + 6 + 1) x j = I x j := fun x j hx => by
    obtain ⟨e1, e2, e3, e4, e5, e6, e7⟩ := hne x hx
    simp [ui_ap, zi_ap, e1, e2, e3, e4, e5, e6, e7]
  have fR : ∀ x j, x < n + 1 → a_ur (a_zr (a_ur (a_zr (a_ur (a_zr (a_ur (a_zr (a_ur (a_zr (a_ur (a_zr (a_ur (a_zr R (n + 1)) (n + 1) 0 p0) (n + 1 + 1)) (n + 1) 1 (n + 1 + 1)) (n + 2 + 1)) (n + 1) 2 (n + 2 + 1)) (n + 3 + 1)) (n + 1) 3 (n + 3 + 1)) (n + 4 + 1)) (n + 1) 4 (n + 4 + 1)) (n + 5 + 1)) (n + 1) 5 (n + 5 + 1)) (n + 6 + 1)) (n + 1) 6 (n + 6 + 1) x j = R x j := fun x j hx => by
    obtain ⟨e1, e2, e3, e4, e5, e6, e7⟩ := hne x hx
    simp [ur_ap, zr_ap, e1, e2, e3, e4, e5, e6, e7]
  have fz : ∀ x, n + 8 ≤ x → a_up (a_up (a_up (a_up (a_up (a_up (a_up K (n + 1) 5) (n + 1 + 1) 20) (n + 2 + 1) 20) (n + 3 + 1) 22) (n + 4 + 1) 20) (n + 5 + 1) 20) (n + 6 + 1) 20 x = 0 := fun x hx => by
    simp only [up_ap]
    rw [if_neg (by omega), if_neg (by omega), if_neg (by omega), if_neg (by omega), if_neg (by omega), if_neg (by omega), if_neg (by omega)]
    exact hn x (by omega)
  have hf := hP _ _ _ _ fK fL fI fR fz (by simp [up_ap, ur_ap, zr_ap, zi_ap, ui_ap]) (by simp [up_ap, ur_ap, zr_ap, zi_ap, ui_ap]) (by simp [up_ap, ur_ap, zr_ap, zi_ap, ui_ap]) (by simp [up_ap, ur_ap, zr_ap, zi_ap, ui_ap]) (by simp [up_ap, ur_ap, zr_ap, zi_ap, ui_ap]) (by simp [up_ap, ur_ap, zr_ap, zi_ap, ui_ap]) (by simp [up_ap, ur_ap, zr_ap, zi_ap, ui_ap]) (by simp [up_ap, ur_ap, zr_ap, zi_ap, ui_ap]) (by simp [up_ap, ur_ap, zr_ap, zi_ap, ui_ap]) (by simp [up_ap, ur_ap, zr_ap, zi_ap, ui_ap]) (by simp [up_ap, ur_ap, zr_ap, zi_ap, ui_ap]) (by simp [up_ap, ur_ap, zr_ap, zi_ap, ui_ap]) (by simp [up_ap, ur_ap, zr_ap, zi_ap, ui_ap]) (by simp [up_ap, ur_ap, zr_ap, zi_ap, ui_ap]) (by simp [up_ap, ur_ap, zr_ap, zi_ap, ui_ap]) (by simp [up_ap, ur_ap, zr_ap, zi_ap, ui_ap]) (by simp [up_ap, ur_ap, zr_ap, zi_ap, ui_ap]) (by simp [up_ap, ur_ap, zr_ap, zi_ap, ui_ap]) (by simp [up_ap, ur_ap, zr_ap, zi_ap, ui_ap]) (by simp [up_ap, ur_ap, zr_ap, zi_ap, ui_ap]) (by simp [up_ap, ur_ap, zr_ap, zi_ap, ui_ap]) (by simp [up_ap, ur_ap, zr_ap, zi_ap, ui_ap]) (by simp [up_ap, ur_ap, zr_ap, zi_ap, ui_ap]) (by simp [up_ap, ur_ap, zr_ap, zi_ap, ui_ap]) (by simp [up_ap, ur_ap, zr_ap, zi_ap, ui_ap]) (by simp [up_ap, ur_ap, zr_ap, zi_ap, ui_ap]) (by simp [up_ap, ur_ap, zr_ap, zi_ap, ui_ap]) (by simp [up_ap, ur_ap, zr_ap, zi_ap, ui_ap]) (by simp [up_ap, ur_ap, zr_ap, zi_ap, ui_ap]) (by simp [up_ap, ur_ap, zr_ap, zi_ap, ui_ap]) (by simp [up_ap, ur_ap, zr_ap, zi_ap, ui_ap]) (by simp [up_ap, ur_ap, zr_ap, zi_ap, ui_ap]) (by simp [up_ap, ur_ap, zr_ap, zi_ap, ui_ap])
  repeat' first
    | with_reducible apply And.intro
    | exact hf
    | (simp; done)
theorem ur_ne {f : Nat → Nat → Nat} {a k v x j : Nat} (h : ¬ x = a) : a_ur f a k v x j = f x j := if_neg (fun e => h e.1)
theorem ur_nk {f : Nat → Nat → Nat} {a k v x j : Nat} (h : ¬ j = k) : a_ur f a k v x j = f x j := if_neg (fun e => h e.2)
theorem ur_eq {f : Nat → Nat → Nat} {a k v : Nat} : a_ur f a k v a k = v := if_pos ⟨rfl, rfl⟩
theorem zi_eq {f : Nat → Nat → Int32} {a j : Nat} : a_zi f a a j = 0 := if_pos rfl
theorem zr_eq {f : Nat → Nat → Nat} {a j : Nat} : a_zr f a a j = 0 := if_pos rfl
theorem lo0 {x : Nat} (hx : x < n + 1) : x < n + 1 + 1 := by omega
theorem lo1 {x k : Nat} (hx : x < n + 1) : x < n + 1 + k + 1 := by omega
theorem lo2 {x k : Nat} (hx : x < n + 1) : ¬ x = n + 1 + k + 1 := by omega
theorem lo3 {x : Nat} (hx : x < n + 1) : ¬ x = n + 1 := by omega
theorem hi1 {x : Nat} (hx : n + 45 ≤ x) : ¬ x = n + 1 + 42 + 1 := by omega
theorem hi2 {x : Nat} (hx : n + 45 ≤ x) : ¬ x = n + 1 + 41 + 1 := by omega
theorem hi3 {x : Nat} (hx : n + 45 ≤ x) : n + 1 + 34 + 8 ≤ x := by omega
theorem hno_of {f : Nat → Nat} (hk : ∀ q ∈ c_ks, f (n + 1 + q.1) = q.2) (hlow : ∀ x, x < n + 1 → f x = 0) (hhigh : ∀ x, n + 45 ≤ x → f x = 0) : ∀ x, ¬ f x = 1 ∧ ¬ f x = 3 ∧ ¬ f x = 11 := fun x => by
  by_cases h1 : x < n + 1
  · rw [hlow x h1]; decide
  · by_cases h2 : n + 45 ≤ x
    · rw [hhigh x h2]; decide
    · have d1 : ∀ q : Fin 44, ∃ e ∈ c_ks, e.1 = q.val ∧ ¬ e.2 = 1 ∧ ¬ e.2 = 3 ∧ ¬ e.2 = 11 := by decide
      obtain ⟨e, e1, e2, e3⟩ := d1 ⟨x - (n + 1), by omega⟩
      have e4 := hk e e1
      rw [e2, show n + 1 + (x - (n + 1)) = x by omega] at e4
      rw [e4]
      exact e3
theorem cm_n4 : Int32.toNatClampNeg 4 = 4 := rfl
theorem mg_n4 : ((4 : Int32) < 0) = False := eq_false (by decide)
theorem cm_n5 : Int32.toNatClampNeg 5 = 5 := rfl
theorem mg_n5 : ((5 : Int32) < 0) = False := eq_false (by decide)
theorem cm_n6 : Int32.toNatClampNeg 6 = 6 := rfl
theorem mg_n6 : ((6 : Int32) < 0) = False := eq_false (by decide)
theorem cm_n7 : Int32.toNatClampNeg 7 = 7 := rfl
theorem mg_n7 : ((7 : Int32) < 0) = False := eq_false (by decide)
theorem cm_n9 : Int32.toNatClampNeg 9 = 9 := rfl
theorem mg_n9 : ((9 : Int32) < 0) = False := eq_false (by decide)
theorem cm_n20 : Int32.toNatClampNeg 20 = 20 := rfl
theorem mg_n20 : ((20 : Int32) < 0) = False := eq_false (by decide)
theorem cm_n21 : Int32.toNatClampNeg 21 = 21 := rfl
theorem mg_n21 : ((21 : Int32) < 0) = False := eq_false (by decide)
theorem cm_n24 : Int32.toNatClampNeg 24 = 24 := rfl
theorem mg_n24 : ((24 : Int32) < 0) = False := eq_false (by decide)
theorem cm_n30 : Int32.toNatClampNeg 30 = 30 := rfl
theorem mg_n30 : ((30 : Int32) < 0) = False := eq_false (by decide)
theorem cm_n50 : Int32.toNatClampNeg 50 = 50 := rfl
theorem mg_n50 : ((50 : Int32) < 0) = False := eq_false (by decide)
theorem cm_n60 : Int32.toNatClampNeg 60 = 60 := rfl
theorem mg_n60 : ((60 : Int32) < 0) = False := eq_false (by decide)
theorem cm_n120 : Int32.toNatClampNeg 120 = 120 := rfl
theorem mg_n120 : ((120 : Int32) < 0) = False := eq_false (by decide)
theorem cm_n180 : Int32.toNatClampNeg 180 = 180 := rfl
theorem mg_n180 : ((180 : Int32) < 0) = False := eq_false (by decide)
theorem cm_n200 : Int32.toNatClampNeg 200 = 200 := rfl
theorem mg_n200 : ((200 : Int32) < 0) = False := eq_false (by decide)
theorem cm_n900 : Int32.toNatClampNeg 900 = 900 := rfl
theorem mg_n900 : ((900 : Int32) < 0) = False := eq_false (by decide)
theorem cm_n1000 : Int32.toNatClampNeg 1000 = 1000 := rfl
theorem mg_n1000 : ((1000 : Int32) < 0) = False := eq_false (by decide)
theorem cm_n84000 : Int32.toNatClampNeg 84000 = 84000 := rfl
theorem mg_n84000 : ((84000 : Int32) < 0) = False := eq_false (by decide)
def nkM (n : Nat) (K : Nat → Nat) : Nat → Nat := a_up (a_up (a_up (a_up (a_up (a_up (a_up (a_up (a_up (a_up (a_up (a_up (a_up (a_up (a_up (a_up (a_up (a_up (a_up (a_up (a_up (a_up (a_up (a_up (a_up (a_up (a_up (a_up (a_up (a_up (a_up (a_up (a_up (a_up (a_up (a_up (a_up (a_up (a_up (a_up (a_up (a_up (a_up (a_up (a_up (a_up (a_up (a_up (a_up (a_up (a_up (a_up (a_up K (n + 1) 13) (n + 1 + 1) 20) (n + 2 + 1) 20) (n + 3 + 1) 20) (n + 4 + 1) 20) (n + 5 + 1) 20) (n + 6 + 1) 20) (n + 7 + 1) 20) (n + 8 + 1) 20) (n + 9 + 1) 20) (n + 10 + 1) 20) (n + 11 + 1) 20) (n + 12 + 1) 20) (n + 13 + 1) 20) (n + 14 + 1) 20) (n + 15 + 1) 20) (n + 16 + 1) 20) (n + 17 + 1) 20) (n + 18 + 1) 21) (n + 19 + 1) 21) (n + 20 + 1) 20) (n + 21 + 1) 20) (n + 22 + 1) 20) (n + 23 + 1) 20) (n + 24 + 1) 20) (n + 25 + 1) 20) (n + 26 + 1) 20) (n + 27 + 1) 20) (n + 28 + 1) 20) (n + 29 + 1) 20) (n + 30 + 1) 20) (n + 31 + 1) 20) (n + 32 + 1) 20) (n + 33 + 1) 21) (n + 34 + 1) 20) (n + 35 + 1) 21) (n + 36 + 1) 20) (n + 37 + 1) 21) (n + 38 + 1) 21) (n + 39 + 1) 20) (n + 40 + 1) 20) (n + 41 + 1) 20) (n + 42 + 1) 20) (n + 43 + 1) 20) (n + 44 + 1) 20) (n + 45 + 1) 20) (n + 46 + 1) 20) (n + 47 + 1) 21) (n + 48 + 1) 20) (n + 49 + 1) 20) (n + 50 + 1) 20) (n + 51 + 1) 20) (n + 52 + 1) 20
def nlM (n : Nat) (L : Nat → Nat) : Nat → Nat := a_up (a_up (a_up (a_up (a_up (a_up (a_up (a_up (a_up (a_up (a_up (a_up (a_up (a_up (a_up (a_up (a_up (a_up (a_up (a_up (a_up (a_up (a_up (a_up (a_up (a_up (a_up (a_up (a_up (a_up (a_up (a_up (a_up (a_up (a_up (a_up (a_up (a_up (a_up (a_up (a_up (a_up (a_up (a_up (a_up (a_up (a_up (a_up (a_up (a_up (a_up (a_up (a_up L (n + 1) 80) (n + 1 + 1) 200) (n + 2 + 1) 20) (n + 3 + 1) 20) (n + 4 + 1) 20) (n + 5 + 1) 6) (n + 6 + 1) 6) (n + 7 + 1) 30) (n + 8 + 1) 30) (n + 9 + 1) 30) (n + 10 + 1) 30) (n + 11 + 1) 30) (n + 12 + 1) 30) (n + 13 + 1) 30) (n + 14 + 1) 30) (n + 15 + 1) 30) (n + 16 + 1) 30) (n + 17 + 1) 30) (n + 18 + 1) 30) (n + 19 + 1) 30) (n + 20 + 1) 30) (n + 21 + 1) 30) (n + 22 + 1) 120) (n + 23 + 1) 7) (n + 24 + 1) 84000) (n + 25 + 1) 84000) (n + 26 + 1) 84000) (n + 27 + 1) 50) (n + 28 + 1) 1000) (n + 29 + 1) 20) (n + 30 + 1) 20) (n + 31 + 1) 20) (n + 32 + 1) 9) (n + 33 + 1) 60) (n + 34 + 1) 60) (n + 35 + 1) 60) (n + 36 + 1) 180) (n + 37 + 1) 180) (n + 38 + 1) 180) (n + 39 + 1) 30) (n + 40 + 1) 30) (n + 41 + 1) 4) (n + 42 + 1) 5) (n + 43 + 1) 5) (n + 44 + 1) 4) (n + 45 + 1) 30) (n + 46 + 1) 30) (n + 47 + 1) 900) (n + 48 + 1) 6) (n + 49 + 1) 6) (n + 50 + 1) 6) (n + 51 + 1) 24) (n + 52 + 1) 21
def niM (n : Nat) (I : Nat → Nat → Int32) : Nat → Nat → Int32 := a_zi (a_zi (a_zi (a_zi (a_zi (a_zi (a_zi (a_zi (a_zi (a_zi (a_zi (a_zi (a_zi (a_zi (a_zi (a_zi (a_zi (a_zi (a_zi (a_zi (a_zi (a_zi (a_zi (a_zi (a_zi (a_zi (a_zi (a_zi (a_zi (a_zi (a_zi (a_zi (a_zi (a_zi (a_zi (a_zi (a_zi (a_zi (a_zi (a_zi (a_zi (a_zi (a_zi (a_zi (a_zi (a_zi (a_ui (a_ui (a_zi (a_zi (a_zi (a_zi (a_zi (a_zi (a_zi I (n + 1)) (n + 1 + 1)) (n + 2 + 1)) (n + 3 + 1)) (n + 4 + 1)) (n + 5 + 1)) (n + 6 + 1)) (n + 1) 9 1) (n + 1) 10 100) (n + 7 + 1)) (n + 8 + 1)) (n + 9 + 1)) (n + 10 + 1)) (n + 11 + 1)) (n + 12 + 1)) (n + 13 + 1)) (n + 14 + 1)) (n + 15 + 1)) (n + 16 + 1)) (n + 17 + 1)) (n + 18 + 1)) (n + 19 + 1)) (n + 20 + 1)) (n + 21 + 1)) (n + 22 + 1)) (n + 23 + 1)) (n + 24 + 1)) (n + 25 + 1)) (n + 26 + 1)) (n + 27 + 1)) (n + 28 + 1)) (n + 29 + 1)) (n + 30 + 1)) (n + 31 + 1)) (n + 32 + 1)) (n + 33 + 1)) (n + 34 + 1)) (n + 35 + 1)) (n + 36 + 1)) (n + 37 + 1)) (n + 38 + 1)) (n + 39 + 1)) (n + 40 + 1)) (n + 41 + 1)) (n + 42 + 1)) (n + 43 + 1)) (n + 44 + 1)) (n + 45 + 1)) (n + 46 + 1)) (n + 47 + 1)) (n + 48 + 1)) (n + 49 + 1)) (n + 50 + 1)) (n + 51 + 1)) (n + 52 + 1)
def nrM (n : Nat) (R : Nat → Nat → Nat) : Nat → Nat → Nat := a_ur (a_zr (a_ur (a_zr (a_ur (a_zr (a_ur (a_zr (a_ur (a_zr (a_ur (a_zr (a_ur (a_zr (a_ur (a_zr (a_ur (a_zr (a_ur (a_zr (a_ur (a_zr (a_ur (a_zr (a_ur (a_zr (a_ur (a_zr (a_ur (a_zr (a_ur (a_zr (a_ur (a_zr (a_ur (a_zr (a_ur (a_zr (a_ur (a_zr (a_ur (a_zr (a_ur (a_zr (a_ur (a_zr (a_ur (a_zr (a_ur (a_zr (a_ur (a_zr (a_ur (a_zr (a_ur (a_zr (a_ur (a_zr (a_ur (a_zr (a_ur (a_zr (a_ur (a_zr (a_ur (a_zr (a_ur (a_zr (a_ur (a_zr (a_ur (a_zr (a_ur (a_zr (a_ur (a_zr (a_ur (a_zr (a_ur (a_zr (a_ur (a_zr (a_ur (a_zr (a_ur (a_zr (a_ur (a_zr (a_ur (a_zr (a_ur (a_zr (a_ur (a_zr (a_ur (a_zr (a_ur (a_zr (a_ur (a_zr (a_ur (a_zr (a_ur (a_zr (a_zr R (n + 1)) (n + 1 + 1)) (n + 1) 1 (n + 1 + 1)) (n + 2 + 1)) (n + 1) 3 (n + 2 + 1)) (n + 3 + 1)) (n + 1) 4 (n + 3 + 1)) (n + 4 + 1)) (n + 1) 5 (n + 4 + 1)) (n + 5 + 1)) (n + 1) 7 (n + 5 + 1)) (n + 6 + 1)) (n + 1) 8 (n + 6 + 1)) (n + 7 + 1)) (n + 1) 18 (n + 7 + 1)) (n + 8 + 1)) (n + 1) 19 (n + 8 + 1)) (n + 9 + 1)) (n + 1) 20 (n + 9 + 1)) (n + 10 + 1)) (n + 1) 21 (n + 10 + 1)) (n + 11 + 1)) (n + 1) 22 (n + 11 + 1)) (n + 12 + 1)) (n + 1) 23 (n + 12 + 1)) (n + 13 + 1)) (n + 1) 24 (n + 13 + 1)) (n + 14 + 1)) (n + 1) 25 (n + 14 + 1)) (n + 15 + 1)) (n + 1) 26 (n + 15 + 1)) (n + 16 + 1)) (n + 1) 27 (n + 16 + 1)) (n + 17 + 1)) (n + 1) 28 (n + 17 + 1)) (n + 18 + 1)) (n + 1) 29 (n + 18 + 1)) (n + 19 + 1)) (n + 1) 30 (n + 19 + 1)) (n + 20 + 1)) (n + 1) 31 (n + 20 + 1)) (n + 21 + 1)) (n + 1) 32 (n + 21 + 1)) (n + 22 + 1)) (n + 1) 33 (n + 22 + 1)) (n + 23 + 1)) (n + 1) 34 (n + 23 + 1)) (n + 24 + 1)) (n + 1) 36 (n + 24 + 1)) (n + 25 + 1)) (n + 1) 37 (n + 25 + 1)) (n + 26 + 1)) (n + 1) 38 (n + 26 + 1)) (n + 27 + 1)) (n + 1) 39 (n + 27 + 1)) (n + 28 + 1)) (n + 1) 42 (n + 28 + 1)) (n + 29 + 1)) (n + 1) 43 (n + 29 + 1)) (n + 30 + 1)) (n + 1) 44 (n + 30 + 1)) (n + 31 + 1)) (n + 1) 45 (n + 31 + 1)) (n + 32 + 1)) (n + 1) 52 (n + 32 + 1)) (n + 33 + 1)) (n + 1) 53 (n + 33 + 1)) (n + 34 + 1)) (n + 1) 55 (n + 34 + 1)) (n + 35 + 1)) (n + 1) 57 (n + 35 + 1)) (n + 36 + 1)) (n + 1) 58 (n + 36 + 1)) (n + 37 + 1)) (n + 1) 59 (n + 37 + 1)) (n + 38 + 1)) (n + 1) 60 (n + 38 + 1)) (n + 39 + 1)) (n + 1) 62 (n + 39 + 1)) (n + 40 + 1)) (n + 1) 63 (n + 40 + 1)) (n + 41 + 1)) (n + 1) 65 (n + 41 + 1)) (n + 42 + 1)) (n + 1) 67 (n + 42 + 1)) (n + 43 + 1)) (n + 1) 68 (n + 43 + 1)) (n + 44 + 1)) (n + 1) 69 (n + 44 + 1)) (n + 45 + 1)) (n + 1) 70 (n + 45 + 1)) (n + 46 + 1)) (n + 1) 71 (n + 46 + 1)) (n + 47 + 1)) (n + 1) 72 (n + 47 + 1)) (n + 48 + 1)) (n + 1) 73 (n + 48 + 1)) (n + 49 + 1)) (n + 1) 75 (n + 49 + 1)) (n + 50 + 1)) (n + 1) 76 (n + 50 + 1)) (n + 51 + 1)) (n + 1) 77 (n + 51 + 1)) (n + 52 + 1)) (n + 1) 78 (n + 52 + 1)
theorem nM_low (x : Nat) (hx : x < n + 1) : nkM n K x = K x ∧ nlM n L x = L x ∧ (∀ j, niM n I x j = I x j) ∧ (∀ j, nrM n R x j = R x j) := by
  obtain ⟨e1, e2, e3, e4, e5, e6, e7, e8, e9, e10, e11, e12, e13, e14, e15, e16, e17, e18, e19, e20, e21, e22, e23, e24, e25, e26, e27, e28, e29, e30, e31, e32, e33, e34, e35, e36, e37, e38, e39, e40, e41, e42, e43, e44, e45, e46, e47, e48, e49, e50, e51, e52, e53⟩ : (¬ x = n + 1) ∧ (¬ x = n + 2) ∧ (¬ x = n + 3) ∧ (¬ x = n + 4) ∧ (¬ x = n + 5) ∧ (¬ x = n + 6) ∧ (¬ x = n + 7) ∧ (¬ x = n + 8) ∧ (¬ x = n + 9) ∧ (¬ x = n + 10) ∧ (¬ x = n + 11) ∧ (¬ x = n + 12) ∧ (¬ x = n + 13) ∧ (¬ x = n + 14) ∧ (¬ x = n + 15) ∧ (¬ x = n + 16) ∧ (¬ x = n + 17) ∧ (¬ x = n + 18) ∧ (¬ x = n + 19) ∧ (¬ x = n + 20) ∧ (¬ x = n + 21) ∧ (¬ x = n + 22) ∧ (¬ x = n + 23) ∧ (¬ x = n + 24) ∧ (¬ x = n + 25) ∧ (¬ x = n + 26) ∧ (¬ x = n + 27) ∧ (¬ x = n + 28) ∧ (¬ x = n + 29) ∧ (¬ x = n + 30) ∧ (¬ x = n + 31) ∧ (¬ x = n + 32) ∧ (¬ x = n + 33) ∧ (¬ x = n + 34) ∧ (¬ x = n + 35) ∧ (¬ x = n + 36) ∧ (¬ x = n + 37) ∧ (¬ x = n + 38) ∧ (¬ x = n + 39) ∧ (¬ x = n + 40) ∧ (¬ x = n + 41) ∧ (¬ x = n + 42) ∧ (¬ x = n + 43) ∧ (¬ x = n + 44) ∧ (¬ x = n + 45) ∧ (¬ x = n + 46) ∧ (¬ x = n + 47) ∧ (¬ x = n + 48) ∧ (¬ x = n + 49) ∧ (¬ x = n + 50) ∧ (¬ x = n + 51) ∧ (¬ x = n + 52) ∧ (¬ x = n + 53) := by omega
  refine ⟨?_, ?_, fun j => ?_, fun j => ?_⟩
  · simp [nkM, up_ap, e1, e2, e3, e4, e5, e6, e7, e8, e9, e10, e11, e12, e13, e14, e15, e16, e17, e18, e19, e20, e21, e22, e23, e24, e25, e26, e27, e28, e29, e30, e31, e32, e33, e34, e35, e36, e37, e38, e39, e40, e41, e42, e43, e44, e45, e46, e47, e48, e49, e50, e51, e52, e53]
  · simp [nlM, up_ap, e1, e2, e3, e4, e5, e6, e7, e8, e9, e10, e11, e12, e13, e14, e15, e16, e17, e18, e19, e20, e21, e22, e23, e24, e25, e26, e27, e28, e29, e30, e31, e32, e33, e34, e35, e36, e37, e38, e39, e40, e41, e42, e43, e44, e45, e46, e47, e48, e49, e50, e51, e52, e53]
  · simp [niM, zi_ap, ui_ap, e1, e2, e3, e4, e5, e6, e7, e8, e9, e10, e11, e12, e13, e14, e15, e16, e17, e18, e19, e20, e21, e22, e23, e24, e25, e26, e27, e28, e29, e30, e31, e32, e33, e34, e35, e36, e37, e38, e39, e40, e41, e42, e43, e44, e45, e46, e47, e48, e49, e50, e51, e52, e53]
  · simp [nrM, zr_ap, ur_ap, e1, e2, e3, e4, e5, e6, e7, e8, e9, e10, e11, e12, e13, e14, e15, e16, e17, e18, e19, e20, e21, e22, e23, e24, e25, e26, e27, e28, e29, e30, e31, e32, e33, e34, e35, e36, e37, e38, e39, e40, e41, e42, e43, e44, e45, e46, e47, e48, e49, e50, e51, e52, e53]
theorem nM_high (x : Nat) (hx : n + 54 ≤ x) (h : K x = 0) : nkM n K x = 0 := by
  obtain ⟨e1, e2, e3, e4, e5, e6, e7, e8, e9, e10, e11, e12, e13, e14, e15, e16, e17, e18, e19, e20, e21, e22, e23, e24, e25, e26, e27, e28, e29, e30, e31, e32, e33, e34, e35, e36, e37, e38, e39, e40, e41, e42, e43, e44, e45, e46, e47, e48, e49, e50, e51, e52, e53⟩ : (¬ x = n + 1) ∧ (¬ x = n + 2) ∧ (¬ x = n + 3) ∧ (¬ x = n + 4) ∧ (¬ x = n + 5) ∧ (¬ x = n + 6) ∧ (¬ x = n + 7) ∧ (¬ x = n + 8) ∧ (¬ x = n + 9) ∧ (¬ x = n + 10) ∧ (¬ x = n + 11) ∧ (¬ x = n + 12) ∧ (¬ x = n + 13) ∧ (¬ x = n + 14) ∧ (¬ x = n + 15) ∧ (¬ x = n + 16) ∧ (¬ x = n + 17) ∧ (¬ x = n + 18) ∧ (¬ x = n + 19) ∧ (¬ x = n + 20) ∧ (¬ x = n + 21) ∧ (¬ x = n + 22) ∧ (¬ x = n + 23) ∧ (¬ x = n + 24) ∧ (¬ x = n + 25) ∧ (¬ x = n + 26) ∧ (¬ x = n + 27) ∧ (¬ x = n + 28) ∧ (¬ x = n + 29) ∧ (¬ x = n + 30) ∧ (¬ x = n + 31) ∧ (¬ x = n + 32) ∧ (¬ x = n + 33) ∧ (¬ x = n + 34) ∧ (¬ x = n + 35) ∧ (¬ x = n + 36) ∧ (¬ x = n + 37) ∧ (¬ x = n + 38) ∧ (¬ x = n + 39) ∧ (¬ x = n + 40) ∧ (¬ x = n + 41) ∧ (¬ x = n + 42) ∧ (¬ x = n + 43) ∧ (¬ x = n + 44) ∧ (¬ x = n + 45) ∧ (¬ x = n + 46) ∧ (¬ x = n + 47) ∧ (¬ x = n + 48) ∧ (¬ x = n + 49) ∧ (¬ x = n + 50) ∧ (¬ x = n + 51) ∧ (¬ x = n + 52) ∧ (¬ x = n + 53) := by omega
  simp [nkM, up_ap, e1, e2, e3, e4, e5, e6, e7, e8, e9, e10, e11, e12, e13, e14, e15, e16, e17, e18, e19, e20, e21, e22, e23, e24, e25, e26, e27, e28, e29, e30, e31, e32, e33, e34, e35, e36, e37, e38, e39, e40, e41, e42, e43, e44, e45, e46, e47, e48, e49, e50, e51, e52, e53, h]
theorem nM_1  : nrM n R (n + 1) 1 = n + 1 + 1 ∧ nkM n K (n + 1 + 1) = 20 ∧ nlM n L (n + 1 + 1) = 200 := by
  refine ⟨?_, ?_, ?_⟩
  · simp [nrM, zr_ap, ur_ap, Nat.add_assoc]
  · simp [nkM, up_ap, Nat.add_assoc]
  · simp [nlM, up_ap, Nat.add_assoc]
theorem nM_2  : nrM n R (n + 1) 3 = n + 1 + 2 ∧ nkM n K (n + 1 + 2) = 20 ∧ nlM n L (n + 1 + 2) = 20 := by
  refine ⟨?_, ?_, ?_⟩
  · simp [nrM, zr_ap, ur_ap, Nat.add_assoc]
  · simp [nkM, up_ap, Nat.add_assoc]
  · simp [nlM, up_ap, Nat.add_assoc]
theorem nM_3  : nrM n R (n + 1) 4 = n + 1 + 3 ∧ nkM n K (n + 1 + 3) = 20 ∧ nlM n L (n + 1 + 3) = 20 := by
  refine ⟨?_, ?_, ?_⟩
  · simp [nrM, zr_ap, ur_ap, Nat.add_assoc]
  · simp [nkM, up_ap, Nat.add_assoc]
  · simp [nlM, up_ap, Nat.add_assoc]
theorem nM_4  : nrM n R (n + 1) 5 = n + 1 + 4 ∧ nkM n K (n + 1 + 4) = 20 ∧ nlM n L (n + 1 + 4) = 20 := by
  refine ⟨?_, ?_, ?_⟩
  · simp [nrM, zr_ap, ur_ap, Nat.add_assoc]
  · simp [nkM, up_ap, Nat.add_assoc]
  · simp [nlM, up_ap, Nat.add_assoc]
theorem nM_5  : nrM n R (n + 1) 7 = n + 1 + 5 ∧ nkM n K (n + 1 + 5) = 20 ∧ nlM n L (n + 1 + 5) = 6 := by
  refine ⟨?_, ?_, ?_⟩
  · simp [nrM, zr_ap, ur_ap, Nat.add_assoc]
  · simp [nkM, up_ap, Nat.add_assoc]
  · simp [nlM, up_ap, Nat.add_assoc]
theorem nM_6  : nrM n R (n + 1) 8 = n + 1 + 6 ∧ nkM n K (n + 1 + 6) = 20 ∧ nlM n L (n + 1 + 6) = 6 := by
  refine ⟨?_, ?_, ?_⟩
  · simp [nrM, zr_ap, ur_ap, Nat.add_assoc]
  · simp [nkM, up_ap, Nat.add_assoc]
  · simp [nlM, up_ap, Nat.add_assoc]
theorem nM_7  : nrM n R (n + 1) 18 = n + 1 + 7 ∧ nkM n K (n + 1 + 7) = 20 ∧ nlM n L (n + 1 + 7) = 30 := by
  refine ⟨?_, ?_, ?_⟩
  · simp [nrM, zr_ap, ur_ap, Nat.add_assoc]
  · simp [nkM, up_ap, Nat.add_assoc]
  · simp [nlM, up_ap, Nat.add_assoc]
theorem nM_8  : nrM n R (n + 1) 19 = n + 1 + 8 ∧ nkM n K (n + 1 + 8) = 20 ∧ nlM n L (n + 1 + 8) = 30 := by
  refine ⟨?_, ?_, ?_⟩
  · simp [nrM, zr_ap, ur_ap, Nat.add_assoc]
  · simp [nkM, up_ap, Nat.add_assoc]
  · simp [nlM, up_ap, Nat.add_assoc]
theorem nM_9  : nrM n R (n + 1) 20 = n + 1 + 9 ∧ nkM n K (n + 1 + 9) = 20 ∧ nlM n L (n + 1 + 9) = 30 := by
  refine ⟨?_, ?_, ?_⟩
  · simp [nrM, zr_ap, ur_ap, Nat.add_assoc]
  · simp [nkM, up_ap, Nat.add_assoc]
  · simp [nlM, up_ap, Nat.add_assoc]
theorem nM_10  : nrM n R (n + 1) 21 = n + 1 + 10 ∧ nkM n K (n + 1 + 10) = 20 ∧ nlM n L (n + 1 + 10) = 30 := by
  refine ⟨?_, ?_, ?_⟩
  · simp [nrM, zr_ap, ur_ap, Nat.add_assoc]
  · simp [nkM, up_ap, Nat.add_assoc]
  · simp [nlM, up_ap, Nat.add_assoc]
theorem nM_11  : nrM n R (n + 1) 22 = n + 1 + 11 ∧ nkM n K (n + 1 + 11) = 20 ∧ nlM n L (n + 1 + 11) = 30 := by
  refine ⟨?_, ?_, ?_⟩
  · simp [nrM, zr_ap, ur_ap, Nat.add_assoc]
  · simp [nkM, up_ap, Nat.add_assoc]
  · simp [nlM, up_ap, Nat.add_assoc]
theorem nM_12  : nrM n R (n + 1) 23 = n + 1 + 12 ∧ nkM n K (n + 1 + 12) = 20 ∧ nlM n L (n + 1 + 12) = 30 := by
  refine ⟨?_, ?_, ?_⟩
  · simp [nrM, zr_ap, ur_ap, Nat.add_assoc]
  · simp [nkM, up_ap, Nat.add_assoc]
  · simp [nlM, up_ap, Nat.add_assoc]
theorem nM_13  : nrM n R (n + 1) 24 = n + 1 + 13 ∧ nkM n K (n + 1 + 13) = 20 ∧ nlM n L (n + 1 + 13) = 30 := by
  refine ⟨?_, ?_, ?_⟩
  · simp [nrM, zr_ap, ur_ap, Nat.add_assoc]
  · simp [nkM, up_ap, Nat.add_assoc]
  · simp [nlM, up_ap, Nat.add_assoc]
theorem nM_14  : nrM n R (n + 1) 25 = n + 1 + 14 ∧ nkM n K (n + 1 + 14) = 20 ∧ nlM n L (n + 1 + 14) = 30 := by
  refine ⟨?_, ?_, ?_⟩
  · simp [nrM, zr_ap, ur_ap, Nat.add_assoc]
  · simp [nkM, up_ap, Nat.add_assoc]
  · simp [nlM, up_ap, Nat.add_assoc]
theorem nM_15  : nrM n R (n + 1) 26 = n + 1 + 15 ∧ nkM n K (n + 1 + 15) = 20 ∧ nlM n L (n + 1 + 15) = 30 := by
  refine ⟨?_, ?_, ?_⟩
  · simp [nrM, zr_ap, ur_ap, Nat.add_assoc]
  · simp [nkM, up_ap, Nat.add_assoc]
  · simp [nlM, up_ap, Nat.add_assoc]
theorem nM_16  : nrM n R (n + 1) 27 = n + 1 + 16 ∧ nkM n K (n + 1 + 16) = 20 ∧ nlM n L (n + 1 + 16) = 30 := by
  refine ⟨?_, ?_, ?_⟩
  · simp [nrM, zr_ap, ur_ap, Nat.add_assoc]
  · simp [nkM, up_ap, Nat.add_assoc]
  · simp [nlM, up_ap, Nat.add_assoc]
theorem nM_17  : nrM n R (n + 1) 28 = n + 1 + 17 ∧ nkM n K (n + 1 + 17) = 20 ∧ nlM n L (n + 1 + 17) = 30 := by
  refine ⟨?_, ?_, ?_⟩
  · simp [nrM, zr_ap, ur_ap, Nat.add_assoc]
  · simp [nkM, up_ap, Nat.add_assoc]
  · simp [nlM, up_ap, Nat.add_assoc]
theorem nM_18  : nrM n R (n + 1) 29 = n + 1 + 18 ∧ nkM n K (n + 1 + 18) = 21 ∧ nlM n L (n + 1 + 18) = 30 := by
  refine ⟨?_, ?_, ?_⟩
  · simp [nrM, zr_ap, ur_ap, Nat.add_assoc]
  · simp [nkM, up_ap, Nat.add_assoc]
  · simp [nlM, up_ap, Nat.add_assoc]
theorem nM_19  : nrM n R (n + 1) 30 = n + 1 + 19 ∧ nkM n K (n + 1 + 19) = 21 ∧ nlM n L (n + 1 + 19) = 30 := by
  refine ⟨?_, ?_, ?_⟩
  · simp [nrM, zr_ap, ur_ap, Nat.add_assoc]
  · simp [nkM, up_ap, Nat.add_assoc]
  · simp [nlM, up_ap, Nat.add_assoc]
theorem nM_20  : nrM n R (n + 1) 31 = n + 1 + 20 ∧ nkM n K (n + 1 + 20) = 20 ∧ nlM n L (n + 1 + 20) = 30 := by
  refine ⟨?_, ?_, ?_⟩
  · simp [nrM, zr_ap, ur_ap, Nat.add_assoc]
  · simp [nkM, up_ap, Nat.add_assoc]
  · simp [nlM, up_ap, Nat.add_assoc]
theorem nM_21  : nrM n R (n + 1) 32 = n + 1 + 21 ∧ nkM n K (n + 1 + 21) = 20 ∧ nlM n L (n + 1 + 21) = 30 := by
  refine ⟨?_, ?_, ?_⟩
  · simp [nrM, zr_ap, ur_ap, Nat.add_assoc]
  · simp [nkM, up_ap, Nat.add_assoc]
  · simp [nlM, up_ap, Nat.add_assoc]
theorem nM_22  : nrM n R (n + 1) 33 = n + 1 + 22 ∧ nkM n K (n + 1 + 22) = 20 ∧ nlM n L (n + 1 + 22) = 120 := by
  refine ⟨?_, ?_, ?_⟩
  · simp [nrM, zr_ap, ur_ap, Nat.add_assoc]
  · simp [nkM, up_ap, Nat.add_assoc]
  · simp [nlM, up_ap, Nat.add_assoc]
theorem nM_23  : nrM n R (n + 1) 34 = n + 1 + 23 ∧ nkM n K (n + 1 + 23) = 20 ∧ nlM n L (n + 1 + 23) = 7 := by
  refine ⟨?_, ?_, ?_⟩
  · simp [nrM, zr_ap, ur_ap, Nat.add_assoc]
  · simp [nkM, up_ap, Nat.add_assoc]
  · simp [nlM, up_ap, Nat.add_assoc]
theorem nM_24  : nrM n R (n + 1) 36 = n + 1 + 24 ∧ nkM n K (n + 1 + 24) = 20 ∧ nlM n L (n + 1 + 24) = 84000 := by
  refine ⟨?_, ?_, ?_⟩
  · simp [nrM, zr_ap, ur_ap, Nat.add_assoc]
  · simp [nkM, up_ap, Nat.add_assoc]
  · simp [nlM, up_ap, Nat.add_assoc]
theorem nM_25  : nrM n R (n + 1) 37 = n + 1 + 25 ∧ nkM n K (n + 1 + 25) = 20 ∧ nlM n L (n + 1 + 25) = 84000 := by
  refine ⟨?_, ?_, ?_⟩
  · simp [nrM, zr_ap, ur_ap, Nat.add_assoc]
  · simp [nkM, up_ap, Nat.add_assoc]
  · simp [nlM, up_ap, Nat.add_assoc]
theorem nM_26  : nrM n R (n + 1) 38 = n + 1 + 26 ∧ nkM n K (n + 1 + 26) = 20 ∧ nlM n L (n + 1 + 26) = 84000 := by
  refine ⟨?_, ?_, ?_⟩
  · simp [nrM, zr_ap, ur_ap, Nat.add_assoc]
  · simp [nkM, up_ap, Nat.add_assoc]
  · simp [nlM, up_ap, Nat.add_assoc]
theorem nM_27  : nrM n R (n + 1) 39 = n + 1 + 27 ∧ nkM n K (n + 1 + 27) = 20 ∧ nlM n L (n + 1 + 27) = 50 := by
  refine ⟨?_, ?_, ?_⟩
  · simp [nrM, zr_ap, ur_ap, Nat.add_assoc]
  · simp [nkM, up_ap, Nat.add_assoc]
  · simp [nlM, up_ap, Nat.add_assoc]
theorem nM_28  : nrM n R (n + 1) 42 = n + 1 + 28 ∧ nkM n K (n + 1 + 28) = 20 ∧ nlM n L (n + 1 + 28) = 1000 := by
  refine ⟨?_, ?_, ?_⟩
  · simp [nrM, zr_ap, ur_ap, Nat.add_assoc]
  · simp [nkM, up_ap, Nat.add_assoc]
  · simp [nlM, up_ap, Nat.add_assoc]
theorem nM_29  : nrM n R (n + 1) 43 = n + 1 + 29 ∧ nkM n K (n + 1 + 29) = 20 ∧ nlM n L (n + 1 + 29) = 20 := by
  refine ⟨?_, ?_, ?_⟩
  · simp [nrM, zr_ap, ur_ap, Nat.add_assoc]
  · simp [nkM, up_ap, Nat.add_assoc]
  · simp [nlM, up_ap, Nat.add_assoc]
theorem nM_30  : nrM n R (n + 1) 44 = n + 1 + 30 ∧ nkM n K (n + 1 + 30) = 20 ∧ nlM n L (n + 1 + 30) = 20 := by
  refine ⟨?_, ?_, ?_⟩
  · simp [nrM, zr_ap, ur_ap, Nat.add_assoc]
  · simp [nkM, up_ap, Nat.add_assoc]
  · simp [nlM, up_ap, Nat.add_assoc]
theorem nM_31  : nrM n R (n + 1) 45 = n + 1 + 31 ∧ nkM n K (n + 1 + 31) = 20 ∧ nlM n L (n + 1 + 31) = 20 := by
  refine ⟨?_, ?_, ?_⟩
  · simp [nrM, zr_ap, ur_ap, Nat.add_assoc]
  · simp [nkM, up_ap, Nat.add_assoc]
  · simp [nlM, up_ap, Nat.add_assoc]
theorem nM_32  : nrM n R (n + 1) 52 = n + 1 + 32 ∧ nkM n K (n + 1 + 32) = 20 ∧ nlM n L (n + 1 + 32) = 9 := by
  refine ⟨?_, ?_, ?_⟩
  · simp [nrM, zr_ap, ur_ap, Nat.add_assoc]
  · simp [nkM, up_ap, Nat.add_assoc]
  · simp [nlM, up_ap, Nat.add_assoc]
theorem nM_33  : nrM n R (n + 1) 53 = n + 1 + 33 ∧ nkM n K (n + 1 + 33) = 21 ∧ nlM n L (n + 1 + 33) = 60 := by
  refine ⟨?_, ?_, ?_⟩
  · simp [nrM, zr_ap, ur_ap, Nat.add_assoc]
  · simp [nkM, up_ap, Nat.add_assoc]
  · simp [nlM, up_ap, Nat.add_assoc]
theorem nM_34  : nrM n R (n + 1) 55 = n + 1 + 34 ∧ nkM n K (n + 1 + 34) = 20 ∧ nlM n L (n + 1 + 34) = 60 := by
  refine ⟨?_, ?_, ?_⟩
  · simp [nrM, zr_ap, ur_ap, Nat.add_assoc]
  · simp [nkM, up_ap, Nat.add_assoc]
  · simp [nlM, up_ap, Nat.add_assoc]
theorem nM_35  : nrM n R (n + 1) 57 = n + 1 + 35 ∧ nkM n K (n + 1 + 35) = 21 ∧ nlM n L (n + 1 + 35) = 60 := by
  refine ⟨?_, ?_, ?_⟩
  · simp [nrM, zr_ap, ur_ap, Nat.add_assoc]
  · simp [nkM, up_ap, Nat.add_assoc]
  · simp [nlM, up_ap, Nat.add_assoc]
theorem nM_36  : nrM n R (n + 1) 58 = n + 1 + 36 ∧ nkM n K (n + 1 + 36) = 20 ∧ nlM n L (n + 1 + 36) = 180 := by
  refine ⟨?_, ?_, ?_⟩
  · simp [nrM, zr_ap, ur_ap, Nat.add_assoc]
  · simp [nkM, up_ap, Nat.add_assoc]
  · simp [nlM, up_ap, Nat.add_assoc]
theorem nM_37  : nrM n R (n + 1) 59 = n + 1 + 37 ∧ nkM n K (n + 1 + 37) = 21 ∧ nlM n L (n + 1 + 37) = 180 := by
  refine ⟨?_, ?_, ?_⟩
  · simp [nrM, zr_ap, ur_ap, Nat.add_assoc]
  · simp [nkM, up_ap, Nat.add_assoc]
  · simp [nlM, up_ap, Nat.add_assoc]
theorem nM_38  : nrM n R (n + 1) 60 = n + 1 + 38 ∧ nkM n K (n + 1 + 38) = 21 ∧ nlM n L (n + 1 + 38) = 180 := by
  refine ⟨?_, ?_, ?_⟩
  · simp [nrM, zr_ap, ur_ap, Nat.add_assoc]
  · simp [nkM, up_ap, Nat.add_assoc]
  · simp [nlM, up_ap, Nat.add_assoc]
theorem nM_39  : nrM n R (n + 1) 62 = n + 1 + 39 ∧ nkM n K (n + 1 + 39) = 20 ∧ nlM n L (n + 1 + 39) = 30 := by
  refine ⟨?_, ?_, ?_⟩
  · simp [nrM, zr_ap, ur_ap, Nat.add_assoc]
  · simp [nkM, up_ap, Nat.add_assoc]
  · simp [nlM, up_ap, Nat.add_assoc]
theorem nM_40  : nrM n R (n + 1) 63 = n + 1 + 40 ∧ nkM n K (n + 1 + 40) = 20 ∧ nlM n L (n + 1 + 40) = 30 := by
  refine ⟨?_, ?_, ?_⟩
  · simp [nrM, zr_ap, ur_ap, Nat.add_assoc]
  · simp [nkM, up_ap, Nat.add_assoc]
  · simp [nlM, up_ap, Nat.add_assoc]
theorem nM_41  : nrM n R (n + 1) 65 = n + 1 + 41 ∧ nkM n K (n + 1 + 41) = 20 ∧ nlM n L (n + 1 + 41) = 4 := by
  refine ⟨?_, ?_, ?_⟩
  · simp [nrM, zr_ap, ur_ap, Nat.add_assoc]
  · simp [nkM, up_ap, Nat.add_assoc]
  · simp [nlM, up_ap, Nat.add_assoc]
theorem nM_42  : nrM n R (n + 1) 67 = n + 1 + 42 ∧ nkM n K (n + 1 + 42) = 20 ∧ nlM n L (n + 1 + 42) = 5 := by
  refine ⟨?_, ?_, ?_⟩
  · simp [nrM, zr_ap, ur_ap, Nat.add_assoc]
  · simp [nkM, up_ap, Nat.add_assoc]
  · simp [nlM, up_ap, Nat.add_assoc]
theorem nM_43  : nrM n R (n + 1) 68 = n + 1 + 43 ∧ nkM n K (n + 1 + 43) = 20 ∧ nlM n L (n + 1 + 43) = 5 := by
  refine ⟨?_, ?_, ?_⟩
  · simp [nrM, zr_ap, ur_ap, Nat.add_assoc]
  · simp [nkM, up_ap, Nat.add_assoc]
  · simp [nlM, up_ap, Nat.add_assoc]
theorem nM_44  : nrM n R (n + 1) 69 = n + 1 + 44 ∧ nkM n K (n + 1 + 44) = 20 ∧ nlM n L (n + 1 + 44) = 4 := by
  refine ⟨?_, ?_, ?_⟩
  · simp [nrM, zr_ap, ur_ap, Nat.add_assoc]
  · simp [nkM, up_ap, Nat.add_assoc]
  · simp [nlM, up_ap, Nat.add_assoc]
theorem nM_45  : nrM n R (n + 1) 70 = n + 1 + 45 ∧ nkM n K (n + 1 + 45) = 20 ∧ nlM n L (n + 1 + 45) = 30 := by
  refine ⟨?_, ?_, ?_⟩
  · simp [nrM, zr_ap, ur_ap, Nat.add_assoc]
  · simp [nkM, up_ap, Nat.add_assoc]
  · simp [nlM, up_ap, Nat.add_assoc]
theorem nM_46  : nrM n R (n + 1) 71 = n + 1 + 46 ∧ nkM n K (n + 1 + 46) = 20 ∧ nlM n L (n + 1 + 46) = 30 := by
  refine ⟨?_, ?_, ?_⟩
  · simp [nrM, zr_ap, ur_ap, Nat.add_assoc]
  · simp [nkM, up_ap, Nat.add_assoc]
  · simp [nlM, up_ap, Nat.add_assoc]
theorem nM_47  : nrM n R (n + 1) 72 = n + 1 + 47 ∧ nkM n K (n + 1 + 47) = 21 ∧ nlM n L (n + 1 + 47) = 900 := by
  refine ⟨?_, ?_, ?_⟩
  · simp [nrM, zr_ap, ur_ap, Nat.add_assoc]
  · simp [nkM, up_ap, Nat.add_assoc]
  · simp [nlM, up_ap, Nat.add_assoc]
theorem nM_48  : nrM n R (n + 1) 73 = n + 1 + 48 ∧ nkM n K (n + 1 + 48) = 20 ∧ nlM n L (n + 1 + 48) = 6 := by
  refine ⟨?_, ?_, ?_⟩
  · simp [nrM, zr_ap, ur_ap, Nat.add_assoc]
  · simp [nkM, up_ap, Nat.add_assoc]
  · simp [nlM, up_ap, Nat.add_assoc]
theorem nM_49  : nrM n R (n + 1) 75 = n + 1 + 49 ∧ nkM n K (n + 1 + 49) = 20 ∧ nlM n L (n + 1 + 49) = 6 := by
  refine ⟨?_, ?_, ?_⟩
  · simp [nrM, zr_ap, ur_ap, Nat.add_assoc]
  · simp [nkM, up_ap, Nat.add_assoc]
  · simp [nlM, up_ap, Nat.add_assoc]
theorem nM_50  : nrM n R (n + 1) 76 = n + 1 + 50 ∧ nkM n K (n + 1 + 50) = 20 ∧ nlM n L (n + 1 + 50) = 6 := by
  refine ⟨?_, ?_, ?_⟩
  · simp [nrM, zr_ap, ur_ap, Nat.add_assoc]
  · simp [nkM, up_ap, Nat.add_assoc]
  · simp [nlM, up_ap, Nat.add_assoc]
theorem nM_51  : nrM n R (n + 1) 77 = n + 1 + 51 ∧ nkM n K (n + 1 + 51) = 20 ∧ nlM n L (n + 1 + 51) = 24 := by
  refine ⟨?_, ?_, ?_⟩
  · simp [nrM, zr_ap, ur_ap, Nat.add_assoc]
  · simp [nkM, up_ap, Nat.add_assoc]
  · simp [nlM, up_ap, Nat.add_assoc]
theorem nM_52  : nrM n R (n + 1) 78 = n + 1 + 52 ∧ nkM n K (n + 1 + 52) = 20 ∧ nlM n L (n + 1 + 52) = 21 := by
  refine ⟨?_, ?_, ?_⟩
  · simp [nrM, zr_ap, ur_ap, Nat.add_assoc]
  · simp [nkM, up_ap, Nat.add_assoc]
  · simp [nlM, up_ap, Nat.add_assoc]
theorem nM_0  : nkM n K (n + 1) = 13 := by
  simp [nkM, up_ap]
theorem nM_J (x j : Nat) (h1 : n + 1 ≤ x) (h2 : x ≤ n + 53) (h3 : ¬ (x = n + 1 ∧ j = 9)) (h4 : ¬ (x = n + 1 ∧ j = 10)) : niM n I x j = 0 := by
  rcases (by omega : x = n + 1 ∨ x = n + 2 ∨ x = n + 3 ∨ x = n + 4 ∨ x = n + 5 ∨ x = n + 6 ∨ x = n + 7 ∨ x = n + 8 ∨ x = n + 9 ∨ x = n + 10 ∨ x = n + 11 ∨ x = n + 12 ∨ x = n + 13 ∨ x = n + 14 ∨ x = n + 15 ∨ x = n + 16 ∨ x = n + 17 ∨ x = n + 18 ∨ x = n + 19 ∨ x = n + 20 ∨ x = n + 21 ∨ x = n + 22 ∨ x = n + 23 ∨ x = n + 24 ∨ x = n + 25 ∨ x = n + 26 ∨ x = n + 27 ∨ x = n + 28 ∨ x = n + 29 ∨ x = n + 30 ∨ x = n + 31 ∨ x = n + 32 ∨ x = n + 33 ∨ x = n + 34 ∨ x = n + 35 ∨ x = n + 36 ∨ x = n + 37 ∨ x = n + 38 ∨ x = n + 39 ∨ x = n + 40 ∨ x = n + 41 ∨ x = n + 42 ∨ x = n + 43 ∨ x = n + 44 ∨ x = n + 45 ∨ x = n + 46 ∨ x = n + 47 ∨ x = n + 48 ∨ x = n + 49 ∨ x = n + 50 ∨ x = n + 51 ∨ x = n + 52 ∨ x = n + 53) with e | e | e | e | e | e | e | e | e | e | e | e | e | e | e | e | e | e | e | e | e | e | e | e | e | e | e | e | e | e | e | e | e | e | e | e | e | e | e | e | e | e | e | e | e | e | e | e | e | e | e | e | e <;> subst e
  · have e9 : ¬ j = 9 := fun e => h3 ⟨rfl, e⟩
    have e10 : ¬ j = 10 := fun e => h4 ⟨rfl, e⟩
    simp [niM, zi_ap, ui_ap, e9, e10]
  all_goals simp [niM, zi_ap, ui_ap]
theorem nM_r  : niM n I (n + 1) 9 = 1 ∧ niM n I (n + 1) 10 = 100 := by
  simp [niM, zi_ap, ui_ap]
theorem nM_S : m_S (n + 1) (nkM n K) (nlM n L) (nrM n R) := ⟨by omega, nM_0, (List.forall_mem_cons.mpr ⟨nM_1, (List.forall_mem_cons.mpr ⟨nM_2, (List.forall_mem_cons.mpr ⟨nM_3, (List.forall_mem_cons.mpr ⟨nM_4, (List.forall_mem_cons.mpr ⟨nM_5, (List.forall_mem_cons.mpr ⟨nM_6, (List.forall_mem_cons.mpr ⟨nM_7, (List.forall_mem_cons.mpr ⟨nM_8, (List.forall_mem_cons.mpr ⟨nM_9, (List.forall_mem_cons.mpr ⟨nM_10, (List.forall_mem_cons.mpr ⟨nM_11, (List.forall_mem_cons.mpr ⟨nM_12, (List.forall_mem_cons.mpr ⟨nM_13, (List.forall_mem_cons.mpr ⟨nM_14, (List.forall_mem_cons.mpr ⟨nM_15, (List.forall_mem_cons.mpr ⟨nM_16, (List.forall_mem_cons.mpr ⟨nM_17, (List.forall_mem_cons.mpr ⟨nM_18, (List.forall_mem_cons.mpr ⟨nM_19, (List.forall_mem_cons.mpr ⟨nM_20, (List.forall_mem_cons.mpr ⟨nM_21, (List.forall_mem_cons.mpr ⟨nM_22, (List.forall_mem_cons.mpr ⟨nM_23, (List.forall_mem_cons.mpr ⟨nM_24, (List.forall_mem_cons.mpr ⟨nM_25, (List.forall_mem_cons.mpr ⟨nM_26, (List.forall_mem_cons.mpr ⟨nM_27, (List.forall_mem_cons.mpr ⟨nM_28, (List.forall_mem_cons.mpr ⟨nM_29, (List.forall_mem_cons.mpr ⟨nM_30, (List.forall_mem_cons.mpr ⟨nM_31, (List.forall_mem_cons.mpr ⟨nM_32, (List.forall_mem_cons.mpr ⟨nM_33, (List.forall_mem_cons.mpr ⟨nM_34, (List.forall_mem_cons.mpr ⟨nM_35, (List.forall_mem_cons.mpr ⟨nM_36, (List.forall_mem_cons.mpr ⟨nM_37, (List.forall_mem_cons.mpr ⟨nM_38, (List.forall_mem_cons.mpr ⟨nM_39, (List.forall_mem_cons.mpr ⟨nM_40, (List.forall_mem_cons.mpr ⟨nM_41, (List.forall_mem_cons.mpr ⟨nM_42, (List.forall_mem_cons.mpr ⟨nM_43, (List.forall_mem_cons.mpr ⟨nM_44, (List.forall_mem_cons.mpr ⟨nM_45, (List.forall_mem_cons.mpr ⟨nM_46, (List.forall_mem_cons.mpr ⟨nM_47, (List.forall_mem_cons.mpr ⟨nM_48, (List.forall_mem_cons.mpr ⟨nM_49, (List.forall_mem_cons.mpr ⟨nM_50, (List.forall_mem_cons.mpr ⟨nM_51, (List.forall_mem_cons.mpr ⟨nM_52, (fun _ h => nomatch h)⟩)⟩)⟩)⟩)⟩)⟩)⟩)⟩)⟩)⟩)⟩)⟩)⟩)⟩)⟩)⟩)⟩)⟩)⟩)⟩)⟩)⟩)⟩)⟩)⟩)⟩)⟩)⟩)⟩)⟩)⟩)⟩)⟩)⟩)⟩)⟩)⟩)⟩)⟩)⟩)⟩)⟩)⟩)⟩)⟩)⟩)⟩)⟩)⟩)⟩)⟩)⟩)⟩
theorem st_1 {m q : Nat} (hm : ¬ m = 0) (hk : K m = 13) (hq : ¬ m = q + 1) (hP : a_at d (a_xm a_m169) 13 [some (a_rf m)] [] (q + 1 + 1, t + 200, a_up K (q + 1) 20, a_up L (q + 1) 200, a_zi I (q + 1), a_ur (a_zr R (q + 1)) m 1 (q + 1)) P) : a_at d (a_xm a_m169) 4 [some (a_rf m)] [] (q + 1, t, K, L, I, R) P := by
  simp only [q169_4, q169_5, q169_8, q169_10, as_nil, as_i, as_r, Nat.reduceAdd, Nat.reduceLeDiff, z_eq0, z_eq1, z_or, z_em, Classical.not_not, not_false_eq_true, not_true_eq_false, true_and, and_true, false_and, and_false, and_self, true_implies, false_implies, implies_true, Option.toList_some, Option.toList_none, List.cons_append, List.nil_append, Nat.add_eq_zero_iff, a_nl_i, a_nl_r, a_nl_n, true_or, or_true, eq_self, a_isRA_22, a_isRA_24, a_isRA_32, a_isA_20, hm, cm_n200, mg_n200, up_ap, hq, if_false, hk]
  first
    | exact hP
    | exact ⟨by decide, hP⟩
theorem st_2 {m q : Nat} (hm : ¬ m = 0) (hk : K m = 13) (hq : ¬ m = q + 1) (hP : a_at d (a_xm a_m169) 21 [some (a_rf m)] [] (q + 1 + 1, t + 20, a_up K (q + 1) 20, a_up L (q + 1) 20, a_zi I (q + 1), a_ur (a_zr R (q + 1)) m 3 (q + 1)) P) : a_at d (a_xm a_m169) 13 [some (a_rf m)] [] (q + 1, t, K, L, I, R) P := by
  simp only [q169_13, q169_14, q169_16, q169_18, as_nil, as_i, as_r, Nat.reduceAdd, Nat.reduceLeDiff, z_eq0, z_eq1, z_or, z_em, Classical.not_not, not_false_eq_true, not_true_eq_false, true_and, and_true, false_and, and_false, and_self, true_implies, false_implies, implies_true, Option.toList_some, Option.toList_none, List.cons_append, List.nil_append, Nat.add_eq_zero_iff, a_nl_i, a_nl_r, a_nl_n, true_or, or_true, eq_self, a_isRA_22, a_isRA_24, a_isRA_32, a_isA_20, hm, cm_n20, mg_n20, up_ap, hq, if_false, hk]
  first
    | exact hP
    | exact ⟨by decide, hP⟩
theorem st_3 {m q : Nat} (hm : ¬ m = 0) (hk : K m = 13) (hq : ¬ m = q + 1) (hP : a_at d (a_xm a_m169) 29 [some (a_rf m)] [] (q + 1 + 1, t + 20, a_up K (q + 1) 20, a_up L (q + 1) 20, a_zi I (q + 1), a_ur (a_zr R (q + 1)) m 4 (q + 1)) P) : a_at d (a_xm a_m169) 21 [some (a_rf m)] [] (q + 1, t, K, L, I, R) P := by
  simp only [q169_21, q169_22, q169_24, q169_26, as_nil, as_i, as_r, Nat.reduceAdd, Nat.reduceLeDiff, z_eq0, z_eq1, z_or, z_em, Classical.not_not, not_false_eq_true, not_true_eq_false, true_and, and_true, false_and, and_false, and_self, true_implies, false_implies, implies_true, Option.toList_some, Option.toList_none, List.cons_append, List.nil_append, Nat.add_eq_zero_iff, a_nl_i, a_nl_r, a_nl_n, true_or, or_true, eq_self, a_isRA_22, a_isRA_24, a_isRA_32, a_isA_20, hm, cm_n20, mg_n20, up_ap, hq, if_false, hk]
  first
    | exact hP
    | exact ⟨by decide, hP⟩
theorem st_4 {m q : Nat} (hm : ¬ m = 0) (hk : K m = 13) (hq : ¬ m = q + 1) (hP : a_at d (a_xm a_m169) 37 [some (a_rf m)] [] (q + 1 + 1, t + 20, a_up K (q + 1) 20, a_up L (q + 1) 20, a_zi I (q + 1), a_ur (a_zr R (q + 1)) m 5 (q + 1)) P) : a_at d (a_xm a_m169) 29 [some (a_rf m)] [] (q + 1, t, K, L, I, R) P := by
  simp only [q169_29, q169_30, q169_32, q169_34, as_nil, as_i, as_r, Nat.reduceAdd, Nat.reduceLeDiff, z_eq0, z_eq1, z_or, z_em, Classical.not_not, not_false_eq_true, not_true_eq_false, true_and, and_true, false_and, and_false, and_self, true_implies, false_implies, implies_true, Option.toList_some, Option.toList_none, List.cons_append, List.nil_append, Nat.add_eq_zero_iff, a_nl_i, a_nl_r, a_nl_n, true_or, or_true, eq_self, a_isRA_22, a_isRA_24, a_isRA_32, a_isA_20, hm, cm_n20, mg_n20, up_ap, hq, if_false, hk]
  first
    | exact hP
    | exact ⟨by decide, hP⟩
theorem st_5 {m q : Nat} (hm : ¬ m = 0) (hk : K m = 13) (hq : ¬ m = q + 1) (hP : a_at d (a_xm a_m169) 45 [some (a_rf m)] [] (q + 1 + 1, t + 6, a_up K (q + 1) 20, a_up L (q + 1) 6, a_zi I (q + 1), a_ur (a_zr R (q + 1)) m 7 (q + 1)) P) : a_at d (a_xm a_m169) 37 [some (a_rf m)] [] (q + 1, t, K, L, I, R) P := by
  simp only [q169_37, q169_38, q169_40, q169_42, as_nil, as_i, as_r, Nat.reduceAdd, Nat.reduceLeDiff, z_eq0, z_eq1, z_or, z_em, Classical.not_not, not_false_eq_true, not_true_eq_false, true_and, and_true, false_and, and_false, and_self, true_implies, false_implies, implies_true, Option.toList_some, Option.toList_none, List.cons_append, List.nil_append, Nat.add_eq_zero_iff, a_nl_i, a_nl_r, a_nl_n, true_or, or_true, eq_self, a_isRA_22, a_isRA_24, a_isRA_32, a_isA_20, hm, cm_n6, mg_n6, up_ap, hq, if_false, hk]
  first
    | exact hP
    | exact ⟨by decide, hP⟩
theorem st_6 {m q : Nat} (hm : ¬ m = 0) (hk : K m = 13) (hq : ¬ m = q + 1) (hP : a_at d (a_xm a_m169) 53 [some (a_rf m)] [] (q + 1 + 1, t + 6, a_up K (q + 1) 20, a_up L (q + 1) 6, a_zi I (q + 1), a_ur (a_zr R (q + 1)) m 8 (q + 1)) P) : a_at d (a_xm a_m169) 45 [some (a_rf m)] [] (q + 1, t, K, L, I, R) P := by
  simp only [q169_45, q169_46, q169_48, q169_50, as_nil, as_i, as_r, Nat.reduceAdd, Nat.reduceLeDiff, z_eq0, z_eq1, z_or, z_em, Classical.not_not, not_false_eq_true, not_true_eq_false, true_and, and_true, false_and, and_false, and_self, true_implies, false_implies, implies_true, Option.toList_some, Option.toList_none, List.cons_append, List.nil_append, Nat.add_eq_zero_iff, a_nl_i, a_nl_r, a_nl_n, true_or, or_true, eq_self, a_isRA_22, a_isRA_24, a_isRA_32, a_isA_20, hm, cm_n6, mg_n6, up_ap, hq, if_false, hk]
  first
    | exact hP
    | exact ⟨by decide, hP⟩
theorem st_ints {m q : Nat} (hm : ¬ m = 0) (hk : K m = 13) (hP : a_at d (a_xm a_m169) 64 [some (a_rf m)] [] (q + 1, t, K, L, a_ui (a_ui I m 9 1) m 10 100, R) P) : a_at d (a_xm a_m169) 53 [some (a_rf m)] [] (q + 1, t, K, L, I, R) P := by
  simp only [q169_53, q169_54, q169_55, q169_58, q169_59, q169_61, as_nil, as_i, as_r, Nat.reduceAdd, Nat.reduceLeDiff, z_eq0, z_eq1, z_or, z_em, Classical.not_not, not_false_eq_true, not_true_eq_false, true_and, and_true, false_and, and_false, and_self, true_implies, false_implies, implies_true, Option.toList_some, Option.toList_none, List.cons_append, List.nil_append, Nat.add_eq_zero_iff, a_nl_i, a_nl_r, a_nl_n, true_or, or_true, eq_self, a_isRA_22, a_isRA_24, a_isRA_32, a_isA_20, hm, hk]
  exact hP
theorem st_7 {m q : Nat} (hm : ¬ m = 0) (hk : K m = 13) (hq : ¬ m = q + 1) (hP : a_at d (a_xm a_m169) 72 [some (a_rf m)] [] (q + 1 + 1, t + 30, a_up K (q + 1) 20, a_up L (q + 1) 30, a_zi I (q + 1), a_ur (a_zr R (q + 1)) m 18 (q + 1)) P) : a_at d (a_xm a_m169) 64 [some (a_rf m)] [] (q + 1, t, K, L, I, R) P := by
  simp only [q169_64, q169_65, q169_67, q169_69, as_nil, as_i, as_r, Nat.reduceAdd, Nat.reduceLeDiff, z_eq0, z_eq1, z_or, z_em, Classical.not_not, not_false_eq_true, not_true_eq_false, true_and, and_true, false_and, and_false, and_self, true_implies, false_implies, implies_true, Option.toList_some, Option.toList_none, List.cons_append, List.nil_append, Nat.add_eq_zero_iff, a_nl_i, a_nl_r, a_nl_n, true_or, or_true, eq_self, a_isRA_22, a_isRA_24, a_isRA_32, a_isA_20, hm, cm_n30, mg_n30, up_ap, hq, if_false, hk]
  first
    | exact hP
    | exact ⟨by decide, hP⟩
theorem st_8 {m q : Nat} (hm : ¬ m = 0) (hk : K m = 13) (hq : ¬ m = q + 1) (hP : a_at d (a_xm a_m169) 80 [some (a_rf m)] [] (q + 1 + 1, t + 30, a_up K (q + 1) 20, a_up L (q + 1) 30, a_zi I (q + 1), a_ur (a_zr R (q + 1)) m 19 (q + 1)) P) : a_at d (a_xm a_m169) 72 [some (a_rf m)] [] (q + 1, t, K, L, I, R) P := by
  simp only [q169_72, q169_73, q169_75, q169_77, as_nil, as_i, as_r, Nat.reduceAdd, Nat.reduceLeDiff, z_eq0, z_eq1, z_or, z_em, Classical.not_not, not_false_eq_true, not_true_eq_false, true_and, and_true, false_and, and_false, and_self, true_implies, false_implies, implies_true, Option.toList_some, Option.toList_none, List.cons_append, List.nil_append, Nat.add_eq_zero_iff, a_nl_i, a_nl_r, a_nl_n, true_or, or_true, eq_self, a_isRA_22, a_isRA_24, a_isRA_32, a_isA_20, hm, cm_n30, mg_n30, up_ap, hq, if_false, hk]
  first
    | exact hP
    | exact ⟨by decide, hP⟩
theorem st_9 {m q : Nat} (hm : ¬ m = 0) (hk : K m = 13) (hq : ¬ m = q + 1) (hP : a_at d (a_xm a_m169) 88 [some (a_rf m)] [] (q + 1 + 1, t + 30, a_up K (q + 1) 20, a_up L (q + 1) 30, a_zi I (q + 1), a_ur (a_zr R (q + 1)) m 20 (q + 1)) P) : a_at d (a_xm a_m169) 80 [some (a_rf m)] [] (q + 1, t, K, L, I, R) P := by
  simp only [q169_80, q169_81, q169_83, q169_85, as_nil, as_i, as_r, Nat.reduceAdd, Nat.reduceLeDiff, z_eq0, z_eq1, z_or, z_em, Classical.not_not, not_false_eq_true, not_true_eq_false, true_and, and_true, false_and, and_false, and_self, true_implies, false_implies, implies_true, Option.toList_some, Option.toList_none, List.cons_append, List.nil_append, Nat.add_eq_zero_iff, a_nl_i, a_nl_r, a_nl_n, true_or, or_true, eq_self, a_isRA_22, a_isRA_24, a_isRA_32, a_isA_20, hm, cm_n30, mg_n30, up_ap, hq, if_false, hk]
  first
    | exact hP
    | exact ⟨by decide, hP⟩
theorem st_10 {m q : Nat} (hm : ¬ m = 0) (hk : K m = 13) (hq : ¬ m = q + 1) (hP : a_at d (a_xm a_m169) 96 [some (a_rf m)] [] (q + 1 + 1, t + 30, a_up K (q + 1) 20, a_up L (q + 1) 30, a_zi I (q + 1), a_ur (a_zr R (q + 1)) m 21 (q + 1)) P) : a_at d (a_xm a_m169) 88 [some (a_rf m)] [] (q + 1, t, K, L, I, R) P := by
  simp only [q169_88, q169_89, q169_91, q169_93, as_nil, as_i, as_r, Nat.reduceAdd, Nat.reduceLeDiff, z_eq0, z_eq1, z_or, z_em, Classical.not_not, not_false_eq_true, not_true_eq_false, true_and, and_true, false_and, and_false, and_self, true_implies, false_implies, implies_true, Option.toList_some, Option.toList_none, List.cons_append, List.nil_append, Nat.add_eq_zero_iff, a_nl_i, a_nl_r, a_nl_n, true_or, or_true, eq_self, a_isRA_22, a_isRA_24, a_isRA_32, a_isA_20, hm, cm_n30, mg_n30, up_ap, hq, if_false, hk]
  first
    | exact hP
    | exact ⟨by decide, hP⟩
theorem st_11 {m q : Nat} (hm : ¬ m = 0) (hk : K m = 13) (hq : ¬ m = q + 1) (hP : a_at d (a_xm a_m169) 104 [some (a_rf m)] [] (q + 1 + 1, t + 30, a_up K (q + 1) 20, a_up L (q + 1) 30, a_zi I (q + 1), a_ur (a_zr R (q + 1)) m 22 (q + 1)) P) : a_at d (a_xm a_m169) 96 [some (a_rf m)] [] (q + 1, t, K, L, I, R) P := by
  simp only [q169_96, q169_97, q169_99, q169_101, as_nil, as_i, as_r, Nat.reduceAdd, Nat.reduceLeDiff, z_eq0, z_eq1, z_or, z_em, Classical.not_not, not_false_eq_true, not_true_eq_false, true_and, and_true, false_and, and_false, and_self, true_implies, false_implies, implies_true, Option.toList_some, Option.toList_none, List.cons_append, List.nil_append, Nat.add_eq_zero_iff, a_nl_i, a_nl_r, a_nl_n, true_or, or_true, eq_self, a_isRA_22, a_isRA_24, a_isRA_32, a_isA_20, hm, cm_n30, mg_n30, up_ap, hq, if_false, hk]
  first
    | exact hP
    | exact ⟨by decide, hP⟩
theorem st_12 {m q : Nat} (hm : ¬ m = 0) (hk : K m = 13) (hq : ¬ m = q + 1) (hP : a_at d (a_xm a_m169) 112 [some (a_rf m)] [] (q + 1 + 1, t + 30, a_up K (q + 1) 20, a_up L (q + 1) 30, a_zi I (q + 1), a_ur (a_zr R (q + 1)) m 23 (q + 1)) P) : a_at d (a_xm a_m169) 104 [some (a_rf m)] [] (q + 1, t, K, L, I, R) P := by
  simp only [q169_104, q169_105, q169_107, q169_109, as_nil, as_i, as_r, Nat.reduceAdd, Nat.reduceLeDiff, z_eq0, z_eq1, z_or, z_em, Classical.not_not, not_false_eq_true, not_true_eq_false, true_and, and_true, false_and, and_false, and_self, true_implies, false_implies, implies_true, Option.toList_some, Option.toList_none, List.cons_append, List.nil_append, Nat.add_eq_zero_iff, a_nl_i, a_nl_r, a_nl_n, true_or, or_true, eq_self, a_isRA_22, a_isRA_24, a_isRA_32, a_isA_20, hm, cm_n30, mg_n30, up_ap, hq, if_false, hk]
  first
    | exact hP
    | exact ⟨by decide, hP⟩
theorem st_13 {m q : Nat} (hm : ¬ m = 0) (hk : K m = 13) (hq : ¬ m = q + 1) (hP : a_at d (a_xm a_m169) 120 [some (a_rf m)] [] (q + 1 + 1, t + 30, a_up K (q + 1) 20, a_up L (q + 1) 30, a_zi I (q + 1), a_ur (a_zr R (q + 1)) m 24 (q + 1)) P) : a_at d (a_xm a_m169) 112 [some (a_rf m)] [] (q + 1, t, K, L, I, R) P := by
  simp only [q169_112, q169_113, q169_115, q169_117, as_nil, as_i, as_r, Nat.reduceAdd, Nat.reduceLeDiff, z_eq0, z_eq1, z_or, z_em, Classical.not_not, not_false_eq_true, not_true_eq_false, true_and, and_true, false_and, and_false, and_self, true_implies, false_implies, implies_true, Option.toList_some, Option.toList_none, List.cons_append, List.nil_append, Nat.add_eq_zero_iff, a_nl_i, a_nl_r, a_nl_n, true_or, or_true, eq_self, a_isRA_22, a_isRA_24, a_isRA_32, a_isA_20, hm, cm_n30, mg_n30, up_ap, hq, if_false, hk]
  first
    | exact hP
    | exact ⟨by decide, hP⟩
theorem st_14 {m q : Nat} (hm : ¬ m = 0) (hk : K m = 13) (hq : ¬ m = q + 1) (hP : a_at d (a_xm a_m169) 128 [some (a_rf m)] [] (q + 1 + 1, t + 30, a_up K (q + 1) 20, a_up L (q + 1) 30, a_zi I (q + 1), a_ur (a_zr R (q + 1)) m 25 (q + 1)) P) : a_at d (a_xm a_m169) 120 [some (a_rf m)] [] (q + 1, t, K, L, I, R) P := by
  simp only [q169_120, q169_121, q169_123, q169_125, as_nil, as_i, as_r, Nat.reduceAdd, Nat.reduceLeDiff, z_eq0, z_eq1, z_or, z_em, Classical.not_not, not_false_eq_true, not_true_eq_false, true_and, and_true, false_and, and_false, and_self, true_implies, false_implies, implies_true, Option.toList_some, Option.toList_none, List.cons_append, List.nil_append, Nat.add_eq_zero_iff, a_nl_i, a_nl_r, a_nl_n, true_or, or_true, eq_self, a_isRA_22, a_isRA_24, a_isRA_32, a_isA_20, hm, cm_n30, mg_n30, up_ap, hq, if_false, hk]
  first
    | exact hP
    | exact ⟨by decide, hP⟩
theorem st_15 {m q : Nat} (hm : ¬ m = 0) (hk : K m = 13) (hq : ¬ m = q + 1) (hP : a_at d (a_xm a_m169) 136 [some (a_rf m)] [] (q + 1 + 1, t + 30, a_up K (q + 1) 20, a_up L (q + 1) 30, a_zi I (q + 1), a_ur (a_zr R (q + 1)) m 26 (q + 1)) P) : a_at d (a_xm a_m169) 128 [some (a_rf m)] [] (q + 1, t, K, L, I, R) P := by
  simp only [q169_128, q169_129, q169_131, q169_133, as_nil, as_i, as_r, Nat.reduceAdd, Nat.reduceLeDiff, z_eq0, z_eq1, z_or, z_em, Classical.not_not, not_false_eq_true, not_true_eq_false, true_and, and_true, false_and, and_false, and_self, true_implies, false_implies, implies_true, Option.toList_some, Option.toList_none, List.cons_append, List.nil_append, Nat.add_eq_zero_iff, a_nl_i, a_nl_r, a_nl_n, true_or, or_true, eq_self, a_isRA_22, a_isRA_24, a_isRA_32, a_isA_20, hm, cm_n30, mg_n30, up_ap, hq, if_false, hk]
  first
    | exact hP
    | exact ⟨by decide, hP⟩
theorem st_16 {m q : Nat} (hm : ¬ m = 0) (hk : K m = 13) (hq : ¬ m = q + 1) (hP : a_at d (a_xm a_m169) 144 [some (a_rf m)] [] (q + 1 + 1, t + 30, a_up K (q + 1) 20, a_up L (q + 1) 30, a_zi I (q + 1), a_ur (a_zr R (q + 1)) m 27 (q + 1)) P) : a_at d (a_xm a_m169) 136 [some (a_rf m)] [] (q + 1, t, K, L, I, R) P := by
  simp only [q169_136, q169_137, q169_139, q169_141, as_nil, as_i, as_r, Nat.reduceAdd, Nat.reduceLeDiff, z_eq0, z_eq1, z_or, z_em, Classical.not_not, not_false_eq_true, not_true_eq_false, true_and, and_true, false_and, and_false, and_self, true_implies, false_implies, implies_true, Option.toList_some, Option.toList_none, List.cons_append, List.nil_append, Nat.add_eq_zero_iff, a_nl_i, a_nl_r, a_nl_n, true_or, or_true, eq_self, a_isRA_22, a_isRA_24, a_isRA_32, a_isA_20, hm, cm_n30, mg_n30, up_ap, hq, if_false, hk]
  first
    | exact hP
    | exact ⟨by decide, hP⟩
theorem st_17 {m q : Nat} (hm : ¬ m = 0) (hk : K m = 13) (hq : ¬ m = q + 1) (hP : a_at d (a_xm a_m169) 152 [some (a_rf m)] [] (q + 1 + 1, t + 30, a_up K (q + 1) 20, a_up L (q + 1) 30, a_zi I (q + 1), a_ur (a_zr R (q + 1)) m 28 (q + 1)) P) : a_at d (a_xm a_m169) 144 [some (a_rf m)] [] (q + 1, t, K, L, I, R) P := by
  simp only [q169_144, q169_145, q169_147, q169_149, as_nil, as_i, as_r, Nat.reduceAdd, Nat.reduceLeDiff, z_eq0, z_eq1, z_or, z_em, Classical.not_not, not_false_eq_true, not_true_eq_false, true_and, and_true, false_and, and_false, and_self, true_implies, false_implies, implies_true, Option.toList_some, Option.toList_none, List.cons_append, List.nil_append, Nat.add_eq_zero_iff, a_nl_i, a_nl_r, a_nl_n, true_or, or_true, eq_self, a_isRA_22, a_isRA_24, a_isRA_32, a_isA_20, hm, cm_n30, mg_n30, up_ap, hq, if_false, hk]
  first
    | exact hP
    | exact ⟨by decide, hP⟩
theorem st_18 {m q : Nat} (hm : ¬ m = 0) (hk : K m = 13) (hq : ¬ m = q + 1) (hP : a_at d (a_xm a_m169) 160 [some (a_rf m)] [] (q + 1 + 1, t + 30, a_up K (q + 1) 21, a_up L (q + 1) 30, a_zi I (q + 1), a_ur (a_zr R (q + 1)) m 29 (q + 1)) P) : a_at d (a_xm a_m169) 152 [some (a_rf m)] [] (q + 1, t, K, L, I, R) P := by
  simp only [q169_152, q169_153, q169_155, q169_157, as_nil, as_i, as_r, Nat.reduceAdd, Nat.reduceLeDiff, z_eq0, z_eq1, z_or, z_em, Classical.not_not, not_false_eq_true, not_true_eq_false, true_and, and_true, false_and, and_false, and_self, true_implies, false_implies, implies_true, Option.toList_some, Option.toList_none, List.cons_append, List.nil_append, Nat.add_eq_zero_iff, a_nl_i, a_nl_r, a_nl_n, true_or, or_true, eq_self, a_isRA_22, a_isRA_24, a_isRA_32, a_isA_20, hm, cm_n30, mg_n30, up_ap, hq, if_false, hk]
  first
    | exact hP
    | exact ⟨by decide, hP⟩
theorem st_19 {m q : Nat} (hm : ¬ m = 0) (hk : K m = 13) (hq : ¬ m = q + 1) (hP : a_at d (a_xm a_m169) 168 [some (a_rf m)] [] (q + 1 + 1, t + 30, a_up K (q + 1) 21, a_up L (q + 1) 30, a_zi I (q + 1), a_ur (a_zr R (q + 1)) m 30 (q + 1)) P) : a_at d (a_xm a_m169) 160 [some (a_rf m)] [] (q + 1, t, K, L, I, R) P := by
  simp only [q169_160, q169_161, q169_163, q169_165, as_nil, as_i, as_r, Nat.reduceAdd, Nat.reduceLeDiff, z_eq0, z_eq1, z_or, z_em, Classical.not_not, not_false_eq_true, not_true_eq_false, true_and, and_true, false_and, and_false, and_self, true_implies, false_implies, implies_true, Option.toList_some, Option.toList_none, List.cons_append, List.nil_append, Nat.add_eq_zero_iff, a_nl_i, a_nl_r, a_nl_n, true_or, or_true, eq_self, a_isRA_22, a_isRA_24, a_isRA_32, a_isA_20, hm, cm_n30, mg_n30, up_ap, hq, if_false, hk]
  first
    | exact hP
    | exact ⟨by decide, hP⟩
theorem st_20 {m q : Nat} (hm : ¬ m = 0) (hk : K m = 13) (hq : ¬ m = q + 1) (hP : a_at d (a_xm a_m169) 176 [some (a_rf m)] [] (q + 1 + 1, t + 30, a_up K (q + 1) 20, a_up L (q + 1) 30, a_zi I (q + 1), a_ur (a_zr R (q + 1)) m 31 (q + 1)) P) : a_at d (a_xm a_m169) 168 [some (a_rf m)] [] (q + 1, t, K, L, I, R) P := by
  simp only [q169_168, q169_169, q169_171, q169_173, as_nil, as_i, as_r, Nat.reduceAdd, Nat.reduceLeDiff, z_eq0, z_eq1, z_or, z_em, Classical.not_not, not_false_eq_true, not_true_eq_false, true_and, and_true, false_and, and_false, and_self, true_implies, false_implies, implies_true, Option.toList_some, Option.toList_none, List.cons_append, List.nil_append, Nat.add_eq_zero_iff, a_nl_i, a_nl_r, a_nl_n, true_or, or_true, eq_self, a_isRA_22, a_isRA_24, a_isRA_32, a_isA_20, hm, cm_n30, mg_n30, up_ap, hq, if_false, hk]
  first
    | exact hP
    | exact ⟨by decide, hP⟩
theorem st_21 {m q : Nat} (hm : ¬ m = 0) (hk : K m = 13) (hq : ¬ m = q + 1) (hP : a_at d (a_xm a_m169) 184 [some (a_rf m)] [] (q + 1 + 1, t + 30, a_up K (q + 1) 20, a_up L (q + 1) 30, a_zi I (q + 1), a_ur (a_zr R (q + 1)) m 32 (q + 1)) P) : a_at d (a_xm a_m169) 176 [some (a_rf m)] [] (q + 1, t, K, L, I, R) P := by
  simp only [q169_176, q169_177, q169_179, q169_181, as_nil, as_i, as_r, Nat.reduceAdd, Nat.reduceLeDiff, z_eq0, z_eq1, z_or, z_em, Classical.not_not, not_false_eq_true, not_true_eq_false, true_and, and_true, false_and, and_false, and_self, true_implies, false_implies, implies_true, Option.toList_some, Option.toList_none, List.cons_append, List.nil_append, Nat.add_eq_zero_iff, a_nl_i, a_nl_r, a_nl_n, true_or, or_true, eq_self, a_isRA_22, a_isRA_24, a_isRA_32, a_isA_20, hm, cm_n30, mg_n30, up_ap, hq, if_false, hk]
  first
    | exact hP
    | exact ⟨by decide, hP⟩
theorem st_22 {m q : Nat} (hm : ¬ m = 0) (hk : K m = 13) (hq : ¬ m = q + 1) (hP : a_at d (a_xm a_m169) 192 [some (a_rf m)] [] (q + 1 + 1, t + 120, a_up K (q + 1) 20, a_up L (q + 1) 120, a_zi I (q + 1), a_ur (a_zr R (q + 1)) m 33 (q + 1)) P) : a_at d (a_xm a_m169) 184 [some (a_rf m)] [] (q + 1, t, K, L, I, R) P := by
  simp only [q169_184, q169_185, q169_187, q169_189, as_nil, as_i, as_r, Nat.reduceAdd, Nat.reduceLeDiff, z_eq0, z_eq1, z_or, z_em, Classical.not_not, not_false_eq_true, not_true_eq_false, true_and, and_true, false_and, and_false, and_self, true_implies, false_implies, implies_true, Option.toList_some, Option.toList_none, List.cons_append, List.nil_append, Nat.add_eq_zero_iff, a_nl_i, a_nl_r, a_nl_n, true_or, or_true, eq_self, a_isRA_22, a_isRA_24, a_isRA_32, a_isA_20, hm, cm_n120, mg_n120, up_ap, hq, if_false, hk]
  first
    | exact hP
    | exact ⟨by decide, hP⟩
theorem st_23 {m q : Nat} (hm : ¬ m = 0) (hk : K m = 13) (hq : ¬ m = q + 1) (hP : a_at d (a_xm a_m169) 200 [some (a_rf m)] [] (q + 1 + 1, t + 7, a_up K (q + 1) 20, a_up L (q + 1) 7, a_zi I (q + 1), a_ur (a_zr R (q + 1)) m 34 (q + 1)) P) : a_at d (a_xm a_m169) 192 [some (a_rf m)] [] (q + 1, t, K, L, I, R) P := by
  simp only [q169_192, q169_193, q169_195, q169_197, as_nil, as_i, as_r, Nat.reduceAdd, Nat.reduceLeDiff, z_eq0, z_eq1, z_or, z_em, Classical.not_not, not_false_eq_true, not_true_eq_false, true_and, and_true, false_and, and_false, and_self, true_implies, false_implies, implies_true, Option.toList_some, Option.toList_none, List.cons_append, List.nil_append, Nat.add_eq_zero_iff, a_nl_i, a_nl_r, a_nl_n, true_or, or_true, eq_self, a_isRA_22, a_isRA_24, a_isRA_32, a_isA_20, hm, cm_n7, mg_n7, up_ap, hq, if_false, hk]
  first
    | exact hP
    | exact ⟨by decide, hP⟩
theorem st_24 {m q : Nat} (hm : ¬ m = 0) (hk : K m = 13) (hq : ¬ m = q + 1) (hP : a_at d (a_xm a_m169) 208 [some (a_rf m)] [] (q + 1 + 1, t + 84000, a_up K (q + 1) 20, a_up L (q + 1) 84000, a_zi I (q + 1), a_ur (a_zr R (q + 1)) m 36 (q + 1)) P) : a_at d (a_xm a_m169) 200 [some (a_rf m)] [] (q + 1, t, K, L, I, R) P := by
  simp only [q169_200, q169_201, q169_203, q169_205, as_nil, as_i, as_r, Nat.reduceAdd, Nat.reduceLeDiff, z_eq0, z_eq1, z_or, z_em, Classical.not_not, not_false_eq_true, not_true_eq_false, true_and, and_true, false_and, and_false, and_self, true_implies, false_implies, implies_true, Option.toList_some, Option.toList_none, List.cons_append, List.nil_append, Nat.add_eq_zero_iff, a_nl_i, a_nl_r, a_nl_n, true_or, or_true, eq_self, a_isRA_22, a_isRA_24, a_isRA_32, a_isA_20, hm, cm_n84000, mg_n84000, up_ap, hq, if_false, hk]
  first
    | exact hP
    | exact ⟨by decide, hP⟩
theorem st_25 {m q : Nat} (hm : ¬ m = 0) (hk : K m = 13) (hq : ¬ m = q + 1) (hP : a_at d (a_xm a_m169) 216 [some (a_rf m)] [] (q + 1 + 1, t + 84000, a_up K (q + 1) 20, a_up L (q + 1) 84000, a_zi I (q + 1), a_ur (a_zr R (q + 1)) m 37 (q + 1)) P) : a_at d (a_xm a_m169) 208 [some (a_rf m)] [] (q + 1, t, K, L, I, R) P := by
  simp only [q169_208, q169_209, q169_211, q169_213, as_nil, as_i, as_r, Nat.reduceAdd, Nat.reduceLeDiff, z_eq0, z_eq1, z_or, z_em, Classical.not_not, not_false_eq_true, not_true_eq_false, true_and, and_true, false_and, and_false, and_self, true_implies, false_implies, implies_true, Option.toList_some, Option.toList_none, List.cons_append, List.nil_append, Nat.add_eq_zero_iff, a_nl_i, a_nl_r, a_nl_n, true_or, or_true, eq_self, a_isRA_22, a_isRA_24, a_isRA_32, a_isA_20, hm, cm_n84000, mg_n84000, up_ap, hq, if_false, hk]
  first
    | exact hP
    | exact ⟨by decide, hP⟩
theorem st_26 {m q : Nat} (hm : ¬ m = 0) (hk : K m = 13) (hq : ¬ m = q + 1) (hP : a_at d (a_xm a_m169) 224 [some (a_rf m)] [] (q + 1 + 1, t + 84000, a_up K (q + 1) 20, a_up L (q + 1) 84000, a_zi I (q + 1), a_ur (a_zr R (q + 1)) m 38 (q + 1)) P) : a_at d (a_xm a_m169) 216 [some (a_rf m)] [] (q + 1, t, K, L, I, R) P := by
  simp only [q169_216, q169_217, q169_219, q169_221, as_nil, as_i, as_r, Nat.reduceAdd, Nat.reduceLeDiff, z_eq0, z_eq1, z_or, z_em, Classical.not_not, not_false_eq_true, not_true_eq_false, true_and, and_true, false_and, and_false, and_self, true_implies, false_implies, implies_true, Option.toList_some, Option.toList_none, List.cons_append, List.nil_append, Nat.add_eq_zero_iff, a_nl_i, a_nl_r, a_nl_n, true_or, or_true, eq_self, a_isRA_22, a_isRA_24, a_isRA_32, a_isA_20, hm, cm_n84000, mg_n84000, up_ap, hq, if_false, hk]
  first
    | exact hP
    | exact ⟨by decide, hP⟩
theorem st_27 {m q : Nat} (hm : ¬ m = 0) (hk : K m = 13) (hq : ¬ m = q + 1) (hP : a_at d (a_xm a_m169) 232 [some (a_rf m)] [] (q + 1 + 1, t + 50, a_up K (q + 1) 20, a_up L (q + 1) 50, a_zi I (q + 1), a_ur (a_zr R (q + 1)) m 39 (q + 1)) P) : a_at d (a_xm a_m169) 224 [some (a_rf m)] [] (q + 1, t, K, L, I, R) P := by
  simp only [q169_224, q169_225, q169_227, q169_229, as_nil, as_i, as_r, Nat.reduceAdd, Nat.reduceLeDiff, z_eq0, z_eq1, z_or, z_em, Classical.not_not, not_false_eq_true, not_true_eq_false, true_and, and_true, false_and, and_false, and_self, true_implies, false_implies, implies_true, Option.toList_some, Option.toList_none, List.cons_append, List.nil_append, Nat.add_eq_zero_iff, a_nl_i, a_nl_r, a_nl_n, true_or, or_true, eq_self, a_isRA_22, a_isRA_24, a_isRA_32, a_isA_20, hm, cm_n50, mg_n50, up_ap, hq, if_false, hk]
  first
    | exact hP
    | exact ⟨by decide, hP⟩
theorem st_28 {m q : Nat} (hm : ¬ m = 0) (hk : K m = 13) (hq : ¬ m = q + 1) (hP : a_at d (a_xm a_m169) 241 [some (a_rf m)] [] (q + 1 + 1, t + 1000, a_up K (q + 1) 20, a_up L (q + 1) 1000, a_zi I (q + 1), a_ur (a_zr R (q + 1)) m 42 (q + 1)) P) : a_at d (a_xm a_m169) 232 [some (a_rf m)] [] (q + 1, t, K, L, I, R) P := by
  simp only [q169_232, q169_233, q169_236, q169_238, as_nil, as_i, as_r, Nat.reduceAdd, Nat.reduceLeDiff, z_eq0, z_eq1, z_or, z_em, Classical.not_not, not_false_eq_true, not_true_eq_false, true_and, and_true, false_and, and_false, and_self, true_implies, false_implies, implies_true, Option.toList_some, Option.toList_none, List.cons_append, List.nil_append, Nat.add_eq_zero_iff, a_nl_i, a_nl_r, a_nl_n, true_or, or_true, eq_self, a_isRA_22, a_isRA_24, a_isRA_32, a_isA_20, hm, cm_n1000, mg_n1000, up_ap, hq, if_false, hk]
  first
    | exact hP
    | exact ⟨by decide, hP⟩
theorem st_29 {m q : Nat} (hm : ¬ m = 0) (hk : K m = 13) (hq : ¬ m = q + 1) (hP : a_at d (a_xm a_m169) 249 [some (a_rf m)] [] (q + 1 + 1, t + 20, a_up K (q + 1) 20, a_up L (q + 1) 20, a_zi I (q + 1), a_ur (a_zr R (q + 1)) m 43 (q + 1)) P) : a_at d (a_xm a_m169) 241 [some (a_rf m)] [] (q + 1, t, K, L, I, R) P := by
  simp only [q169_241, q169_242, q169_244, q169_246, as_nil, as_i, as_r, Nat.reduceAdd, Nat.reduceLeDiff, z_eq0, z_eq1, z_or, z_em, Classical.not_not, not_false_eq_true, not_true_eq_false, true_and, and_true, false_and, and_false, and_self, true_implies, false_implies, implies_true, Option.toList_some, Option.toList_none, List.cons_append, List.nil_append, Nat.add_eq_zero_iff, a_nl_i, a_nl_r, a_nl_n, true_or, or_true, eq_self, a_isRA_22, a_isRA_24, a_isRA_32, a_isA_20, hm, cm_n20, mg_n20, up_ap, hq, if_false, hk]
  first
    | exact hP
    | exact ⟨by decide, hP⟩
theorem st_30 {m q : Nat} (hm : ¬ m = 0) (hk : K m = 13) (hq : ¬ m = q + 1) (hP : a_at d (a_xm a_m169) 257 [some (a_rf m)] [] (q + 1 + 1, t + 20, a_up K (q + 1) 20, a_up L (q + 1) 20, a_zi I (q + 1), a_ur (a_zr R (q + 1)) m 44 (q + 1)) P) : a_at d (a_xm a_m169) 249 [some (a_rf m)] [] (q + 1, t, K, L, I, R) P := by
  simp only [q169_249, q169_250, q169_252, q169_254, as_nil, as_i, as_r, Nat.reduceAdd, Nat.reduceLeDiff, z_eq0, z_eq1, z_or, z_em, Classical.not_not, not_false_eq_true, not_true_eq_false, true_and, and_true, false_and, and_false, and_self, true_implies, false_implies, implies_true, Option.toList_some, Option.toList_none, List.cons_append, List.nil_append, Nat.add_eq_zero_iff, a_nl_i, a_nl_r, a_nl_n, true_or, or_true, eq_self, a_isRA_22, a_isRA_24, a_isRA_32, a_isA_20, hm, cm_n20, mg_n20, up_ap, hq, if_false, hk]
  first
    | exact hP
    | exact ⟨by decide, hP⟩
theorem st_31 {m q : Nat} (hm : ¬ m = 0) (hk : K m = 13) (hq : ¬ m = q + 1) (hP : a_at d (a_xm a_m169) 265 [some (a_rf m)] [] (q + 1 + 1, t + 20, a_up K (q + 1) 20, a_up L (q + 1) 20, a_zi I (q + 1), a_ur (a_zr R (q + 1)) m 45 (q + 1)) P) : a_at d (a_xm a_m169) 257 [some (a_rf m)] [] (q + 1, t, K, L, I, R) P := by
  simp only [q169_257, q169_258, q169_260, q169_262, as_nil, as_i, as_r, Nat.reduceAdd, Nat.reduceLeDiff, z_eq0, z_eq1, z_or, z_em, Classical.not_not, not_false_eq_true, not_true_eq_false, true_and, and_true, false_and, and_false, and_self, true_implies, false_implies, implies_true, Option.toList_some, Option.toList_none, List.cons_append, List.nil_append, Nat.add_eq_zero_iff, a_nl_i, a_nl_r, a_nl_n, true_or, or_true, eq_self, a_isRA_22, a_isRA_24, a_isRA_32, a_isA_20, hm, cm_n20, mg_n20, up_ap, hq, if_false, hk]
  first
    | exact hP
    | exact ⟨by decide, hP⟩
theorem st_32 {m q : Nat} (hm : ¬ m = 0) (hk : K m = 13) (hq : ¬ m = q + 1) (hP : a_at d (a_xm a_m169) 273 [some (a_rf m)] [] (q + 1 + 1, t + 9, a_up K (q + 1) 20, a_up L (q + 1) 9, a_zi I (q + 1), a_ur (a_zr R (q + 1)) m 52 (q + 1)) P) : a_at d (a_xm a_m169) 265 [some (a_rf m)] [] (q + 1, t, K, L, I, R) P := by
  simp only [q169_265, q169_266, q169_268, q169_270, as_nil, as_i, as_r, Nat.reduceAdd, Nat.reduceLeDiff, z_eq0, z_eq1, z_or, z_em, Classical.not_not, not_false_eq_true, not_true_eq_false, true_and, and_true, false_and, and_false, and_self, true_implies, false_implies, implies_true, Option.toList_some, Option.toList_none, List.cons_append, List.nil_append, Nat.add_eq_zero_iff, a_nl_i, a_nl_r, a_nl_n, true_or, or_true, eq_self, a_isRA_22, a_isRA_24, a_isRA_32, a_isA_20, hm, cm_n9, mg_n9, up_ap, hq, if_false, hk]
  first
    | exact hP
    | exact ⟨by decide, hP⟩
theorem st_33 {m q : Nat} (hm : ¬ m = 0) (hk : K m = 13) (hq : ¬ m = q + 1) (hP : a_at d (a_xm a_m169) 281 [some (a_rf m)] [] (q + 1 + 1, t + 60, a_up K (q + 1) 21, a_up L (q + 1) 60, a_zi I (q + 1), a_ur (a_zr R (q + 1)) m 53 (q + 1)) P) : a_at d (a_xm a_m169) 273 [some (a_rf m)] [] (q + 1, t, K, L, I, R) P := by
  simp only [q169_273, q169_274, q169_276, q169_278, as_nil, as_i, as_r, Nat.reduceAdd, Nat.reduceLeDiff, z_eq0, z_eq1, z_or, z_em, Classical.not_not, not_false_eq_true, not_true_eq_false, true_and, and_true, false_and, and_false, and_self, true_implies, false_implies, implies_true, Option.toList_some, Option.toList_none, List.cons_append, List.nil_append, Nat.add_eq_zero_iff, a_nl_i, a_nl_r, a_nl_n, true_or, or_true, eq_self, a_isRA_22, a_isRA_24, a_isRA_32, a_isA_20, hm, cm_n60, mg_n60, up_ap, hq, if_false, hk]
  first
    | exact hP
    | exact ⟨by decide, hP⟩
theorem st_34 {m q : Nat} (hm : ¬ m = 0) (hk : K m = 13) (hq : ¬ m = q + 1) (hP : a_at d (a_xm a_m169) 289 [some (a_rf m)] [] (q + 1 + 1, t + 60, a_up K (q + 1) 20, a_up L (q + 1) 60, a_zi I (q + 1), a_ur (a_zr R (q + 1)) m 55 (q + 1)) P) : a_at d (a_xm a_m169) 281 [some (a_rf m)] [] (q + 1, t, K, L, I, R) P := by
  simp only [q169_281, q169_282, q169_284, q169_286, as_nil, as_i, as_r, Nat.reduceAdd, Nat.reduceLeDiff, z_eq0, z_eq1, z_or, z_em, Classical.not_not, not_false_eq_true, not_true_eq_false, true_and, and_true, false_and, and_false, and_self, true_implies, false_implies, implies_true, Option.toList_some, Option.toList_none, List.cons_append, List.nil_append, Nat.add_eq_zero_iff, a_nl_i, a_nl_r, a_nl_n, true_or, or_true, eq_self, a_isRA_22, a_isRA_24, a_isRA_32, a_isA_20, hm, cm_n60, mg_n60, up_ap, hq, if_false, hk]
  first
    | exact hP
    | exact ⟨by decide, hP⟩
theorem st_35 {m q : Nat} (hm : ¬ m = 0) (hk : K m = 13) (hq : ¬ m = q + 1) (hP : a_at d (a_xm a_m169) 297 [some (a_rf m)] [] (q + 1 + 1, t + 60, a_up K (q + 1) 21, a_up L (q + 1) 60, a_zi I (q + 1), a_ur (a_zr R (q + 1)) m 57 (q + 1)) P) : a_at d (a_xm a_m169) 289 [some (a_rf m)] [] (q + 1, t, K, L, I, R) P := by
  simp only [q169_289, q169_290, q169_292, q169_294, as_nil, as_i, as_r, Nat.reduceAdd, Nat.reduceLeDiff, z_eq0, z_eq1, z_or, z_em, Classical.not_not, not_false_eq_true, not_true_eq_false, true_and, and_true, false_and, and_false, and_self, true_implies, false_implies, implies_true, Option.toList_some, Option.toList_none, List.cons_append, List.nil_append, Nat.add_eq_zero_iff, a_nl_i, a_nl_r, a_nl_n, true_or, or_true, eq_self, a_isRA_22, a_isRA_24, a_isRA_32, a_isA_20, hm, cm_n60, mg_n60, up_ap, hq, if_false, hk]
  first
    | exact hP
    | exact ⟨by decide, hP⟩
theorem st_36 {m q : Nat} (hm : ¬ m = 0) (hk : K m = 13) (hq : ¬ m = q + 1) (hP : a_at d (a_xm a_m169) 306 [some (a_rf m)] [] (q + 1 + 1, t + 180, a_up K (q + 1) 20, a_up L (q + 1) 180, a_zi I (q + 1), a_ur (a_zr R (q + 1)) m 58 (q + 1)) P) : a_at d (a_xm a_m169) 297 [some (a_rf m)] [] (q + 1, t, K, L, I, R) P := by
  simp only [q169_297, q169_298, q169_301, q169_303, as_nil, as_i, as_r, Nat.reduceAdd, Nat.reduceLeDiff, z_eq0, z_eq1, z_or, z_em, Classical.not_not, not_false_eq_true, not_true_eq_false, true_and, and_true, false_and, and_false, and_self, true_implies, false_implies, implies_true, Option.toList_some, Option.toList_none, List.cons_append, List.nil_append, Nat.add_eq_zero_iff, a_nl_i, a_nl_r, a_nl_n, true_or, or_true, eq_self, a_isRA_22, a_isRA_24, a_isRA_32, a_isA_20, hm, cm_n180, mg_n180, up_ap, hq, if_false, hk]
  first
    | exact hP
    | exact ⟨by decide, hP⟩
theorem st_37 {m q : Nat} (hm : ¬ m = 0) (hk : K m = 13) (hq : ¬ m = q + 1) (hP : a_at d (a_xm a_m169) 315 [some (a_rf m)] [] (q + 1 + 1, t + 180, a_up K (q + 1) 21, a_up L (q + 1) 180, a_zi I (q + 1), a_ur (a_zr R (q + 1)) m 59 (q + 1)) P) : a_at d (a_xm a_m169) 306 [some (a_rf m)] [] (q + 1, t, K, L, I, R) P := by
  simp only [q169_306, q169_307, q169_310, q169_312, as_nil, as_i, as_r, Nat.reduceAdd, Nat.reduceLeDiff, z_eq0, z_eq1, z_or, z_em, Classical.not_not, not_false_eq_true, not_true_eq_false, true_and, and_true, false_and, and_false, and_self, true_implies, false_implies, implies_true, Option.toList_some, Option.toList_none, List.cons_append, List.nil_append, Nat.add_eq_zero_iff, a_nl_i, a_nl_r, a_nl_n, true_or, or_true, eq_self, a_isRA_22, a_isRA_24, a_isRA_32, a_isA_20, hm, cm_n180, mg_n180, up_ap, hq, if_false, hk]
  first
    | exact hP
    | exact ⟨by decide, hP⟩
theorem st_38 {m q : Nat} (hm : ¬ m = 0) (hk : K m = 13) (hq : ¬ m = q + 1) (hP : a_at d (a_xm a_m169) 324 [some (a_rf m)] [] (q + 1 + 1, t + 180, a_up K (q + 1) 21, a_up L (q + 1) 180, a_zi I (q + 1), a_ur (a_zr R (q + 1)) m 60 (q + 1)) P) : a_at d (a_xm a_m169) 315 [some (a_rf m)] [] (q + 1, t, K, L, I, R) P := by
  simp only [q169_315, q169_316, q169_319, q169_321, as_nil, as_i, as_r, Nat.reduceAdd, Nat.reduceLeDiff, z_eq0, z_eq1, z_or, z_em, Classical.not_not, not_false_eq_true, not_true_eq_false, true_and, and_true, false_and, and_false, and_self, true_implies, false_implies, implies_true, Option.toList_some, Option.toList_none, List.cons_append, List.nil_append, Nat.add_eq_zero_iff, a_nl_i, a_nl_r, a_nl_n, true_or, or_true, eq_self, a_isRA_22, a_isRA_24, a_isRA_32, a_isA_20, hm, cm_n180, mg_n180, up_ap, hq, if_false, hk]
  first
    | exact hP
    | exact ⟨by decide, hP⟩
theorem st_39 {m q : Nat} (hm : ¬ m = 0) (hk : K m = 13) (hq : ¬ m = q + 1) (hP : a_at d (a_xm a_m169) 332 [some (a_rf m)] [] (q + 1 + 1, t + 30, a_up K (q + 1) 20, a_up L (q + 1) 30, a_zi I (q + 1), a_ur (a_zr R (q + 1)) m 62 (q + 1)) P) : a_at d (a_xm a_m169) 324 [some (a_rf m)] [] (q + 1, t, K, L, I, R) P := by
  simp only [q169_324, q169_325, q169_327, q169_329, as_nil, as_i, as_r, Nat.reduceAdd, Nat.reduceLeDiff, z_eq0, z_eq1, z_or, z_em, Classical.not_not, not_false_eq_true, not_true_eq_false, true_and, and_true, false_and, and_false, and_self, true_implies, false_implies, implies_true, Option.toList_some, Option.toList_none, List.cons_append, List.nil_append, Nat.add_eq_zero_iff, a_nl_i, a_nl_r, a_nl_n, true_or, or_true, eq_self, a_isRA_22, a_isRA_24, a_isRA_32, a_isA_20, hm, cm_n30, mg_n30, up_ap, hq, if_false, hk]
  first
    | exact hP
    | exact ⟨by decide, hP⟩
theorem st_40 {m q : Nat} (hm : ¬ m = 0) (hk : K m = 13) (hq : ¬ m = q + 1) (hP : a_at d (a_xm a_m169) 340 [some (a_rf m)] [] (q + 1 + 1, t + 30, a_up K (q + 1) 20, a_up L (q + 1) 30, a_zi I (q + 1), a_ur (a_zr R (q + 1)) m 63 (q + 1)) P) : a_at d (a_xm a_m169) 332 [some (a_rf m)] [] (q + 1, t, K, L, I, R) P := by
  simp only [q169_332, q169_333, q169_335, q169_337, as_nil, as_i, as_r, Nat.reduceAdd, Nat.reduceLeDiff, z_eq0, z_eq1, z_or, z_em, Classical.not_not, not_false_eq_true, not_true_eq_false, true_and, and_true, false_and, and_false, and_self, true_implies, false_implies, implies_true, Option.toList_some, Option.toList_none, List.cons_append, List.nil_append, Nat.add_eq_zero_iff, a_nl_i, a_nl_r, a_nl_n, true_or, or_true, eq_self, a_isRA_22, a_isRA_24, a_isRA_32, a_isA_20, hm, cm_n30, mg_n30, up_ap, hq, if_false, hk]
  first
    | exact hP
    | exact ⟨by decide, hP⟩
theorem st_41 {m q : Nat} (hm : ¬ m = 0) (hk : K m = 13) (hq : ¬ m = q + 1) (hP : a_at d (a_xm a_m169) 347 [some (a_rf m)] [] (q + 1 + 1, t + 4, a_up K (q + 1) 20, a_up L (q + 1) 4, a_zi I (q + 1), a_ur (a_zr R (q + 1)) m 65 (q + 1)) P) : a_at d (a_xm a_m169) 340 [some (a_rf m)] [] (q + 1, t, K, L, I, R) P := by
  simp only [q169_340, q169_341, q169_342, q169_344, as_nil, as_i, as_r, Nat.reduceAdd, Nat.reduceLeDiff, z_eq0, z_eq1, z_or, z_em, Classical.not_not, not_false_eq_true, not_true_eq_false, true_and, and_true, false_and, and_false, and_self, true_implies, false_implies, implies_true, Option.toList_some, Option.toList_none, List.cons_append, List.nil_append, Nat.add_eq_zero_iff, a_nl_i, a_nl_r, a_nl_n, true_or, or_true, eq_self, a_isRA_22, a_isRA_24, a_isRA_32, a_isA_20, hm, cm_n4, mg_n4, up_ap, hq, if_false, hk]
  first
    | exact hP
    | exact ⟨by decide, hP⟩
theorem st_42 {m q : Nat} (hm : ¬ m = 0) (hk : K m = 13) (hq : ¬ m = q + 1) (hP : a_at d (a_xm a_m169) 354 [some (a_rf m)] [] (q + 1 + 1, t + 5, a_up K (q + 1) 20, a_up L (q + 1) 5, a_zi I (q + 1), a_ur (a_zr R (q + 1)) m 67 (q + 1)) P) : a_at d (a_xm a_m169) 347 [some (a_rf m)] [] (q + 1, t, K, L, I, R) P := by
  simp only [q169_347, q169_348, q169_349, q169_351, as_nil, as_i, as_r, Nat.reduceAdd, Nat.reduceLeDiff, z_eq0, z_eq1, z_or, z_em, Classical.not_not, not_false_eq_true, not_true_eq_false, true_and, and_true, false_and, and_false, and_self, true_implies, false_implies, implies_true, Option.toList_some, Option.toList_none, List.cons_append, List.nil_append, Nat.add_eq_zero_iff, a_nl_i, a_nl_r, a_nl_n, true_or, or_true, eq_self, a_isRA_22, a_isRA_24, a_isRA_32, a_isA_20, hm, cm_n5, mg_n5, up_ap, hq, if_false, hk]
  first
    | exact hP
    | exact ⟨by decide, hP⟩
theorem st_43 {m q : Nat} (hm : ¬ m = 0) (hk : K m = 13) (hq : ¬ m = q + 1) (hP : a_at d (a_xm a_m169) 361 [some (a_rf m)] [] (q + 1 + 1, t + 5, a_up K (q + 1) 20, a_up L (q + 1) 5, a_zi I (q + 1), a_ur (a_zr R (q + 1)) m 68 (q + 1)) P) : a_at d (a_xm a_m169) 354 [some (a_rf m)] [] (q + 1, t, K, L, I, R) P := by
  simp only [q169_354, q169_355, q169_356, q169_358, as_nil, as_i, as_r, Nat.reduceAdd, Nat.reduceLeDiff, z_eq0, z_eq1, z_or, z_em, Classical.not_not, not_false_eq_true, not_true_eq_false, true_and, and_true, false_and, and_false, and_self, true_implies, false_implies, implies_true, Option.toList_some, Option.toList_none, List.cons_append, List.nil_append, Nat.add_eq_zero_iff, a_nl_i, a_nl_r, a_nl_n, true_or, or_true, eq_self, a_isRA_22, a_isRA_24, a_isRA_32, a_isA_20, hm, cm_n5, mg_n5, up_ap, hq, if_false, hk]
  first
    | exact hP
    | exact ⟨by decide, hP⟩
theorem st_44 {m q : Nat} (hm : ¬ m = 0) (hk : K m = 13) (hq : ¬ m = q + 1) (hP : a_at d (a_xm a_m169) 368 [some (a_rf m)] [] (q + 1 + 1, t + 4, a_up K (q + 1) 20, a_up L (q + 1) 4, a_zi I (q + 1), a_ur (a_zr R (q + 1)) m 69 (q + 1)) P) : a_at d (a_xm a_m169) 361 [some (a_rf m)] [] (q + 1, t, K, L, I, R) P := by
  simp only [q169_361, q169_362, q169_363, q169_365, as_nil, as_i, as_r, Nat.reduceAdd, Nat.reduceLeDiff, z_eq0, z_eq1, z_or, z_em, Classical.not_not, not_false_eq_true, not_true_eq_false, true_and, and_true, false_and, and_false, and_self, true_implies, false_implies, implies_true, Option.toList_some, Option.toList_none, List.cons_append, List.nil_append, Nat.add_eq_zero_iff, a_nl_i, a_nl_r, a_nl_n, true_or, or_true, eq_self, a_isRA_22, a_isRA_24, a_isRA_32, a_isA_20, hm, cm_n4, mg_n4, up_ap, hq, if_false, hk]
  first
    | exact hP
    | exact ⟨by decide, hP⟩
theorem st_45 {m q : Nat} (hm : ¬ m = 0) (hk : K m = 13) (hq : ¬ m = q + 1) (hP : a_at d (a_xm a_m169) 376 [some (a_rf m)] [] (q + 1 + 1, t + 30, a_up K (q + 1) 20, a_up L (q + 1) 30, a_zi I (q + 1), a_ur (a_zr R (q + 1)) m 70 (q + 1)) P) : a_at d (a_xm a_m169) 368 [some (a_rf m)] [] (q + 1, t, K, L, I, R) P := by
  simp only [q169_368, q169_369, q169_371, q169_373, as_nil, as_i, as_r, Nat.reduceAdd, Nat.reduceLeDiff, z_eq0, z_eq1, z_or, z_em, Classical.not_not, not_false_eq_true, not_true_eq_false, true_and, and_true, false_and, and_false, and_self, true_implies, false_implies, implies_true, Option.toList_some, Option.toList_none, List.cons_append, List.nil_append, Nat.add_eq_zero_iff, a_nl_i, a_nl_r, a_nl_n, true_or, or_true, eq_self, a_isRA_22, a_isRA_24, a_isRA_32, a_isA_20, hm, cm_n30, mg_n30, up_ap, hq, if_false, hk]
  first
    | exact hP
    | exact ⟨by decide, hP⟩
theorem st_46 {m q : Nat} (hm : ¬ m = 0) (hk : K m = 13) (hq : ¬ m = q + 1) (hP : a_at d (a_xm a_m169) 384 [some (a_rf m)] [] (q + 1 + 1, t + 30, a_up K (q + 1) 20, a_up L (q + 1) 30, a_zi I (q + 1), a_ur (a_zr R (q + 1)) m 71 (q + 1)) P) : a_at d (a_xm a_m169) 376 [some (a_rf m)] [] (q + 1, t, K, L, I, R) P := by
  simp only [q169_376, q169_377, q169_379, q169_381, as_nil, as_i, as_r, Nat.reduceAdd, Nat.reduceLeDiff, z_eq0, z_eq1, z_or, z_em, Classical.not_not, not_false_eq_true, not_true_eq_false, true_and, and_true, false_and, and_false, and_self, true_implies, false_implies, implies_true, Option.toList_some, Option.toList_none, List.cons_append, List.nil_append, Nat.add_eq_zero_iff, a_nl_i, a_nl_r, a_nl_n, true_or, or_true, eq_self, a_isRA_22, a_isRA_24, a_isRA_32, a_isA_20, hm, cm_n30, mg_n30, up_ap, hq, if_false, hk]
  first
    | exact hP
    | exact ⟨by decide, hP⟩
theorem st_47 {m q : Nat} (hm : ¬ m = 0) (hk : K m = 13) (hq : ¬ m = q + 1) (hP : a_at d (a_xm a_m169) 393 [some (a_rf m)] [] (q + 1 + 1, t + 900, a_up K (q + 1) 21, a_up L (q + 1) 900, a_zi I (q + 1), a_ur (a_zr R (q + 1)) m 72 (q + 1)) P) : a_at d (a_xm a_m169) 384 [some (a_rf m)] [] (q + 1, t, K, L, I, R) P := by
  simp only [q169_384, q169_385, q169_388, q169_390, as_nil, as_i, as_r, Nat.reduceAdd, Nat.reduceLeDiff, z_eq0, z_eq1, z_or, z_em, Classical.not_not, not_false_eq_true, not_true_eq_false, true_and, and_true, false_and, and_false, and_self, true_implies, false_implies, implies_true, Option.toList_some, Option.toList_none, List.cons_append, List.nil_append, Nat.add_eq_zero_iff, a_nl_i, a_nl_r, a_nl_n, true_or, or_true, eq_self, a_isRA_22, a_isRA_24, a_isRA_32, a_isA_20, hm, cm_n900, mg_n900, up_ap, hq, if_false, hk]
  first
    | exact hP
    | exact ⟨by decide, hP⟩
theorem st_48 {m q : Nat} (hm : ¬ m = 0) (hk : K m = 13) (hq : ¬ m = q + 1) (hP : a_at d (a_xm a_m169) 401 [some (a_rf m)] [] (q + 1 + 1, t + 6, a_up K (q + 1) 20, a_up L (q + 1) 6, a_zi I (q + 1), a_ur (a_zr R (q + 1)) m 73 (q + 1)) P) : a_at d (a_xm a_m169) 393 [some (a_rf m)] [] (q + 1, t, K, L, I, R) P := by
  simp only [q169_393, q169_394, q169_396, q169_398, as_nil, as_i, as_r, Nat.reduceAdd, Nat.reduceLeDiff, z_eq0, z_eq1, z_or, z_em, Classical.not_not, not_false_eq_true, not_true_eq_false, true_and, and_true, false_and, and_false, and_self, true_implies, false_implies, implies_true, Option.toList_some, Option.toList_none, List.cons_append, List.nil_append, Nat.add_eq_zero_iff, a_nl_i, a_nl_r, a_nl_n, true_or, or_true, eq_self, a_isRA_22, a_isRA_24, a_isRA_32, a_isA_20, hm, cm_n6, mg_n6, up_ap, hq, if_false, hk]
  first
    | exact hP
    | exact ⟨by decide, hP⟩
theorem st_49 {m q : Nat} (hm : ¬ m = 0) (hk : K m = 13) (hq : ¬ m = q + 1) (hP : a_at d (a_xm a_m169) 409 [some (a_rf m)] [] (q + 1 + 1, t + 6, a_up K (q + 1) 20, a_up L (q + 1) 6, a_zi I (q + 1), a_ur (a_zr R (q + 1)) m 75 (q + 1)) P) : a_at d (a_xm a_m169) 401 [some (a_rf m)] [] (q + 1, t, K, L, I, R) P := by
  simp only [q169_401, q169_402, q169_404, q169_406, as_nil, as_i, as_r, Nat.reduceAdd, Nat.reduceLeDiff, z_eq0, z_eq1, z_or, z_em, Classical.not_not, not_false_eq_true, not_true_eq_false, true_and, and_true, false_and, and_false, and_self, true_implies, false_implies, implies_true, Option.toList_some, Option.toList_none, List.cons_append, List.nil_append, Nat.add_eq_zero_iff, a_nl_i, a_nl_r, a_nl_n, true_or, or_true, eq_self, a_isRA_22, a_isRA_24, a_isRA_32, a_isA_20, hm, cm_n6, mg_n6, up_ap, hq, if_false, hk]
  first
    | exact hP
    | exact ⟨by decide, hP⟩
theorem st_50 {m q : Nat} (hm : ¬ m = 0) (hk : K m = 13) (hq : ¬ m = q + 1) (hP : a_at d (a_xm a_m169) 417 [some (a_rf m)] [] (q + 1 + 1, t + 6, a_up K (q + 1) 20, a_up L (q + 1) 6, a_zi I (q + 1), a_ur (a_zr R (q + 1)) m 76 (q + 1)) P) : a_at d (a_xm a_m169) 409 [some (a_rf m)] [] (q + 1, t, K, L, I, R) P := by
  simp only [q169_409, q169_410, q169_412, q169_414, as_nil, as_i, as_r, Nat.reduceAdd, Nat.reduceLeDiff, z_eq0, z_eq1, z_or, z_em, Classical.not_not, not_false_eq_true, not_true_eq_false, true_and, and_true, false_and, and_false, and_self, true_implies, false_implies, implies_true, Option.toList_some, Option.toList_none, List.cons_append, List.nil_append, Nat.add_eq_zero_iff, a_nl_i, a_nl_r, a_nl_n, true_or, or_true, eq_self, a_isRA_22, a_isRA_24, a_isRA_32, a_isA_20, hm, cm_n6, mg_n6, up_ap, hq, if_false, hk]
  first
    | exact hP
    | exact ⟨by decide, hP⟩
theorem st_51 {m q : Nat} (hm : ¬ m = 0) (hk : K m = 13) (hq : ¬ m = q + 1) (hP : a_at d (a_xm a_m169) 425 [some (a_rf m)] [] (q + 1 + 1, t + 24, a_up K (q + 1) 20, a_up L (q + 1) 24, a_zi I (q + 1), a_ur (a_zr R (q + 1)) m 77 (q + 1)) P) : a_at d (a_xm a_m169) 417 [some (a_rf m)] [] (q + 1, t, K, L, I, R) P := by
  simp only [q169_417, q169_418, q169_420, q169_422, as_nil, as_i, as_r, Nat.reduceAdd, Nat.reduceLeDiff, z_eq0, z_eq1, z_or, z_em, Classical.not_not, not_false_eq_true, not_true_eq_false, true_and, and_true, false_and, and_false, and_self, true_implies, false_implies, implies_true, Option.toList_some, Option.toList_none, List.cons_append, List.nil_append, Nat.add_eq_zero_iff, a_nl_i, a_nl_r, a_nl_n, true_or, or_true, eq_self, a_isRA_22, a_isRA_24, a_isRA_32, a_isA_20, hm, cm_n24, mg_n24, up_ap, hq, if_false, hk]
  first
    | exact hP
    | exact ⟨by decide, hP⟩
theorem st_52 {m q : Nat} (hm : ¬ m = 0) (hk : K m = 13) (hq : ¬ m = q + 1) (hP : a_at d (a_xm a_m169) 433 [some (a_rf m)] [] (q + 1 + 1, t + 21, a_up K (q + 1) 20, a_up L (q + 1) 21, a_zi I (q + 1), a_ur (a_zr R (q + 1)) m 78 (q + 1)) P) : a_at d (a_xm a_m169) 425 [some (a_rf m)] [] (q + 1, t, K, L, I, R) P := by
  simp only [q169_425, q169_426, q169_428, q169_430, as_nil, as_i, as_r, Nat.reduceAdd, Nat.reduceLeDiff, z_eq0, z_eq1, z_or, z_em, Classical.not_not, not_false_eq_true, not_true_eq_false, true_and, and_true, false_and, and_false, and_self, true_implies, false_implies, implies_true, Option.toList_some, Option.toList_none, List.cons_append, List.nil_append, Nat.add_eq_zero_iff, a_nl_i, a_nl_r, a_nl_n, true_or, or_true, eq_self, a_isRA_22, a_isRA_24, a_isRA_32, a_isA_20, hm, cm_n21, mg_n21, up_ap, hq, if_false, hk]
  first
    | exact hP
    | exact ⟨by decide, hP⟩
set_option maxRecDepth 4000 in
theorem ki_M (hP : ∀ t', t' ≤ t + 255789 → P none (n + 52 + 1 + 1, t', nkM n K, nlM n L, niM n I, nrM n R)) : a_does (d + 1) 169 [a_rf (n + 1)] (n + 1 + 1, t, a_up K (n + 1) 13, a_up L (n + 1) 80, a_zi I (n + 1), a_zr R (n + 1)) P := by
  have hm : ¬ n + 1 = 0 := Nat.succ_ne_zero _
  rw [a_enter1 (M := a_m169) rfl (a_cat_rf a_cat_nil) (show 1 ≤ 1 by decide)]
  show a_at _ (a_xm a_m169) 0 [some (a_rf (n+1))] [] _ _
  simp only [q169_0, as_nil, as_i, as_r, Nat.reduceAdd, Nat.reduceLeDiff, z_eq0, z_eq1, z_or, z_em, Classical.not_not, not_false_eq_true, not_true_eq_false, true_and, and_true, false_and, and_false, and_self, true_implies, false_implies, implies_true, Option.toList_some, Option.toList_none, List.cons_append, List.nil_append, Nat.add_eq_zero_iff, a_nl_i, a_nl_r, a_nl_n, true_or, or_true, eq_self, a_isRA_22, a_isRA_24, a_isRA_32, a_isA_20]
  rw [q169_1 hm (show a_sum [] ≤ 8 by decide)]
  have k0 : a_up K (n + 1) 13 (n + 1) = 13 := up_eq
  refine st_1 (q := n + 1) hm k0 (by simp only [Nat.add_assoc, Nat.reduceAdd, Nat.add_left_cancel_iff, Nat.reduceEqDiff, not_false_eq_true]) ?_
  have k1 := (up_ne (f := _) (v := 20) (show ¬ n + 1 = n + 1 + 1 from (by simp only [Nat.add_assoc, Nat.reduceAdd, Nat.add_left_cancel_iff, Nat.reduceEqDiff, not_false_eq_true]))).trans k0
  refine st_2 (q := n + 2) hm k1 (by simp only [Nat.add_assoc, Nat.reduceAdd, Nat.add_left_cancel_iff, Nat.reduceEqDiff, not_false_eq_true]) ?_
  have k2 := (up_ne (f := _) (v := 20) (show ¬ n + 1 = n + 2 + 1 from (by simp only [Nat.add_assoc, Nat.reduceAdd, Nat.add_left_cancel_iff, Nat.reduceEqDiff, not_false_eq_true]))).trans k1
  refine st_3 (q := n + 3) hm k2 (by simp only [Nat.add_assoc, Nat.reduceAdd, Nat.add_left_cancel_iff, Nat.reduceEqDiff, not_false_eq_true]) ?_
  have k3 := (up_ne (f := _) (v := 20) (show ¬ n + 1 = n + 3 + 1 from (by simp only [Nat.add_assoc, Nat.reduceAdd, Nat.add_left_cancel_iff, Nat.reduceEqDiff, not_false_eq_true]))).trans k2
  refine st_4 (q := n + 4) hm k3 (by simp only [Nat.add_assoc, Nat.reduceAdd, Nat.add_left_cancel_iff, Nat.reduceEqDiff, not_false_eq_true]) ?_
  have k4 := (up_ne (f := _) (v := 20) (show ¬ n + 1 = n + 4 + 1 from (by simp only [Nat.add_assoc, Nat.reduceAdd, Nat.add_left_cancel_iff, Nat.reduceEqDiff, not_false_eq_true]))).trans k3
  refine st_5 (q := n + 5) hm k4 (by simp only [Nat.add_assoc, Nat.reduceAdd, Nat.add_left_cancel_iff, Nat.reduceEqDiff, not_false_eq_true]) ?_
  have k5 := (up_ne (f := _) (v := 20) (show ¬ n + 1 = n + 5 + 1 from (by simp only [Nat.add_assoc, Nat.reduceAdd, Nat.add_left_cancel_iff, Nat.reduceEqDiff, not_false_eq_true]))).trans k4
  refine st_6 (q := n + 6) hm k5 (by simp only [Nat.add_assoc, Nat.reduceAdd, Nat.add_left_cancel_iff, Nat.reduceEqDiff, not_false_eq_true]) ?_
  have k6 := (up_ne (f := _) (v := 20) (show ¬ n + 1 = n + 6 + 1 from (by simp only [Nat.add_assoc, Nat.reduceAdd, Nat.add_left_cancel_iff, Nat.reduceEqDiff, not_false_eq_true]))).trans k5
  refine st_ints hm k6 ?_
  refine st_7 (q := n + 7) hm k6 (by simp only [Nat.add_assoc, Nat.reduceAdd, Nat.add_left_cancel_iff, Nat.reduceEqDiff, not_false_eq_true]) ?_
  have k7 := (up_ne (f := _) (v := 20) (show ¬ n + 1 = n + 7 + 1 from (by simp only [Nat.add_assoc, Nat.reduceAdd, Nat.add_left_cancel_iff, Nat.reduceEqDiff, not_false_eq_true]))).trans k6
  refine st_8 (q := n + 8) hm k7 (by simp only [Nat.add_assoc, Nat.reduceAdd, Nat.add_left_cancel_iff, Nat.reduceEqDiff, not_false_eq_true]) ?_
  have k8 := (up_ne (f := _) (v := 20) (show ¬ n + 1 = n + 8 + 1 from (by simp only [Nat.add_assoc, Nat.reduceAdd, Nat.add_left_cancel_iff, Nat.reduceEqDiff, not_false_eq_true]))).trans k7
  refine st_9 (q := n + 9) hm k8 (by simp only [Nat.add_assoc, Nat.reduceAdd, Nat.add_left_cancel_iff, Nat.reduceEqDiff, not_false_eq_true]) ?_
  have k9 := (up_ne (f := _) (v := 20) (show ¬ n + 1 = n + 9 + 1 from (by simp only [Nat.add_assoc, Nat.reduceAdd, Nat.add_left_cancel_iff, Nat.reduceEqDiff, not_false_eq_true]))).trans k8
  refine st_10 (q := n + 10) hm k9 (by simp only [Nat.add_assoc, Nat.reduceAdd, Nat.add_left_cancel_iff, Nat.reduceEqDiff, not_false_eq_true]) ?_
  have k10 := (up_ne (f := _) (v := 20) (show ¬ n + 1 = n + 10 + 1 from (by simp only [Nat.add_assoc, Nat.reduceAdd, Nat.add_left_cancel_iff, Nat.reduceEqDiff, not_false_eq_true]))).trans k9
  refine st_11 (q := n + 11) hm k10 (by simp only [Nat.add_assoc, Nat.reduceAdd, Nat.add_left_cancel_iff, Nat.reduceEqDiff, not_false_eq_true]) ?_
  have k11 := (up_ne (f := _) (v := 20) (show ¬ n + 1 = n + 11 + 1 from (by simp only [Nat.add_assoc, Nat.reduceAdd, Nat.add_left_cancel_iff, Nat.reduceEqDiff, not_false_eq_true]))).trans k10
  refine st_12 (q := n + 12) hm k11 (by simp only [Nat.add_assoc, Nat.reduceAdd, Nat.add_left_cancel_iff, Nat.reduceEqDiff, not_false_eq_true]) ?_
  have k12 := (up_ne (f := _) (v := 20) (show ¬ n + 1 = n + 12 + 1 from (by simp only [Nat.add_assoc, Nat.reduceAdd, Nat.add_left_cancel_iff, Nat.reduceEqDiff, not_false_eq_true]))).trans k11
  refine st_13 (q := n + 13) hm k12 (by simp only [Nat.add_assoc, Nat.reduceAdd, Nat.add_left_cancel_iff, Nat.reduceEqDiff, not_false_eq_true]) ?_
  have k13 := (up_ne (f := _) (v := 20) (show ¬ n + 1 = n + 13 + 1 from (by simp only [Nat.add_assoc, Nat.reduceAdd, Nat.add_left_cancel_iff, Nat.reduceEqDiff, not_false_eq_true]))).trans k12
  refine st_14 (q := n + 14) hm k13 (by simp only [Nat.add_assoc, Nat.reduceAdd, Nat.add_left_cancel_iff, Nat.reduceEqDiff, not_false_eq_true]) ?_
  have k14 := (up_ne (f := _) (v := 20) (show ¬ n + 1 = n + 14 + 1 from (by simp only [Nat.add_assoc, Nat.reduceAdd, Nat.add_left_cancel_iff, Nat.reduceEqDiff, not_false_eq_true]))).trans k13
  refine st_15 (q := n + 15) hm k14 (by simp only [Nat.add_assoc, Nat.reduceAdd, Nat.add_left_cancel_iff, Nat.reduceEqDiff, not_false_eq_true]) ?_
  have k15 := (up_ne (f := _) (v := 20) (show ¬ n + 1 = n + 15 + 1 from (by simp only [Nat.add_assoc, Nat.reduceAdd, Nat.add_left_cancel_iff, Nat.reduceEqDiff, not_false_eq_true]))).trans k14
  refine st_16 (q := n + 16) hm k15 (by simp only [Nat.add_assoc, Nat.reduceAdd, Nat.add_left_cancel_iff, Nat.reduceEqDiff, not_false_eq_true]) ?_
  have k16 := (up_ne (f := _) (v := 20) (show ¬ n + 1 = n + 16 + 1 from (by simp only [Nat.add_assoc, Nat.reduceAdd, Nat.add_left_cancel_iff, Nat.reduceEqDiff, not_false_eq_true]))).trans k15
  refine st_17 (q := n + 17) hm k16 (by simp only [Nat.add_assoc, Nat.reduceAdd, Nat.add_left_cancel_iff, Nat.reduceEqDiff, not_false_eq_true]) ?_
  have k17 := (up_ne (f := _) (v := 20) (show ¬ n + 1 = n + 17 + 1 from (by simp only [Nat.add_assoc, Nat.reduceAdd, Nat.add_left_cancel_iff, Nat.reduceEqDiff, not_false_eq_true]))).trans k16
  refine st_18 (q := n + 18) hm k17 (by simp only [Nat.add_assoc, Nat.reduceAdd, Nat.add_left_cancel_iff, Nat.reduceEqDiff, not_false_eq_true]) ?_
  have k18 := (up_ne (f := _) (v := 21) (show ¬ n + 1 = n + 18 + 1 from (by simp only [Nat.add_assoc, Nat.reduceAdd, Nat.add_left_cancel_iff, Nat.reduceEqDiff, not_false_eq_true]))).trans k17
  refine st_19 (q := n + 19) hm k18 (by simp only [Nat.add_assoc, Nat.reduceAdd, Nat.add_left_cancel_iff, Nat.reduceEqDiff, not_false_eq_true]) ?_
  have k19 := (up_ne (f := _) (v := 21) (show ¬ n + 1 = n + 19 + 1 from (by simp only [Nat.add_assoc, Nat.reduceAdd, Nat.add_left_cancel_iff, Nat.reduceEqDiff, not_false_eq_true]))).trans k18
  refine st_20 (q := n + 20) hm k19 (by simp only [Nat.add_assoc, Nat.reduceAdd, Nat.add_left_cancel_iff, Nat.reduceEqDiff, not_false_eq_true]) ?_
  have k20 := (up_ne (f := _) (v := 20) (show ¬ n + 1 = n + 20 + 1 from (by simp only [Nat.add_assoc, Nat.reduceAdd, Nat.add_left_cancel_iff, Nat.reduceEqDiff, not_false_eq_true]))).trans k19
  refine st_21 (q := n + 21) hm k20 (by simp only [Nat.add_assoc, Nat.reduceAdd, Nat.add_left_cancel_iff, Nat.reduceEqDiff, not_false_eq_true]) ?_
  have k21 := (up_ne (f := _) (v := 20) (show ¬ n + 1 = n + 21 + 1 from (by simp only [Nat.add_assoc, Nat.reduceAdd, Nat.add_left_cancel_iff, Nat.reduceEqDiff, not_false_eq_true]))).trans k20
  refine st_22 (q := n + 22) hm k21 (by simp only [Nat.add_assoc, Nat.reduceAdd, Nat.add_left_cancel_iff, Nat.reduceEqDiff, not_false_eq_true]) ?_
  have k22 := (up_ne (f := _) (v := 20) (show ¬ n + 1 = n + 22 + 1 from (by simp only [Nat.add_assoc, Nat.reduceAdd, Nat.add_left_cancel_iff, Nat.reduceEqDiff, not_false_eq_true]))).trans k21
  refine st_23 (q := n + 23) hm k22 (by simp only [Nat.add_assoc, Nat.reduceAdd, Nat.add_left_cancel_iff, Nat.reduceEqDiff, not_false_eq_true]) ?_
  have k23 := (up_ne (f := _) (v := 20) (show ¬ n + 1 = n + 23 + 1 from (by simp only [Nat.add_assoc, Nat.reduceAdd, Nat.add_left_cancel_iff, Nat.reduceEqDiff, not_false_eq_true]))).trans k22
  refine st_24 (q := n + 24) hm k23 (by simp only [Nat.add_assoc, Nat.reduceAdd, Nat.add_left_cancel_iff, Nat.reduceEqDiff, not_false_eq_true]) ?_
  have k24 := (up_ne (f := _) (v := 20) (show ¬ n + 1 = n + 24 + 1 from (by simp only [Nat.add_assoc, Nat.reduceAdd, Nat.add_left_cancel_iff, Nat.reduceEqDiff, not_false_eq_true]))).trans k23
  refine st_25 (q := n + 25) hm k24 (by simp only [Nat.add_assoc, Nat.reduceAdd, Nat.add_left_cancel_iff, Nat.reduceEqDiff, not_false_eq_true]) ?_
  have k25 := (up_ne (f := _) (v := 20) (show ¬ n + 1 = n + 25 + 1 from (by simp only [Nat.add_assoc, Nat.reduceAdd, Nat.add_left_cancel_iff, Nat.reduceEqDiff, not_false_eq_true]))).trans k24
  refine st_26 (q := n + 26) hm k25 (by simp only [Nat.add_assoc, Nat.reduceAdd, Nat.add_left_cancel_iff, Nat.reduceEqDiff, not_false_eq_true]) ?_
  have k26 := (up_ne (f := _) (v := 20) (show ¬ n + 1 = n + 26 + 1 from (by simp only [Nat.add_assoc, Nat.reduceAdd, Nat.add_left_cancel_iff, Nat.reduceEqDiff, not_false_eq_true]))).trans k25
  refine st_27 (q := n + 27) hm k26 (by simp only [Nat.add_assoc, Nat.reduceAdd, Nat.add_left_cancel_iff, Nat.reduceEqDiff, not_false_eq_true]) ?_
  have k27 := (up_ne (f := _) (v := 20) (show ¬ n + 1 = n + 27 + 1 from (by simp only [Nat.add_assoc, Nat.reduceAdd, Nat.add_left_cancel_iff, Nat.reduceEqDiff, not_false_eq_true]))).trans k26
  refine st_28 (q := n + 28) hm k27 (by simp only [Nat.add_assoc, Nat.reduceAdd, Nat.add_left_cancel_iff, Nat.reduceEqDiff, not_false_eq_true]) ?_
  have k28 := (up_ne (f := _) (v := 20) (show ¬ n + 1 = n + 28 + 1 from (by simp only [Nat.add_assoc, Nat.reduceAdd, Nat.add_left_cancel_iff, Nat.reduceEqDiff, not_false_eq_true]))).trans k27
  refine st_29 (q := n + 29) hm k28 (by simp only [Nat.add_assoc, Nat.reduceAdd, Nat.add_left_cancel_iff, Nat.reduceEqDiff, not_false_eq_true]) ?_
  have k29 := (up_ne (f := _) (v := 20) (show ¬ n + 1 = n + 29 + 1 from (by simp only [Nat.add_assoc, Nat.reduceAdd, Nat.add_left_cancel_iff, Nat.reduceEqDiff, not_false_eq_true]))).trans k28
  refine st_30 (q := n + 30) hm k29 (by simp only [Nat.add_assoc, Nat.reduceAdd, Nat.add_left_cancel_iff, Nat.reduceEqDiff, not_false_eq_true]) ?_
  have k30 := (up_ne (f := _) (v := 20) (show ¬ n + 1 = n + 30 + 1 from (by simp only [Nat.add_assoc, Nat.reduceAdd, Nat.add_left_cancel_iff, Nat.reduceEqDiff, not_false_eq_true]))).trans k29
  refine st_31 (q := n + 31) hm k30 (by simp only [Nat.add_assoc, Nat.reduceAdd, Nat.add_left_cancel_iff, Nat.reduceEqDiff, not_false_eq_true]) ?_
  have k31 := (up_ne (f := _) (v := 20) (show ¬ n + 1 = n + 31 + 1 from (by simp only [Nat.add_assoc, Nat.reduceAdd, Nat.add_left_cancel_iff, Nat.reduceEqDiff, not_false_eq_true]))).trans k30
  refine st_32 (q := n + 32) hm k31 (by simp only [Nat.add_assoc, Nat.reduceAdd, Nat.add_left_cancel_iff, Nat.reduceEqDiff, not_false_eq_true]) ?_
  have k32 := (up_ne (f := _) (v := 20) (show ¬ n + 1 = n + 32 + 1 from (by simp only [Nat.add_assoc, Nat.reduceAdd, Nat.add_left_cancel_iff, Nat.reduceEqDiff, not_false_eq_true]))).trans k31
  refine st_33 (q := n + 33) hm k32 (by simp only [Nat.add_assoc, Nat.reduceAdd, Nat.add_left_cancel_iff, Nat.reduceEqDiff, not_false_eq_true]) ?_
  have k33 := (up_ne (f := _) (v := 21) (show ¬ n + 1 = n + 33 + 1 from (by simp only [Nat.add_assoc, Nat.reduceAdd, Nat.add_left_cancel_iff, Nat.reduceEqDiff, not_false_eq_true]))).trans k32
  refine st_34 (q := n + 34) hm k33 (by simp only [Nat.add_assoc, Nat.reduceAdd, Nat.add_left_cancel_iff, Nat.reduceEqDiff, not_false_eq_true]) ?_
  have k34 := (up_ne (f := _) (v := 20) (show ¬ n + 1 = n + 34 + 1 from (by simp only [Nat.add_assoc, Nat.reduceAdd, Nat.add_left_cancel_iff, Nat.reduceEqDiff, not_false_eq_true]))).trans k33
  refine st_35 (q := n + 35) hm k34 (by simp only [Nat.add_assoc, Nat.reduceAdd, Nat.add_left_cancel_iff, Nat.reduceEqDiff, not_false_eq_true]) ?_
  have k35 := (up_ne (f := _) (v := 21) (show ¬ n + 1 = n + 35 + 1 from (by simp only [Nat.add_assoc, Nat.reduceAdd, Nat.add_left_cancel_iff, Nat.reduceEqDiff, not_false_eq_true]))).trans k34
  refine st_36 (q := n + 36) hm k35 (by simp only [Nat.add_assoc, Nat.reduceAdd, Nat.add_left_cancel_iff, Nat.reduceEqDiff, not_false_eq_true]) ?_
  have k36 := (up_ne (f := _) (v := 20) (show ¬ n + 1 = n + 36 + 1 from (by simp only [Nat.add_assoc, Nat.reduceAdd, Nat.add_left_cancel_iff, Nat.reduceEqDiff, not_false_eq_true]))).trans k35
  refine st_37 (q := n + 37) hm k36 (by simp only [Nat.add_assoc, Nat.reduceAdd, Nat.add_left_cancel_iff, Nat.reduceEqDiff, not_false_eq_true]) ?_
  have k37 := (up_ne (f := _) (v := 21) (show ¬ n + 1 = n + 37 + 1 from (by simp only [Nat.add_assoc, Nat.reduceAdd, Nat.add_left_cancel_iff, Nat.reduceEqDiff, not_false_eq_true]))).trans k36
  refine st_38 (q := n + 38) hm k37 (by simp only [Nat.add_assoc, Nat.reduceAdd, Nat.add_left_cancel_iff, Nat.reduceEqDiff, not_false_eq_true]) ?_
  have k38 := (up_ne (f := _) (v := 21) (show ¬ n + 1 = n + 38 + 1 from (by simp only [Nat.add_assoc, Nat.reduceAdd, Nat.add_left_cancel_iff, Nat.reduceEqDiff, not_false_eq_true]))).trans k37
  refine st_39 (q := n + 39) hm k38 (by simp only [Nat.add_assoc, Nat.reduceAdd, Nat.add_left_cancel_iff, Nat.reduceEqDiff, not_false_eq_true]) ?_
  have k39 := (up_ne (f := _) (v := 20) (show ¬ n + 1 = n + 39 + 1 from (by simp only [Nat.add_assoc, Nat.reduceAdd, Nat.add_left_cancel_iff, Nat.reduceEqDiff, not_false_eq_true]))).trans k38
  refine st_40 (q := n + 40) hm k39 (by simp only [Nat.add_assoc, Nat.reduceAdd, Nat.add_left_cancel_iff, Nat.reduceEqDiff, not_false_eq_true]) ?_
  have k40 := (up_ne (f := _) (v := 20) (show ¬ n + 1 = n + 40 + 1 from (by simp only [Nat.add_assoc, Nat.reduceAdd, Nat.add_left_cancel_iff, Nat.reduceEqDiff, not_false_eq_true]))).trans k39
  refine st_41 (q := n + 41) hm k40 (by simp only [Nat.add_assoc, Nat.reduceAdd, Nat.add_left_cancel_iff, Nat.reduceEqDiff, not_false_eq_true]) ?_
  have k41 := (up_ne (f := _) (v := 20) (show ¬ n + 1 = n + 41 + 1 from (by simp only [Nat.add_assoc, Nat.reduceAdd, Nat.add_left_cancel_iff, Nat.reduceEqDiff, not_false_eq_true]))).trans k40
  refine st_42 (q := n + 42) hm k41 (by simp only [Nat.add_assoc, Nat.reduceAdd, Nat.add_left_cancel_iff, Nat.reduceEqDiff, not_false_eq_true]) ?_
  have k42 := (up_ne (f := _) (v := 20) (show ¬ n + 1 = n + 42 + 1 from (by simp only [Nat.add_assoc, Nat.reduceAdd, Nat.add_left_cancel_iff, Nat.reduceEqDiff, not_false_eq_true]))).trans k41
  refine st_43 (q := n + 43) hm k42 (by simp only [Nat.add_assoc, Nat.reduceAdd, Nat.add_left_cancel_iff, Nat.reduceEqDiff, not_false_eq_true]) ?_
  have k43 := (up_ne (f := _) (v := 20) (show ¬ n + 1 = n + 43 + 1 from (by simp only [Nat.add_assoc, Nat.reduceAdd, Nat.add_left_cancel_iff, Nat.reduceEqDiff, not_false_eq_true]))).trans k42
  refine st_44 (q := n + 44) hm k43 (by simp only [Nat.add_assoc, Nat.reduceAdd, Nat.add_left_cancel_iff, Nat.reduceEqDiff, not_false_eq_true]) ?_
  have k44 := (up_ne (f := _) (v := 20) (show ¬ n + 1 = n + 44 + 1 from (by simp only [Nat.add_assoc, Nat.reduceAdd, Nat.add_left_cancel_iff, Nat.reduceEqDiff, not_false_eq_true]))).trans k43
  refine st_45 (q := n + 45) hm k44 (by simp only [Nat.add_assoc, Nat.reduceAdd, Nat.add_left_cancel_iff, Nat.reduceEqDiff, not_false_eq_true]) ?_
  have k45 := (up_ne (f := _) (v := 20) (show ¬ n + 1 = n + 45 + 1 from (by simp only [Nat.add_assoc, Nat.reduceAdd, Nat.add_left_cancel_iff, Nat.reduceEqDiff, not_false_eq_true]))).trans k44
  refine st_46 (q := n + 46) hm k45 (by simp only [Nat.add_assoc, Nat.reduceAdd, Nat.add_left_cancel_iff, Nat.reduceEqDiff, not_false_eq_true]) ?_
  have k46 := (up_ne (f := _) (v := 20) (show ¬ n + 1 = n + 46 + 1 from (by simp only [Nat.add_assoc, Nat.reduceAdd, Nat.add_left_cancel_iff, Nat.reduceEqDiff, not_false_eq_true]))).trans k45
  refine st_47 (q := n + 47) hm k46 (by simp only [Nat.add_assoc, Nat.reduceAdd, Nat.add_left_cancel_iff, Nat.reduceEqDiff, not_false_eq_true]) ?_
  have k47 := (up_ne (f := _) (v := 21) (show ¬ n + 1 = n + 47 + 1 from (by simp only [Nat.add_assoc, Nat.reduceAdd, Nat.add_left_cancel_iff, Nat.reduceEqDiff, not_false_eq_true]))).trans k46
  refine st_48 (q := n + 48) hm k47 (by simp only [Nat.add_assoc, Nat.reduceAdd, Nat.add_left_cancel_iff, Nat.reduceEqDiff, not_false_eq_true]) ?_
  have k48 := (up_ne (f := _) (v := 20) (show ¬ n + 1 = n + 48 + 1 from (by simp only [Nat.add_assoc, Nat.reduceAdd, Nat.add_left_cancel_iff, Nat.reduceEqDiff, not_false_eq_true]))).trans k47
  refine st_49 (q := n + 49) hm k48 (by simp only [Nat.add_assoc, Nat.reduceAdd, Nat.add_left_cancel_iff, Nat.reduceEqDiff, not_false_eq_true]) ?_
  have k49 := (up_ne (f := _) (v := 20) (show ¬ n + 1 = n + 49 + 1 from (by simp only [Nat.add_assoc, Nat.reduceAdd, Nat.add_left_cancel_iff, Nat.reduceEqDiff, not_false_eq_true]))).trans k48
  refine st_50 (q := n + 50) hm k49 (by simp only [Nat.add_assoc, Nat.reduceAdd, Nat.add_left_cancel_iff, Nat.reduceEqDiff, not_false_eq_true]) ?_
  have k50 := (up_ne (f := _) (v := 20) (show ¬ n + 1 = n + 50 + 1 from (by simp only [Nat.add_assoc, Nat.reduceAdd, Nat.add_left_cancel_iff, Nat.reduceEqDiff, not_false_eq_true]))).trans k49
  refine st_51 (q := n + 51) hm k50 (by simp only [Nat.add_assoc, Nat.reduceAdd, Nat.add_left_cancel_iff, Nat.reduceEqDiff, not_false_eq_true]) ?_
  have k51 := (up_ne (f := _) (v := 20) (show ¬ n + 1 = n + 51 + 1 from (by simp only [Nat.add_assoc, Nat.reduceAdd, Nat.add_left_cancel_iff, Nat.reduceEqDiff, not_false_eq_true]))).trans k50
  refine st_52 (q := n + 52) hm k51 (by simp only [Nat.add_assoc, Nat.reduceAdd, Nat.add_left_cancel_iff, Nat.reduceEqDiff, not_false_eq_true]) ?_
  have k52 := (up_ne (f := _) (v := 20) (show ¬ n + 1 = n + 52 + 1 from (by simp only [Nat.add_assoc, Nat.reduceAdd, Nat.add_left_cancel_iff, Nat.reduceEqDiff, not_false_eq_true]))).trans k51
  simp only [q169_433, as_nil, as_i, as_r, Nat.reduceAdd, Nat.reduceLeDiff, z_eq0, z_eq1, z_or, z_em, Classical.not_not, not_false_eq_true, not_true_eq_false, true_and, and_true, false_and, and_false, and_self, true_implies, false_implies, implies_true, Option.toList_some, Option.toList_none, List.cons_append, List.nil_append, Nat.add_eq_zero_iff, a_nl_i, a_nl_r, a_nl_n, true_or, or_true, eq_self, a_isRA_22, a_isRA_24, a_isRA_32, a_isA_20]
  exact hP _ (by simp only [Nat.add_assoc, Nat.reduceAdd, Nat.add_le_add_iff_left, Nat.reduceLeDiff])
end KM

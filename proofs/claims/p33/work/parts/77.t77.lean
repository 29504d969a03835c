/-! owe of the class -/
section ZK0
variable {d n t C c n0 n' n'' t' : Nat} {K L K0 L0 K' L' K'' L'' : Nat → Nat} {I I0 J J0 J1 J2 : Nat → Nat → Int32} {R R0 R' R'' : Nat → Nat → Nat} {P : Option Value → AH → Prop}
variable {Y Z : Nat → Nat → Int32}
theorem ce_owedOne (hH : cH C c (n + 1) t K L I R) {q : Nat} (hq : K q = 1) {m : Int32} (hm : 1 ≤ m ∧ m ≤ 4) (hP : ∀ J, cH C (c + 1) (n + 1 + 1) (t + 17) (a_up K (n + 1) 1) (a_up L (n + 1) 17) J (a_zr R (n + 1)) → (∀ x j, x < n + 1 → J x j = I x j) → (J (n + 1) 0 = I q 0 ∧ J (n + 1) 1 = I q 1 ∧ J (n + 1) 2 = m ∧ J (n + 1) 3 = I q 3 ∧ J (n + 1) 5 = 5) → (J (n + 1) 6 = I q 6 ∧ J (n + 1) 7 = I q 7 ∧ J (n + 1) 8 = I q 8 ∧ J (n + 1) 9 = I q 9) → (J (n + 1) 12 = -9 ∧ J (n + 1) 13 = -9 ∧ J (n + 1) 14 = -9 ∧ J (n + 1) 15 = 0 ∧ J (n + 1) 16 = 0) → P (some (a_rf (n + 1))) (n + 1 + 1, t + 17, (a_up K (n + 1) 1), (a_up L (n + 1) 17), J, (a_zr R (n + 1)))) : a_does (d + 2) 142 [a_rf q, .int m] (n + 1, t, K, L, I, R) P := by
  have hT := hH.1
  have q1 := (hT.g_ask q hq).1
  have fr := hH.2.1
  have ql := kn_lt fr hq (by decide)
  have q0 : (q = 0) = False := eq_false (by omega)
  have qn : (q = n + 1) = False := eq_false (by omega)
  have f0 : (n + 1 = 0) = False := eq_false (by omega)
  have hq' : (a_up K (n + 1) 1) q = 1 := by rw [up_ne (by omega)]; exact hq
  have k1 : (a_up K (n + 1) 1) (n + 1) = 1 := up_eq
  rw [a_enter1 (M := a_m142) rfl (a_cat_rf (a_cat_int a_cat_nil)) (show 2 ≤ 3 by decide)]
  show a_at _ (a_xm a_m142) 0 [some (a_rf q), some (.int m), none] [] _ _
  simp only [q142_0, q142_3, q142_4, q142_5, q142_8, q142_9, q142_12, q142_13, q142_14, q142_17, as_nil, as_i, as_r, Nat.reduceAdd, Nat.reduceLeDiff, z_eq0, z_eq1, z_or, z_em, Classical.not_not, not_false_eq_true, not_true_eq_false, true_and, and_true, false_and, and_false, and_self, true_implies, false_implies, implies_true, Option.toList_some, Option.toList_none, List.cons_append, List.nil_append, Nat.add_eq_zero_iff, a_nl_i, a_nl_r, a_nl_n, true_or, or_true, eq_self, a_isRA_22, a_isRA_24, a_isRA_32, a_isA_20, ok_4, ok_5, ok_6, ok_7, ok_9, ok_20, ok_21, ok_30, ok_50, ok_180, ok_192, ok_200, hq, q0, up_ap, zi_ap, qn, f0, if_false]
  refine ce_Ainit hH hm (fun J z f1 f2 f3 => ?_)
  have e : ∀ j, J q j = I q j := fun j => f1 q j ql
  have gn := (z.1.g_ask _ k1).1
  have hp := hP (a_ui (a_ui (a_ui (a_ui (a_ui (a_ui (a_ui J (n + 1) 6 (I q 6)) (n + 1) 7 (I q 7)) (n + 1) 8 (I q 8)) (n + 1) 9 (I q 9)) (n + 1) 5 5) (n + 1) 10 0) (n + 1) 11 0) (cH_J z (sT_askf (sT_askf (sT_askf (sT_askf (sT_askf (sT_askf (sT_askf z.1 gn k1 (by decide)) gn k1 (by decide)) gn k1 (by decide)) gn k1 (by decide)) gn k1 (by decide)) gn k1 (by decide)) gn k1 (by decide))) (fun x j hx => by rw [ui_ap, if_neg (by omega), ui_ap, if_neg (by omega), ui_ap, if_neg (by omega), ui_ap, if_neg (by omega), ui_ap, if_neg (by omega), ui_ap, if_neg (by omega), ui_ap, if_neg (by omega)]; exact f1 x j hx) (by
    simp only [ui_ap, Nat.reduceEqDiff, reduceCtorEq, and_self, and_true, true_and, and_false, false_and, if_true, if_false]
    obtain ⟨w1, w2, w3, w4⟩ := f2
    exact ⟨w1, w2, w3, w4⟩) (by
    simp only [ui_ap, Nat.reduceEqDiff, reduceCtorEq, and_self, and_true, true_and, and_false, false_and, if_true, if_false]) (by
    simp only [ui_ap, Nat.reduceEqDiff, reduceCtorEq, and_self, and_true, true_and, and_false, false_and, if_true, if_false]
    exact f3)
  clear hP z f1 f2 f3
  simp only [q142_20, q142_21, q142_22, q142_23, q142_26, q142_27, q142_30, q142_31, q142_34, q142_35, q142_38, as_nil, as_i, as_r, Nat.reduceAdd, Nat.reduceLeDiff, z_eq0, z_eq1, z_or, z_em, Classical.not_not, not_false_eq_true, not_true_eq_false, true_and, and_true, false_and, and_false, and_self, true_implies, false_implies, implies_true, Option.toList_some, Option.toList_none, List.cons_append, List.nil_append, Nat.add_eq_zero_iff, a_nl_i, a_nl_r, a_nl_n, true_or, or_true, eq_self, a_isRA_22, a_isRA_24, a_isRA_32, a_isA_20, ok_4, ok_5, ok_6, ok_7, ok_9, ok_20, ok_21, ok_30, ok_50, ok_180, ok_192, ok_200, q0, hq', k1, f0, e]
  try simp only [true_and, and_true, true_implies, false_implies, implies_true, not_true_eq_false, not_false_eq_true]
  rw [a_enter1 (M := a_m41) rfl (a_cat_rf (a_cat_int (a_cat_int (a_cat_int (a_cat_int a_cat_nil))))) (show 5 ≤ 5 by decide)]
  show a_at _ (a_xm a_m41) 0 [some (a_rf (n+1)), some (.int (I q 6)), some (.int (I q 7)), some (.int (I q 8)), some (.int (I q 9))] [] _ _
  simp only [q41_0, q41_1, q41_2, q41_5, q41_6, q41_7, q41_10, q41_11, q41_12, q41_15, q41_16, q41_18, q41_21, as_nil, as_i, as_r, Nat.reduceAdd, Nat.reduceLeDiff, z_eq0, z_eq1, z_or, z_em, Classical.not_not, not_false_eq_true, not_true_eq_false, true_and, and_true, false_and, and_false, and_self, true_implies, false_implies, implies_true, Option.toList_some, Option.toList_none, List.cons_append, List.nil_append, Nat.add_eq_zero_iff, a_nl_i, a_nl_r, a_nl_n, true_or, or_true, eq_self, a_isRA_22, a_isRA_24, a_isRA_32, a_isA_20, ok_4, ok_5, ok_6, ok_7, ok_9, ok_20, ok_21, ok_30, ok_50, ok_180, ok_192, ok_200, k1, f0]
  try simp only [true_and, and_true, true_implies, false_implies, implies_true, not_true_eq_false, not_false_eq_true]
  simp only [q142_41, q142_42, q142_43, q142_44, q142_45, as_nil, as_i, as_r, Nat.reduceAdd, Nat.reduceLeDiff, z_eq0, z_eq1, z_or, z_em, Classical.not_not, not_false_eq_true, not_true_eq_false, true_and, and_true, false_and, and_false, and_self, true_implies, false_implies, implies_true, Option.toList_some, Option.toList_none, List.cons_append, List.nil_append, Nat.add_eq_zero_iff, a_nl_i, a_nl_r, a_nl_n, true_or, or_true, eq_self, a_isRA_22, a_isRA_24, a_isRA_32, a_isA_20, ok_4, ok_5, ok_6, ok_7, ok_9, ok_20, ok_21, ok_30, ok_50, ok_180, ok_192, ok_200, q0, hq', k1, f0]
  try simp only [true_and, and_true, true_implies, false_implies, implies_true, not_true_eq_false, not_false_eq_true]
  rw [a_enter1 (M := a_m42) rfl (a_cat_rf (a_cat_int (a_cat_int (a_cat_int a_cat_nil)))) (show 4 ≤ 4 by decide)]
  show a_at _ (a_xm a_m42) 0 [some (a_rf (n+1)), some (.int 5), some (.int 0), some (.int 0)] [] _ _
  simp only [q42_0, q42_1, q42_2, q42_5, q42_6, q42_7, q42_10, q42_11, q42_12, q42_15, as_nil, as_i, as_r, Nat.reduceAdd, Nat.reduceLeDiff, z_eq0, z_eq1, z_or, z_em, Classical.not_not, not_false_eq_true, not_true_eq_false, true_and, and_true, false_and, and_false, and_self, true_implies, false_implies, implies_true, Option.toList_some, Option.toList_none, List.cons_append, List.nil_append, Nat.add_eq_zero_iff, a_nl_i, a_nl_r, a_nl_n, true_or, or_true, eq_self, a_isRA_22, a_isRA_24, a_isRA_32, a_isA_20, ok_4, ok_5, ok_6, ok_7, ok_9, ok_20, ok_21, ok_30, ok_50, ok_180, ok_192, ok_200, k1, f0]
  try simp only [true_and, and_true, true_implies, false_implies, implies_true, not_true_eq_false, not_false_eq_true]
  simp only [q142_48, q142_49, as_nil, as_i, as_r, Nat.reduceAdd, Nat.reduceLeDiff, z_eq0, z_eq1, z_or, z_em, Classical.not_not, not_false_eq_true, not_true_eq_false, true_and, and_true, false_and, and_false, and_self, true_implies, false_implies, implies_true, Option.toList_some, Option.toList_none, List.cons_append, List.nil_append, Nat.add_eq_zero_iff, a_nl_i, a_nl_r, a_nl_n, true_or, or_true, eq_self, a_isRA_22, a_isRA_24, a_isRA_32, a_isA_20, ok_4, ok_5, ok_6, ok_7, ok_9, ok_20, ok_21, ok_30, ok_50, ok_180, ok_192, ok_200, q0, hq', k1, f0]
  try simp only [true_and, and_true, true_implies, false_implies, implies_true, not_true_eq_false, not_false_eq_true]
  first
    | exact hp
    | grind
end ZK0
section ZK1
variable {d n t C c n0 n' n'' t' : Nat} {K L K0 L0 K' L' K'' L'' : Nat → Nat} {I I0 J J0 J1 J2 : Nat → Nat → Int32} {R R0 R' R'' : Nat → Nat → Nat} {P : Option Value → AH → Prop}
variable {Y Z : Nat → Nat → Int32}
theorem al_16 {i : Int32} {q : Nat} (h : alP I Y i q) : alP (a_ui I q 16 1) (upY Y 19 i.toNatClampNeg 1) i q := by
  unfold alP at h ⊢
  simp only [ui_ap, upY, true_and, and_true, Nat.reduceEqDiff, false_and, if_false, if_true, reduceIte]
  exact ⟨h.1, h.2.1, h.2.2.1, h.2.2.2.1, h.2.2.2.2.1⟩
/-- the words behind what is owed -/
def oeW (Y : Nat → Nat → Int32) (a : Int32) : Nat → Nat → Int32 := (upY (upY (upY (upY (upY (upY (upY (upY (upY (upY (upY (upY (upY Y 7 (Y 0 17).toNatClampNeg 5) 8 (Y 0 17).toNatClampNeg (Y 8 a.toNatClampNeg)) 9 (Y 0 17).toNatClampNeg (Y 9 a.toNatClampNeg)) 10 (Y 0 17).toNatClampNeg (ohY Y a)) 11 (Y 0 17).toNatClampNeg (Y 11 a.toNatClampNeg)) 20 (Y 0 17).toNatClampNeg (-9)) 21 (Y 0 17).toNatClampNeg (-9)) 0 17 (Y 0 17 + 1)) 12 (Y 0 17).toNatClampNeg (Y 12 a.toNatClampNeg)) 13 (Y 0 17).toNatClampNeg (Y 13 a.toNatClampNeg)) 14 (Y 0 17).toNatClampNeg (Y 14 a.toNatClampNeg)) 15 (Y 0 17).toNatClampNeg (Y 15 a.toNatClampNeg)) 19 a.toNatClampNeg 1)
def oeY (Y : Nat → Nat → Int32) (a : Int32) : Int32 × (Nat → Nat → Int32) := if ¬ (0 ≤ a ∧ a < Y 0 17) then (-1, Y) else if ¬ Y 19 a.toNatClampNeg = 0 ∨ loY Y a = 0 ∨ ohY Y a = 0 then (-3, Y) else if Y 0 17 = 30 then (-6, Y) else (Y 0 17, oeW Y a)
theorem oe_no {a : Int32} {k j : Nat} (h : ¬ ((7 ≤ k ∧ k ≤ 21) ∧ j = (Y 0 17).toNatClampNeg)) (h2 : ¬ (k = 0 ∧ (j = 17 ∨ j = 12))) : oeW Y a k j = upY Y 19 a.toNatClampNeg 1 k j := by
  unfold oeW
  by_cases e : k = 19 ∧ j = a.toNatClampNeg
  · rw [e.1, e.2, up_at, up_at]
  · rw [up_no (by omega), up_no (by omega), up_no (by omega), up_no (by omega), up_no (by omega), up_no (by omega), up_no (by omega), up_no (by omega), up_no (by omega), up_no (by omega), up_no (by omega), up_no (by omega), up_no (by omega), up_no (by omega)]
theorem oe_at {a : Int32} (ha : ¬ (Y 0 17).toNatClampNeg = a.toNatClampNeg) : oeW Y a 7 (Y 0 17).toNatClampNeg = 5 ∧ oeW Y a 8 (Y 0 17).toNatClampNeg = (Y 8 a.toNatClampNeg) ∧ oeW Y a 9 (Y 0 17).toNatClampNeg = (Y 9 a.toNatClampNeg) ∧ oeW Y a 10 (Y 0 17).toNatClampNeg = (ohY Y a) ∧ oeW Y a 11 (Y 0 17).toNatClampNeg = (Y 11 a.toNatClampNeg) ∧ oeW Y a 20 (Y 0 17).toNatClampNeg = (-9) ∧ oeW Y a 21 (Y 0 17).toNatClampNeg = (-9) ∧ oeW Y a 0 17 = (Y 0 17 + 1) ∧ oeW Y a 12 (Y 0 17).toNatClampNeg = (Y 12 a.toNatClampNeg) ∧ oeW Y a 13 (Y 0 17).toNatClampNeg = (Y 13 a.toNatClampNeg) ∧ oeW Y a 14 (Y 0 17).toNatClampNeg = (Y 14 a.toNatClampNeg) ∧ oeW Y a 15 (Y 0 17).toNatClampNeg = (Y 15 a.toNatClampNeg) ∧ oeW Y a 18 (Y 0 17).toNatClampNeg = Y 18 (Y 0 17).toNatClampNeg ∧ oeW Y a 19 (Y 0 17).toNatClampNeg = Y 19 (Y 0 17).toNatClampNeg ∧ oeW Y a 16 (Y 0 17).toNatClampNeg = Y 16 (Y 0 17).toNatClampNeg := by
  unfold oeW upY
  simp only [ha, Nat.reduceEqDiff, reduceCtorEq, and_self, and_true, true_and, and_false, false_and, if_true, if_false]
theorem oh_rng (hT : cT C K L I R) (hu : cuP C K L I R Y) {a : Int32} (c1 : 0 ≤ a ∧ a < Y 0 17) : hw C L R I (R (C + 15) a.toNatClampNeg) = ohY Y a ∧ lw C I (R (C + 15) a.toNatClampNeg) = loY Y a ∧ (0 ≤ ohY Y a ∧ ohY Y a ≤ 4) := by
  have hc := hu.1
  have h17 := hc.2.2.2.2.2.2.2.2.1
  have ap := aa_of hc c1.1 c1.2
  obtain ⟨-, ⟨ka, -, -⟩, am, al⟩ := ap
  have a3 : 0 ≤ a ∧ a < 30 := ⟨c1.1, Int32.lt_of_lt_of_le c1.2 h17.2⟩
  have y10 := hc.2.2.2.2.2.1 a.toNatClampNeg
  have e := hw_oh hT hc.2.2.2.1 hc.2.2.2.2.1 a3 al am hc.1.2.2 hc.2.2.2.2.2.2.2.2.2.2.1 ⟨hc.2.2.2.2.2.2.1 a c1.1 c1.2, y10.2⟩
  exact ⟨e, lw_lo a3 al hc.1.2.2 hc.2.2.2.2.2.2.2.2.2.2.1 y10, by rw [← e]; exact hw_rng ka hT⟩
theorem cu_owe2 {J J3 : Nat → Nat → Int32} (hH : cH C c (n + 1) t K L I R) (hu : cuP C K L I R Y) {a : Int32} (c1 : 0 ≤ a ∧ a < Y 0 17) (h30 : Y 0 17 < 30) (h18 : Y 18 (Y 0 17).toNatClampNeg = 0 ∧ Y 19 (Y 0 17).toNatClampNeg = 0) (h0 : ¬ ohY Y a = 0) (hu3 : cuP C K L J3 R (upY Y 19 a.toNatClampNeg 1)) (hT3 : cT C K L J3 R) (e3 : ∀ j, ¬ j = 16 → J3 (R (C + 15) a.toNatClampNeg) j = I (R (C + 15) a.toNatClampNeg) j) (z : cH C (c + 1) (n + 1 + 1) (t + 17) (a_up K (n + 1) 1) (a_up L (n + 1) 17) J (a_zr R (n + 1))) (f1 : ∀ x j, x < n + 1 → J x j = J3 x j) (g1 : J (n + 1) 0 = J3 (R (C + 15) a.toNatClampNeg) 0 ∧ J (n + 1) 1 = J3 (R (C + 15) a.toNatClampNeg) 1 ∧ J (n + 1) 2 = ohY Y a ∧ J (n + 1) 3 = J3 (R (C + 15) a.toNatClampNeg) 3 ∧ J (n + 1) 5 = 5) (g2 : J (n + 1) 6 = J3 (R (C + 15) a.toNatClampNeg) 6 ∧ J (n + 1) 7 = J3 (R (C + 15) a.toNatClampNeg) 7 ∧ J (n + 1) 8 = J3 (R (C + 15) a.toNatClampNeg) 8 ∧ J (n + 1) 9 = J3 (R (C + 15) a.toNatClampNeg) 9) (g3 : J (n + 1) 12 = -9 ∧ J (n + 1) 13 = -9 ∧ J (n + 1) 14 = -9 ∧ J (n + 1) 15 = 0 ∧ J (n + 1) 16 = 0) : cuP C (a_up K (n + 1) 1) (a_up L (n + 1) 17) (a_ui (a_ui J (n + 1) 4 (Y 0 17)) (C + 14) 4 (Y 0 17 + 1)) (a_ur (a_zr R (n + 1)) (C + 15) (Y 0 17).toNatClampNeg (n + 1)) (oeW Y a) := by
  have hT := hH.1
  have hC := hH.2.2.1
  have hc := hu.1
  have h17 := hc.2.2.2.2.2.2.2.2.1
  have aN : ¬ (Y 0 17).toNatClampNeg = a.toNatClampNeg := by have := cl_lt c1.1 c1.2; omega
  obtain ⟨b0, b1, b2, b3, b4, b5, b6, b7, b8, b9, b10, b11, s18, s19, s16⟩ := oe_at (Y := Y) aN
  obtain ⟨-, -, -, al⟩ := aa_of hc c1.1 c1.2
  obtain ⟨-, -, o0, o4⟩ := oh_rng hT hu c1
  have hH3 := cH_J hH hT3
  have hu5 := cu_grow (K' := (a_up K (n + 1) 1)) (L' := (a_up L (n + 1) 17)) (J := J) (R' := (a_zr R (n + 1))) hH3 hu3 (fun x hx => up_ne (by omega)) (fun x hx => up_ne (by omega)) f1 (fun x j hx => zr_ne (by omega))
  have z17 : upY Y 19 a.toNatClampNeg 1 0 17 = Y 0 17 := up_no (by omega)
  have row : ∀ i : Int32, 0 ≤ i → i < Y 0 17 → R (C + 15) i.toNatClampNeg < n + 1 := fun i i0 i1 => kn_lt hH.2.1 (hc.2.2.1.2.1 i i0 i1).1 (by decide)
  have j2 : ∀ j, ¬ j = 4 → a_ui (a_ui J (n + 1) 4 (Y 0 17)) (C + 14) 4 (Y 0 17 + 1) (n + 1) j = J (n + 1) j := fun j hj => by rw [ui_ap, if_neg (by omega), ui_ap, if_neg (by omega)]
  have hm := cu_more (Y := upY Y 19 a.toNatClampNeg 1) (Z := oeW Y a) (A := n + 1) (J := a_ui (a_ui J (n + 1) 4 (Y 0 17)) (C + 14) 4 (Y 0 17 + 1)) (R' := a_ur (a_zr R (n + 1)) (C + 15) (Y 0 17).toNatClampNeg (n + 1)) z.1 hu5 (by rw [z17]; exact ⟨h17.1, h30⟩) up_eq (fun i i0 i1 => by
    rw [z17] at i1
    rw [zr_ne (by omega)]
    have := row i i0 i1
    omega) (fun x j p1 p2 => by rw [ui_ap, if_neg p2, ui_ap, if_neg (fun q => p1 q.1)]) (by rw [ui_ap, if_pos ⟨rfl, rfl⟩, z17])
  rw [z17] at hm
  refine hm (fun x j p1 p2 => by rw [ur_ap, if_neg p1]) (by rw [ur_ap, if_pos ⟨rfl, rfl⟩]) (fun k j p1 p2 => oe_no p1 p2) b7 (by rw [ui_ap, if_neg (by omega), ui_ap, if_pos ⟨rfl, rfl⟩]) (by rw [j2 12 (by omega)]; exact g3.1) ?_ ⟨b5, b6⟩ ?_ (fun w => by rw [b0] at w; exact absurd w (by decide)) ?_
  · obtain ⟨⟨l0, l1, l2, l3, l5⟩, ⟨l6, l7, l8, l9⟩, -⟩ := al
    unfold alP
    rw [j2 0 (by omega), j2 1 (by omega), j2 2 (by omega), j2 3 (by omega), j2 5 (by omega), j2 6 (by omega), j2 7 (by omega), j2 8 (by omega), j2 9 (by omega), j2 13 (by omega), j2 14 (by omega), j2 15 (by omega), j2 16 (by omega), b0, b1, b2, b3, b4, b5, b6, b8, b9, b10, b11, s18, s19, h18.1, h18.2, g1.1, g1.2.1, g1.2.2.1, g1.2.2.2.1, g1.2.2.2.2, g2.1, g2.2.1, g2.2.2.1, g2.2.2.2, g3.2.1, g3.2.2.1, g3.2.2.2.1, g3.2.2.2.2, e3 0 (by omega), e3 1 (by omega), e3 3 (by omega), e3 6 (by omega), e3 7 (by omega), e3 8 (by omega), e3 9 (by omega), l0, l1, l3, l6, l7, l8, l9]
    exact ⟨⟨rfl, rfl, rfl, rfl, rfl⟩, ⟨rfl, rfl, rfl, rfl⟩, fun w => absurd w (by decide), ⟨rfl, rfl⟩, ⟨fun _ => rfl, fun _ => rfl⟩, ⟨fun _ => rfl, fun _ => rfl⟩⟩
  · rw [b3]
    refine ⟨?_, o4⟩
    clear hm hu3 hu5 hu hc al z f1 g1 g2 g3
    grind
  · obtain ⟨d1, d2⟩ := hu.2.2.1.2.2.1
    have r0 : a_ur (a_zr R (n + 1)) (C + 15) (Y 0 17).toNatClampNeg (n + 1) C 11 = R C 11 := by rw [ur_ap, if_neg (by omega), zr_ne (by omega)]
    have zz : ∀ j, ¬ (j = 17 ∨ j = 12) → oeW Y a 0 j = Y 0 j := fun j hj => by rw [oe_no (by omega) (by omega), up_no (by omega)]
    have z12 : oeW Y a 0 12 = Y 0 12 := by
      unfold oeW
      rw [up_no (by omega), up_no (by omega), up_no (by omega), up_no (by omega), up_no (by omega), up_no (by omega), up_no (by omega), up_no (by omega), up_no (by omega), up_no (by omega), up_no (by omega), up_no (by omega), up_no (by omega)]
    unfold siD
    rw [r0, z12]
    refine ⟨d1, fun hd => ?_⟩
    obtain ⟨k1, w1, w2, w3⟩ := d2 hd
    have dl := kn_lt hH.2.1 k1 (by decide)
    have dne : ¬ R C 11 = (R (C + 15) a.toNatClampNeg) := fun w => w3 a c1.1 c1.2 w.symm
    have g := (hT.g_ask _ k1).1
    obtain ⟨-, v1, v2, -⟩ := hu3.2.2.1.2.2.1.2 hd
    have ej : ∀ j, a_ui (a_ui J (n + 1) 4 (Y 0 17)) (C + 14) 4 (Y 0 17 + 1) (R C 11) j = J3 (R C 11) j := fun j => by rw [ui_ap, if_neg (by omega), ui_ap, if_neg (by omega)]; exact f1 _ _ dl
    simp only [ej]
    refine ⟨by rw [up_ne (by omega)]; exact k1, ?_, v2, fun i i0 i1 => ?_⟩
    · rw [zz 13 (by omega), zz 14 (by omega), zz 15 (by omega), zz 16 (by omega)]
      rw [up_no (by omega), up_no (by omega), up_no (by omega), up_no (by omega)] at v1
      exact v1
    · rw [b7] at i1
      by_cases e : i = Y 0 17
      · rw [e, ur_ap, if_pos ⟨rfl, rfl⟩]
        omega
      · have hi : i < Y 0 17 := by clear hm hu3 hu5 hu hc al z f1 g1 g2 g3 w1 w2 w3 v1 v2; grind
        have := cl_lt i0 hi
        rw [ur_ap, if_neg (by omega), zr_ne (by omega)]
        exact w3 i i0 hi
theorem ge_owe (hH : cH C c (n + 1) t K L I R) (hu : cuP C K L I R Y) (hnw : ∀ a : Nat, a < 30 → (Y 0 17).toNatClampNeg ≤ a → Y 18 a = 0 ∧ Y 19 a = 0) {a : Int32} (hP : ∀ n' t' K' L' J R', cH C (c + 4) (n' + 1) t' K' L' J R' → cuP C K' L' J R' (oeY Y a).2 → P (some (.int (oeY Y a).1)) (n' + 1, t', K', L', J, R')) : a_does (d + 70) 141 [a_rf C, .int a] (n + 1, t, K, L, I, R) P := by
  have hT := hH.1
  have hS := hT.s
  have gA := hT.g_asksR
  have gB := hT.g_benchesR
  have gX := hT.g_textsR
  have hc := hu.1
  have h17 := hc.2.2.2.2.2.2.2.2.1
  have e4 : I (C + 14) 4 = Y 0 17 := hc.2.2.1.1
  unfold oeY at hP
  have hr54 : ∀ J, cH C c (n + 1) t K L J R → cuP C K L J R Y → (∀ J, cH C c (n + 1) t K L J R → cuP C K L J R Y → P (some (.int (-3))) (n + 1, t, K, L, J, R)) → a_does (d + 69) 10 [a_rf C, .int (-3)] (n + 1, t, K, L, J, R) (fun q h' => a_at (d + 69) (a_xm a_m141) 54 [some (a_rf C), some (.int a), some (a_rf (R (C + 15) a.toNatClampNeg))] (q.toList ++ []) h' P) := fun J zH zu hq => by
    refine ge_refuse (d := d + 68) zH zu (fun J z1 z2 => ?_)
    have hp := hq J z1 z2
    clear hq hP hc hu
    simp only [q141_54, as_nil, as_i, as_r, Nat.reduceAdd, Nat.reduceLeDiff, z_eq0, z_eq1, z_or, z_em, Classical.not_not, not_false_eq_true, not_true_eq_false, true_and, and_true, false_and, and_false, and_self, true_implies, false_implies, implies_true, Option.toList_some, Option.toList_none, List.cons_append, List.nil_append, Nat.add_eq_zero_iff, a_nl_i, a_nl_r, a_nl_n, true_or, or_true, eq_self, a_isRA_22, a_isRA_24, a_isRA_32, a_isA_20, ok_4, ok_5, ok_6, ok_7, ok_9, ok_20, ok_21, ok_30, ok_50, ok_180, ok_192, ok_200]
    exact hp
  have hr73 : ∀ J, cH C c (n + 1) t K L J R → cuP C K L J R Y → (∀ J, cH C c (n + 1) t K L J R → cuP C K L J R Y → P (some (.int (-6))) (n + 1, t, K, L, J, R)) → a_does (d + 69) 10 [a_rf C, .int (-6)] (n + 1, t, K, L, J, R) (fun q h' => a_at (d + 69) (a_xm a_m141) 73 [some (a_rf C), some (.int a), some (a_rf (R (C + 15) a.toNatClampNeg))] (q.toList ++ []) h' P) := fun J zH zu hq => by
    refine ge_refuse (d := d + 68) zH zu (fun J z1 z2 => ?_)
    have hp := hq J z1 z2
    clear hq hP hc hu
    simp only [q141_73, as_nil, as_i, as_r, Nat.reduceAdd, Nat.reduceLeDiff, z_eq0, z_eq1, z_or, z_em, Classical.not_not, not_false_eq_true, not_true_eq_false, true_and, and_true, false_and, and_false, and_self, true_implies, false_implies, implies_true, Option.toList_some, Option.toList_none, List.cons_append, List.nil_append, Nat.add_eq_zero_iff, a_nl_i, a_nl_r, a_nl_n, true_or, or_true, eq_self, a_isRA_22, a_isRA_24, a_isRA_32, a_isA_20, ok_4, ok_5, ok_6, ok_7, ok_9, ok_20, ok_21, ok_30, ok_50, ok_180, ok_192, ok_200]
    exact hp
  by_cases c1 : 0 ≤ a ∧ a < Y 0 17
  · rw [if_neg (fun q => q c1)] at hP
    have hac : 0 ≤ a ∧ a < I (C + 14) 4 ∧ a < 30 := ⟨c1.1, by rw [e4]; exact c1.2, Int32.lt_of_lt_of_le c1.2 h17.2⟩
    have ap := aa_of hc c1.1 c1.2
    obtain ⟨-, ⟨ha, an0, a4n⟩, am, al⟩ := id ap
    have a0 : ((R (C + 15) a.toNatClampNeg) = 0) = False := eq_false an0
    have aC := (hT.g_ask _ ha).1
    have gasks := hT.g_asks
    have e13 : I (R (C + 15) a.toNatClampNeg) 13 = Y 20 a.toNatClampNeg := al.2.2.2.1.1
    have e15 : (I (R (C + 15) a.toNatClampNeg) 15 = 0) = (Y 18 a.toNatClampNeg = 0) := propext al.2.2.2.2.1
    have e16 : (I (R (C + 15) a.toNatClampNeg) 16 = 0) = (Y 19 a.toNatClampNeg = 0) := propext al.2.2.2.2.2
    obtain ⟨ohv, lov, o0, o4⟩ := oh_rng hT hu c1
    by_cases c2 : Y 19 a.toNatClampNeg = 0
    · by_cases c3 : loY Y a = 0
      · rw [if_pos (Or.inr (Or.inl c3))] at hP
        have hr := hr54 I hH hu (fun J z1 z2 => hP n t K L J R (cH_le z1 (by omega)) z2)
        have hlo : a_does (d + 69) 54 [a_rf (C + 14), a_rf (R (C + 15) a.toNatClampNeg)] (n + 1, t, K, L, I, R) (fun q h' => a_at (d + 69) (a_xm a_m141) 34 [some (a_rf C), some (.int a), some (a_rf (R (C + 15) a.toNatClampNeg))] (q.toList ++ []) h' P) := by
          refine ck_loss (d := d + 66) ha hT ?_
          rw [lov, c3]
          clear hP hc ap al am hu hr54 hr73
          simp only [q141_34, q141_48, q141_49, q141_51, k_0 hS, z_C hS, as_nil, as_i, as_r, Nat.reduceAdd, Nat.reduceLeDiff, z_eq0, z_eq1, z_or, z_em, Classical.not_not, not_false_eq_true, not_true_eq_false, true_and, and_true, false_and, and_false, and_self, true_implies, false_implies, implies_true, Option.toList_some, Option.toList_none, List.cons_append, List.nil_append, Nat.add_eq_zero_iff, a_nl_i, a_nl_r, a_nl_n, true_or, or_true, eq_self, a_isRA_22, a_isRA_24, a_isRA_32, a_isA_20, ok_4, ok_5, ok_6, ok_7, ok_9, ok_20, ok_21, ok_30, ok_50, ok_180, ok_192, ok_200]
          try simp only [true_and, and_true, true_implies, false_implies, implies_true, not_true_eq_false, not_false_eq_true]
          first
            | exact hr
            | grind
        clear hP hc ap al am hu hr54 hr73
        rw [a_enter1 (M := a_m141) rfl (a_cat_rf (a_cat_int a_cat_nil)) (show 2 ≤ 3 by decide)]
        show a_at _ (a_xm a_m141) 0 [some (a_rf C), some (.int a), none] [] _ _
        simp only [q141_0, q141_1, q141_4, q141_5, q141_8, q141_9, q141_10, q141_13, q141_14, q141_15, q141_18, q141_19, q141_20, q141_23, q141_26, q141_27, q141_30, q141_31, k_0 hS, z_C hS, r_0_4 hS, k_14 hS, z_14, sp_askAt hS gA, as_nil, as_i, as_r, Nat.reduceAdd, Nat.reduceLeDiff, z_eq0, z_eq1, z_or, z_em, Classical.not_not, not_false_eq_true, not_true_eq_false, true_and, and_true, false_and, and_false, and_self, true_implies, false_implies, implies_true, Option.toList_some, Option.toList_none, List.cons_append, List.nil_append, Nat.add_eq_zero_iff, a_nl_i, a_nl_r, a_nl_n, true_or, or_true, eq_self, a_isRA_22, a_isRA_24, a_isRA_32, a_isA_20, ok_4, ok_5, ok_6, ok_7, ok_9, ok_20, ok_21, ok_30, ok_50, ok_180, ok_192, ok_200, hac, ha, a0, e16, c2]
        try simp only [true_and, and_true, true_implies, false_implies, implies_true, not_true_eq_false, not_false_eq_true]
        first
          | exact hlo
          | grind
      · have hlo : a_does (d + 69) 54 [a_rf (C + 14), a_rf (R (C + 15) a.toNatClampNeg)] (n + 1, t, K, L, I, R) (fun q h' => a_at (d + 69) (a_xm a_m141) 34 [some (a_rf C), some (.int a), some (a_rf (R (C + 15) a.toNatClampNeg))] (q.toList ++ []) h' P) := by
          refine ck_loss (d := d + 66) ha hT ?_
          have how : a_does (d + 69) 58 [a_rf (C + 14), a_rf (R (C + 15) a.toNatClampNeg)] (n + 1, t, K, L, I, R) (fun q h' => a_at (d + 69) (a_xm a_m141) 45 [some (a_rf C), some (.int a), some (a_rf (R (C + 15) a.toNatClampNeg))] (q.toList ++ []) h' P) := by
            refine ck_hallOwed (d := d + 65) ha hT (fun J hJ => ?_)
            have hT2 := hJ.1
            have hS2 := hT2.s
            have hH2 := cH_J hH hT2
            have hu2 := cu_C hT hJ hu hH
            rw [ohv]
            by_cases c4 : ohY Y a = 0
            · rw [if_pos (Or.inr (Or.inr c4))] at hP
              have hr := hr54 J hH2 hu2 (fun J z1 z2 => hP n t K L J R (cH_le z1 (by omega)) z2)
              clear hP hc ap al am hu hu2 hr54 hr73
              rw [c4]
              simp only [q141_45, q141_48, q141_49, q141_51, k_0 hS2, z_C hS2, as_nil, as_i, as_r, Nat.reduceAdd, Nat.reduceLeDiff, z_eq0, z_eq1, z_or, z_em, Classical.not_not, not_false_eq_true, not_true_eq_false, true_and, and_true, false_and, and_false, and_self, true_implies, false_implies, implies_true, Option.toList_some, Option.toList_none, List.cons_append, List.nil_append, Nat.add_eq_zero_iff, a_nl_i, a_nl_r, a_nl_n, true_or, or_true, eq_self, a_isRA_22, a_isRA_24, a_isRA_32, a_isA_20, ok_4, ok_5, ok_6, ok_7, ok_9, ok_20, ok_21, ok_30, ok_50, ok_180, ok_192, ok_200]
              try simp only [true_and, and_true, true_implies, false_implies, implies_true, not_true_eq_false, not_false_eq_true]
              first
                | exact hr
                | grind
            · rw [if_neg (fun w => w.elim (fun w => w c2) (fun w => w.elim c3 c4))] at hP
              have e4J : J (C + 14) 4 = Y 0 17 := hu2.1.2.2.1.1
              by_cases c5 : Y 0 17 = 30
              · rw [if_pos c5] at hP
                have hr := hr73 J hH2 hu2 (fun J z1 z2 => hP n t K L J R (cH_le z1 (by omega)) z2)
                have n30 : ¬ (30 : Int32) < 30 := by decide
                have n30' : (30 : Int32) ≤ 30 := by decide
                clear hP hc ap al am hu hu2 hr54 hr73
                simp only [q141_45, q141_55, q141_56, q141_59, q141_62, q141_64, q141_67, q141_68, q141_70, k_0 hS2, z_C hS2, r_0_4 hS2, k_14 hS2, z_14, as_nil, as_i, as_r, Nat.reduceAdd, Nat.reduceLeDiff, z_eq0, z_eq1, z_or, z_em, Classical.not_not, not_false_eq_true, not_true_eq_false, true_and, and_true, false_and, and_false, and_self, true_implies, false_implies, implies_true, Option.toList_some, Option.toList_none, List.cons_append, List.nil_append, Nat.add_eq_zero_iff, a_nl_i, a_nl_r, a_nl_n, true_or, or_true, eq_self, a_isRA_22, a_isRA_24, a_isRA_32, a_isA_20, ok_4, ok_5, ok_6, ok_7, ok_9, ok_20, ok_21, ok_30, ok_50, ok_180, ok_192, ok_200, c4, e4J, c5, n30, n30']
                try simp only [true_and, and_true, true_implies, false_implies, implies_true, not_true_eq_false, not_false_eq_true]
                first
                  | exact hr
                  | grind
              · rw [if_neg c5] at hP
                have h30 : Y 0 17 < 30 := by clear hP hc ap al am hu hu2 hr54 hr73; grind
                have haJ : aaP C K J Y a (R (C + 15) a.toNatClampNeg) := aa_of hu2.1 c1.1 c1.2
                have hT3 := sT_askf (v := 1) (k := 16) hT2 aC ha (by decide)
                have hu3 := cu_af hH2 hu2 c1 (rw_up9 (j := a.toNatClampNeg) (v := 1) (Or.inr (Or.inr (Or.inl rfl)))) (funext (fun m => up_no (by omega))) (j := 16) (v := 1) (Or.inr (Or.inr rfl)) (al_16 haJ.2.2.2) up_row
                have hH3 := cH_J hH2 hT3
                have ow2 : a_does (d + 69) 58 [a_rf (C + 14), a_rf (R (C + 15) a.toNatClampNeg)] (n + 1, t, K, L, (a_ui J (R (C + 15) a.toNatClampNeg) 16 1), R) (fun q h' => a_at (d + 69) (a_xm a_m141) 92 [some (a_rf C), some (.int a), some (a_rf (R (C + 15) a.toNatClampNeg))] (q.toList ++ [a_rf (R (C + 15) a.toNatClampNeg), a_rf (C + 14)]) h' P) := by
                  refine ck_hallOwed (d := d + 65) ha hT3 (fun J3 hJ3 => ?_)
                  have hT4 := hJ3.1
                  have hS4 := hT4.s
                  have hH4 := cH_J hH3 hT4
                  have hu4 := cu_C hT3 hJ3 hu3 hH3
                  have e3 : ∀ j, ¬ j = 16 → J3 (R (C + 15) a.toNatClampNeg) j = I (R (C + 15) a.toNatClampNeg) j := fun j hj => by
                    rw [hJ3.2 _ _ (by omega) (by omega), ui_ap, if_neg (fun q => hj q.2), hJ.2 _ _ (by omega) (by omega)]
                  have e5 : J3 (C + 14) 4 = Y 0 17 := by
                    have := hu4.1.2.2.1.1
                    rw [up_no (by omega)] at this
                    exact this
                  rw [hw_ui ha hT2, hw_C hJ ha hT, ohv]
                  have hm1 : 1 ≤ ohY Y a ∧ ohY Y a ≤ 4 := ⟨by clear hP hc ap al am hu hu2 hu3 hu4 hr54 hr73; grind, o4⟩
                  have hon : a_does (d + 69) 142 [a_rf (R (C + 15) a.toNatClampNeg), .int (ohY Y a)] (n + 1, t, K, L, J3, R) (fun q h' => a_at (d + 69) (a_xm a_m141) 95 [some (a_rf C), some (.int a), some (a_rf (R (C + 15) a.toNatClampNeg))] (q.toList ++ [a_rf (C + 14)]) h' P) := by
                    refine ce_owedOne (d := d + 67) hH4 ha hm1 (fun J5 z f1 g1 g2 g3 => ?_)
                    have hS5 := z.1.s
                    have hC := hH.2.2.1
                    have had : a_does (d + 69) 43 [a_rf (C + 14), a_rf (n+1)] (n + 1 + 1, t + 17, (a_up K (n + 1) 1), (a_up L (n + 1) 17), J5, (a_zr R (n + 1))) (fun q h' => a_at (d + 69) (a_xm a_m141) 98 [some (a_rf C), some (.int a), some (a_rf (R (C + 15) a.toNatClampNeg))] (q.toList ++ []) h' P) := by
                      refine ce_addAsk (d := d + 68) (m := Y 0 17) up_eq z (by rw [f1 _ _ (by omega)]; exact e5) h30 (fun hH9 => ?_)
                      have hp := hP (n + 1) _ _ _ _ _ (cH_le hH9 (by omega)) (cu_owe2 hH hu c1 h30 (hnw _ (a_lt30 ⟨h17.1, h30⟩) (Nat.le_refl _)) c4 hu4 hT4 e3 z f1 g1 g2 g3)
                      clear hP hc ap al am hu hu2 hu3 hu4 hr54 hr73 hH9 z
                      simp only [q141_98, as_nil, as_i, as_r, Nat.reduceAdd, Nat.reduceLeDiff, z_eq0, z_eq1, z_or, z_em, Classical.not_not, not_false_eq_true, not_true_eq_false, true_and, and_true, false_and, and_false, and_self, true_implies, false_implies, implies_true, Option.toList_some, Option.toList_none, List.cons_append, List.nil_append, Nat.add_eq_zero_iff, a_nl_i, a_nl_r, a_nl_n, true_or, or_true, eq_self, a_isRA_22, a_isRA_24, a_isRA_32, a_isA_20, ok_4, ok_5, ok_6, ok_7, ok_9, ok_20, ok_21, ok_30, ok_50, ok_180, ok_192, ok_200]
                      exact hp
                    clear hP hc ap al am hu hu2 hu3 hu4 hr54 hr73 z
                    simp only [q141_95, k_0 hS, z_C hS, as_nil, as_i, as_r, Nat.reduceAdd, Nat.reduceLeDiff, z_eq0, z_eq1, z_or, z_em, Classical.not_not, not_false_eq_true, not_true_eq_false, true_and, and_true, false_and, and_false, and_self, true_implies, false_implies, implies_true, Option.toList_some, Option.toList_none, List.cons_append, List.nil_append, Nat.add_eq_zero_iff, a_nl_i, a_nl_r, a_nl_n, true_or, or_true, eq_self, a_isRA_22, a_isRA_24, a_isRA_32, a_isA_20, ok_4, ok_5, ok_6, ok_7, ok_9, ok_20, ok_21, ok_30, ok_50, ok_180, ok_192, ok_200, k_14 hS5, z_14]
                    try simp only [true_and, and_true, true_implies, false_implies, implies_true, not_true_eq_false, not_false_eq_true]
                    first
                      | exact had
                      | grind
                  clear hP hc ap al am hu hu2 hu3 hu4 hr54 hr73
                  simp only [q141_92, k_0 hS, z_C hS, as_nil, as_i, as_r, Nat.reduceAdd, Nat.reduceLeDiff, z_eq0, z_eq1, z_or, z_em, Classical.not_not, not_false_eq_true, not_true_eq_false, true_and, and_true, false_and, and_false, and_self, true_implies, false_implies, implies_true, Option.toList_some, Option.toList_none, List.cons_append, List.nil_append, Nat.add_eq_zero_iff, a_nl_i, a_nl_r, a_nl_n, true_or, or_true, eq_self, a_isRA_22, a_isRA_24, a_isRA_32, a_isA_20, ok_4, ok_5, ok_6, ok_7, ok_9, ok_20, ok_21, ok_30, ok_50, ok_180, ok_192, ok_200, ha, a0]
                  try simp only [true_and, and_true, true_implies, false_implies, implies_true, not_true_eq_false, not_false_eq_true]
                  first
                    | exact hon
                    | grind
                clear hP hc ap al am hu hu2 hu3 hr54 hr73
                simp only [q141_45, q141_55, q141_56, q141_59, q141_62, q141_64, q141_74, q141_75, q141_76, q141_79, q141_80, q141_83, q141_84, q141_85, q141_88, q141_89, k_0 hS2, z_C hS2, r_0_4 hS2, k_14 hS2, z_14, as_nil, as_i, as_r, Nat.reduceAdd, Nat.reduceLeDiff, z_eq0, z_eq1, z_or, z_em, Classical.not_not, not_false_eq_true, not_true_eq_false, true_and, and_true, false_and, and_false, and_self, true_implies, false_implies, implies_true, Option.toList_some, Option.toList_none, List.cons_append, List.nil_append, Nat.add_eq_zero_iff, a_nl_i, a_nl_r, a_nl_n, true_or, or_true, eq_self, a_isRA_22, a_isRA_24, a_isRA_32, a_isA_20, ok_4, ok_5, ok_6, ok_7, ok_9, ok_20, ok_21, ok_30, ok_50, ok_180, ok_192, ok_200, c4, e4J, h30, Int32.not_le.mpr h30, ha, a0]
                try simp only [true_and, and_true, true_implies, false_implies, implies_true, not_true_eq_false, not_false_eq_true]
                first
                  | exact ow2
                  | grind
          rw [lov]
          clear hP hc ap al am hu hr54 hr73
          simp only [q141_34, q141_37, q141_38, q141_41, q141_42, k_0 hS, z_C hS, r_0_4 hS, k_14 hS, z_14, as_nil, as_i, as_r, Nat.reduceAdd, Nat.reduceLeDiff, z_eq0, z_eq1, z_or, z_em, Classical.not_not, not_false_eq_true, not_true_eq_false, true_and, and_true, false_and, and_false, and_self, true_implies, false_implies, implies_true, Option.toList_some, Option.toList_none, List.cons_append, List.nil_append, Nat.add_eq_zero_iff, a_nl_i, a_nl_r, a_nl_n, true_or, or_true, eq_self, a_isRA_22, a_isRA_24, a_isRA_32, a_isA_20, ok_4, ok_5, ok_6, ok_7, ok_9, ok_20, ok_21, ok_30, ok_50, ok_180, ok_192, ok_200, c3]
          try simp only [true_and, and_true, true_implies, false_implies, implies_true, not_true_eq_false, not_false_eq_true]
          first
            | exact how
            | grind
        clear hP hc ap al am hu hr54 hr73
        rw [a_enter1 (M := a_m141) rfl (a_cat_rf (a_cat_int a_cat_nil)) (show 2 ≤ 3 by decide)]
        show a_at _ (a_xm a_m141) 0 [some (a_rf C), some (.int a), none] [] _ _
        simp only [q141_0, q141_1, q141_4, q141_5, q141_8, q141_9, q141_10, q141_13, q141_14, q141_15, q141_18, q141_19, q141_20, q141_23, q141_26, q141_27, q141_30, q141_31, k_0 hS, z_C hS, r_0_4 hS, k_14 hS, z_14, sp_askAt hS gA, as_nil, as_i, as_r, Nat.reduceAdd, Nat.reduceLeDiff, z_eq0, z_eq1, z_or, z_em, Classical.not_not, not_false_eq_true, not_true_eq_false, true_and, and_true, false_and, and_false, and_self, true_implies, false_implies, implies_true, Option.toList_some, Option.toList_none, List.cons_append, List.nil_append, Nat.add_eq_zero_iff, a_nl_i, a_nl_r, a_nl_n, true_or, or_true, eq_self, a_isRA_22, a_isRA_24, a_isRA_32, a_isA_20, ok_4, ok_5, ok_6, ok_7, ok_9, ok_20, ok_21, ok_30, ok_50, ok_180, ok_192, ok_200, hac, ha, a0, e16, c2]
        try simp only [true_and, and_true, true_implies, false_implies, implies_true, not_true_eq_false, not_false_eq_true]
        first
          | exact hlo
          | grind
    · rw [if_pos (Or.inl c2)] at hP
      have hr := hr54 I hH hu (fun J z1 z2 => hP n t K L J R (cH_le z1 (by omega)) z2)
      clear hP hc ap al am hu hr54 hr73
      rw [a_enter1 (M := a_m141) rfl (a_cat_rf (a_cat_int a_cat_nil)) (show 2 ≤ 3 by decide)]
      show a_at _ (a_xm a_m141) 0 [some (a_rf C), some (.int a), none] [] _ _
      simp only [q141_0, q141_1, q141_4, q141_5, q141_8, q141_9, q141_10, q141_13, q141_14, q141_15, q141_18, q141_19, q141_20, q141_23, q141_48, q141_49, q141_51, k_0 hS, z_C hS, r_0_4 hS, k_14 hS, z_14, sp_askAt hS gA, as_nil, as_i, as_r, Nat.reduceAdd, Nat.reduceLeDiff, z_eq0, z_eq1, z_or, z_em, Classical.not_not, not_false_eq_true, not_true_eq_false, true_and, and_true, false_and, and_false, and_self, true_implies, false_implies, implies_true, Option.toList_some, Option.toList_none, List.cons_append, List.nil_append, Nat.add_eq_zero_iff, a_nl_i, a_nl_r, a_nl_n, true_or, or_true, eq_self, a_isRA_22, a_isRA_24, a_isRA_32, a_isA_20, ok_4, ok_5, ok_6, ok_7, ok_9, ok_20, ok_21, ok_30, ok_50, ok_180, ok_192, ok_200, hac, ha, a0, e16, c2]
      try simp only [true_and, and_true, true_implies, false_implies, implies_true, not_true_eq_false, not_false_eq_true]
      first
        | exact hr
        | grind
  · rw [if_pos c1] at hP
    have hac : ¬ (0 ≤ a ∧ a < I (C + 14) 4 ∧ a < 30) := fun q => c1 ⟨q.1, by rw [← e4]; exact q.2.1⟩
    have hr1 : a_does (d + 69) 10 [a_rf C, .int (-1)] (n + 1, t, K, L, I, R) (fun q h' => a_at (d + 69) (a_xm a_m141) 18 [some (a_rf C), some (.int a), some (a_rf 0)] (q.toList ++ []) h' P) := by
      refine ge_refuse (d := d + 68) hH hu (fun J z1 z2 => ?_)
      have hp := hP n t K L J R (cH_le z1 (by omega)) z2
      clear hP hc hu hr54 hr73
      simp only [q141_18, as_nil, as_i, as_r, Nat.reduceAdd, Nat.reduceLeDiff, z_eq0, z_eq1, z_or, z_em, Classical.not_not, not_false_eq_true, not_true_eq_false, true_and, and_true, false_and, and_false, and_self, true_implies, false_implies, implies_true, Option.toList_some, Option.toList_none, List.cons_append, List.nil_append, Nat.add_eq_zero_iff, a_nl_i, a_nl_r, a_nl_n, true_or, or_true, eq_self, a_isRA_22, a_isRA_24, a_isRA_32, a_isA_20, ok_4, ok_5, ok_6, ok_7, ok_9, ok_20, ok_21, ok_30, ok_50, ok_180, ok_192, ok_200]
      exact hp
    clear hP hc hu hr54 hr73
    rw [a_enter1 (M := a_m141) rfl (a_cat_rf (a_cat_int a_cat_nil)) (show 2 ≤ 3 by decide)]
    show a_at _ (a_xm a_m141) 0 [some (a_rf C), some (.int a), none] [] _ _
    simp only [q141_0, q141_1, q141_4, q141_5, q141_8, q141_9, q141_10, q141_13, q141_14, q141_15, k_0 hS, z_C hS, r_0_4 hS, k_14 hS, z_14, sp_askAt hS gA, as_nil, as_i, as_r, Nat.reduceAdd, Nat.reduceLeDiff, z_eq0, z_eq1, z_or, z_em, Classical.not_not, not_false_eq_true, not_true_eq_false, true_and, and_true, false_and, and_false, and_self, true_implies, false_implies, implies_true, Option.toList_some, Option.toList_none, List.cons_append, List.nil_append, Nat.add_eq_zero_iff, a_nl_i, a_nl_r, a_nl_n, true_or, or_true, eq_self, a_isRA_22, a_isRA_24, a_isRA_32, a_isA_20, ok_4, ok_5, ok_6, ok_7, ok_9, ok_20, ok_21, ok_30, ok_50, ok_180, ok_192, ok_200, hac]
    try simp only [true_and, and_true, true_implies, false_implies, implies_true, not_true_eq_false, not_false_eq_true]
    first
      | exact hr1
      | grind
end ZK1
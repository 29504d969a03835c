/-! ask -/
section ZI0
variable {d n t C c : Nat} {K L : Nat → Nat} {I I0 J J0 J1 J2 : Nat → Nat → Int32} {R : Nat → Nat → Nat} {P : Option Value → AH → Prop}
variable {Y Z W : Nat → Nat → Int32} {R' R1 : Nat → Nat → Nat} {K' L' : Nat → Nat}
theorem sp_daysBelow {k x y : Int32} {h : AH} : a_does (d + 1) 39 [.int k, .int x, .int y] h P ↔ P (some (.int (if (k = 1 ∧ y < 0) ∨ (k = 2 ∧ (x < 0 ∨ y < x)) then 1 else 0))) h := by
  rw [a_enter1 (M := a_m39) rfl (a_cat_int (a_cat_int (a_cat_int a_cat_nil))) (show 3 ≤ 3 by decide)]
  show a_at _ (a_xm a_m39) 0 [some (.int k), some (.int x), some (.int y)] [] _ _ ↔ _
  simp only [q39_0, q39_1, q39_2, q39_5, q39_6, q39_9, q39_10, q39_13, q39_14, q39_15, q39_16, q39_17, q39_20, q39_21, q39_24, q39_25, q39_26, q39_29, q39_30, q39_33, q39_34, as_nil, as_i, as_r, Nat.reduceAdd, Nat.reduceLeDiff, z_eq0, z_eq1, z_or, z_em, Classical.not_not, not_false_eq_true, not_true_eq_false, true_and, and_true, false_and, and_false, and_self, true_implies, false_implies, implies_true, Option.toList_some, Option.toList_none, List.cons_append, List.nil_append, Nat.add_eq_zero_iff, a_nl_i, a_nl_r, a_nl_n, true_or, or_true, eq_self, a_isRA_22, a_isRA_24, a_isRA_32, a_isA_20, ok_4, ok_5, ok_6, ok_7, ok_9, ok_20, ok_21, ok_30, ok_50, ok_180, ok_192, ok_200]
  grind
theorem sp_daysAbove {k x y : Int32} {h : AH} : a_does (d + 1) 40 [.int k, .int x, .int y] h P ↔ P (some (.int (if (k = 1 ∧ 30 < y) ∨ (k = 2 ∧ (200 ≤ x ∨ 200 ≤ y)) then 1 else 0))) h := by
  rw [a_enter1 (M := a_m40) rfl (a_cat_int (a_cat_int (a_cat_int a_cat_nil))) (show 3 ≤ 3 by decide)]
  show a_at _ (a_xm a_m40) 0 [some (.int k), some (.int x), some (.int y)] [] _ _ ↔ _
  simp only [q40_0, q40_1, q40_2, q40_5, q40_6, q40_8, q40_11, q40_12, q40_15, q40_16, q40_17, q40_18, q40_19, q40_22, q40_23, q40_26, q40_29, q40_30, q40_33, q40_36, q40_37, q40_40, q40_41, as_nil, as_i, as_r, Nat.reduceAdd, Nat.reduceLeDiff, z_eq0, z_eq1, z_or, z_em, Classical.not_not, not_false_eq_true, not_true_eq_false, true_and, and_true, false_and, and_false, and_self, true_implies, false_implies, implies_true, Option.toList_some, Option.toList_none, List.cons_append, List.nil_append, Nat.add_eq_zero_iff, a_nl_i, a_nl_r, a_nl_n, true_or, or_true, eq_self, a_isRA_22, a_isRA_24, a_isRA_32, a_isA_20, ok_4, ok_5, ok_6, ok_7, ok_9, ok_20, ok_21, ok_30, ok_50, ok_180, ok_192, ok_200]
  grind
theorem ce_addAsk {A : Nat} {m : Int32} (kA : K A = 1) (hH : cH C c n t K L I R) (h4 : I (C + 14) 4 = m) (hm : m < 30) (hP : cH C c n t K L (a_ui (a_ui I A 4 m) (C + 14) 4 (m + 1)) (a_ur R (C + 15) m.toNatClampNeg A) → P (some (.int m)) (n, t, K, L, (a_ui (a_ui I A 4 m) (C + 14) 4 (m + 1)), (a_ur R (C + 15) m.toNatClampNeg A))) : a_does (d + 1) 43 [a_rf (C + 14), a_rf A] (n, t, K, L, I, R) P := by
  have hT := hH.1
  have hS := hT.s
  have a1 := (hT.g_ask A kA).1
  have a0 : (A = 0) = False := eq_false (by omega)
  have g := hT.g_asks
  have hc : ¬ 30 ≤ I (C + 14) 4 := by rw [h4]; exact Int32.not_le.mpr hm
  have h1 := sT_addAsk hT kA hc
  have hC := hT.s.1
  have hc' : I (C + 14) 4 < 30 := Int32.not_le.mp hc
  have g0 : 0 ≤ I (C + 14) 4 := g.1
  have an : (A = C + 14) = False := eq_false (by omega)
  have na : (C + 14 = A) = False := eq_false (by omega)
  have hR := cH_R hH (k := 15) (j := (I (C + 14) 4).toNatClampNeg) (v := A) (by omega) (by omega) (sT_Rasks hT (Or.inr kA) (by omega))
  have hfin := hP (by rw [← h4]; exact cH_J hR h1)
  clear hP hR h1 hH
  subst h4
  rw [a_enter1 (M := a_m43) rfl (a_cat_rf (a_cat_rf a_cat_nil)) (show 2 ≤ 2 by decide)]
  show a_at _ (a_xm a_m43) 0 [some (a_rf (C + 14)), some (a_rf A)] [] _ _
  simp only [q43_0, q43_1, q43_4, q43_6, q43_9, q43_11, q43_12, q43_13, q43_16, q43_17, q43_20, q43_21, q43_22, q43_23, q43_24, q43_27, q43_30, q43_31, q43_32, q43_35, q43_36, q43_37, q43_40, q43_41, q43_44, k_14 hS, z_14, r_14_2 hS, k_15 hS, l_15 hS, z_15, as_nil, as_i, as_r, Nat.reduceAdd, Nat.reduceLeDiff, z_eq0, z_eq1, z_or, z_em, Classical.not_not, not_false_eq_true, not_true_eq_false, true_and, and_true, false_and, and_false, and_self, true_implies, false_implies, implies_true, Option.toList_some, Option.toList_none, List.cons_append, List.nil_append, Nat.add_eq_zero_iff, a_nl_i, a_nl_r, a_nl_n, true_or, or_true, eq_self, a_isRA_22, a_isRA_24, a_isRA_32, a_isA_20, ok_4, ok_5, ok_6, ok_7, ok_9, ok_20, ok_21, ok_30, ok_50, ok_180, ok_192, ok_200, ui_ap, cc_ne, cc_n0, cc_0n, Nat.reduceEqDiff, reduceIte, if_true, if_false, kA, a0, hc', hc, g0, an, na]
  repeat' first
    | with_reducible apply And.intro
    | exact hfin
    | (right; rfl)
    | decide
/-- the words behind an ASK -/
def akW (Y : Nat → Nat → Int32) (k b m g e x y : Int32) : Nat → Nat → Int32 := (upY (upY (upY (upY (upY (upY (upY (upY (upY (upY (upY (upY (upY (upY (upY Y 7 (Y 0 17).toNatClampNeg k) 8 (Y 0 17).toNatClampNeg (Y 0 13)) 9 (Y 0 17).toNatClampNeg (Y 0 14)) 10 (Y 0 17).toNatClampNeg (Y 0 15)) 11 (Y 0 17).toNatClampNeg (Y 0 16)) 20 (Y 0 17).toNatClampNeg (-9)) 21 (Y 0 17).toNatClampNeg (-9)) 0 17 (Y 0 17 + 1)) 12 (Y 0 17).toNatClampNeg b) 13 (Y 0 17).toNatClampNeg m) 14 (Y 0 17).toNatClampNeg g) 15 (Y 0 17).toNatClampNeg e) 16 (Y 0 17).toNatClampNeg x) 17 (Y 0 17).toNatClampNeg y) 0 12 0)
def akY (Y : Nat → Nat → Int32) (k b m g e x y : Int32) : Int32 × (Nat → Nat → Int32) := if Y 0 12 = 0 then (-5, Y) else if ¬ (0 ≤ k ∧ k ≤ 4) then (-2, Y) else if b < 0 ∨ m < 0 ∨ e < 0 ∨ (k = 1 ∧ y < 0) ∨ (k = 2 ∧ (x < 0 ∨ y < x)) then (-4, Y) else if 63 < b ∨ 15 < m ∨ 9 < e ∨ (k = 1 ∧ 30 < y) ∨ (k = 2 ∧ 199 < y) ∨ Y 0 17 = 30 then (-6, Y) else if ¬ (-1 ≤ g ∧ g ≤ 5) ∨ (k = 1 ∧ ¬ (0 ≤ x ∧ x < Y 0 17)) then (-1, Y) else (Y 0 17, akW Y k b m g e x y)
theorem ak_no {k b m g e x y : Int32} {q j : Nat} (h : ¬ ((7 ≤ q ∧ q ≤ 21) ∧ j = (Y 0 17).toNatClampNeg)) (h2 : ¬ (q = 0 ∧ (j = 17 ∨ j = 12))) : akW Y k b m g e x y q j = Y q j := by
  unfold akW
  rw [up_no (by omega), up_no (by omega), up_no (by omega), up_no (by omega), up_no (by omega), up_no (by omega), up_no (by omega), up_no (by omega), up_no (by omega), up_no (by omega), up_no (by omega), up_no (by omega), up_no (by omega), up_no (by omega), up_no (by omega)]
theorem ak_at {k b m g e x y : Int32} : akW Y k b m g e x y 7 (Y 0 17).toNatClampNeg = k ∧ akW Y k b m g e x y 8 (Y 0 17).toNatClampNeg = (Y 0 13) ∧ akW Y k b m g e x y 9 (Y 0 17).toNatClampNeg = (Y 0 14) ∧ akW Y k b m g e x y 10 (Y 0 17).toNatClampNeg = (Y 0 15) ∧ akW Y k b m g e x y 11 (Y 0 17).toNatClampNeg = (Y 0 16) ∧ akW Y k b m g e x y 20 (Y 0 17).toNatClampNeg = (-9) ∧ akW Y k b m g e x y 21 (Y 0 17).toNatClampNeg = (-9) ∧ akW Y k b m g e x y 0 17 = (Y 0 17 + 1) ∧ akW Y k b m g e x y 12 (Y 0 17).toNatClampNeg = b ∧ akW Y k b m g e x y 13 (Y 0 17).toNatClampNeg = m ∧ akW Y k b m g e x y 14 (Y 0 17).toNatClampNeg = g ∧ akW Y k b m g e x y 15 (Y 0 17).toNatClampNeg = e ∧ akW Y k b m g e x y 16 (Y 0 17).toNatClampNeg = x ∧ akW Y k b m g e x y 17 (Y 0 17).toNatClampNeg = y ∧ akW Y k b m g e x y 0 12 = 0 := by
  unfold akW upY
  simp only [Nat.reduceEqDiff, reduceCtorEq, and_self, and_true, true_and, and_false, false_and, if_true, if_false]
theorem ak_18 {k b m g e x y : Int32} : akW Y k b m g e x y 18 (Y 0 17).toNatClampNeg = Y 18 (Y 0 17).toNatClampNeg ∧ akW Y k b m g e x y 19 (Y 0 17).toNatClampNeg = Y 19 (Y 0 17).toNatClampNeg := by
  unfold akW upY
  simp only [Nat.reduceEqDiff, reduceCtorEq, and_self, and_true, true_and, and_false, false_and, if_true, if_false]
theorem cu_askW {m0 : Nat} (hH : cH C c m0 t K L I R) (hu : cuP C K L I R Y) {k b m g e x y : Int32} (c1 : ¬ Y 0 12 = 0) (h30 : Y 0 17 < 30) (h18 : Y 18 (Y 0 17).toNatClampNeg = 0 ∧ Y 19 (Y 0 17).toNatClampNeg = 0) (hk : k = 1 → 0 ≤ x ∧ x < Y 0 17) : cuP C K L (a_ui (a_ui (a_ui (a_ui (a_ui (a_ui (a_ui (a_ui (a_ui I (R C 11) 6 b) (R C 11) 7 m) (R C 11) 8 g) (R C 11) 9 e) (R C 11) 5 k) (R C 11) 10 x) (R C 11) 11 y) (R C 11) 4 (Y 0 17)) (C + 14) 4 (Y 0 17 + 1)) (a_ur (a_ur R C 11 0) (C + 15) (Y 0 17).toNatClampNeg (R C 11)) (akW Y k b m g e x y) := by
  have hT := hH.1
  have h17 := hu.1.2.2.2.2.2.2.2.2.1
  obtain ⟨d1, d2⟩ := hu.2.2.1.2.2.1
  have hd : ¬ (R C 11) = 0 := fun w => c1 (d1.mp w)
  obtain ⟨kD, ⟨e0, e1, e2, e3⟩, ⟨e12, e13, e14, e15, e16⟩, hrow⟩ := d2 hd
  have gk := hT.g_ask _ kD
  have D1 := gk.1
  obtain ⟨b0, b1, b2, b3, b4, b5, b6, b7, b8, b9, b10, b11, b12, b13, b14⟩ := ak_at (Y := Y) (k := k) (b := b) (m := m) (g := g) (e := e) (x := x) (y := y)
  obtain ⟨s18, s19⟩ := ak_18 (Y := Y) (k := k) (b := b) (m := m) (g := g) (e := e) (x := x) (y := y)
  have jD : ∀ j, ¬ (j = 4 ∨ j = 5 ∨ j = 6 ∨ j = 7 ∨ j = 8 ∨ j = 9 ∨ j = 10 ∨ j = 11) → (a_ui (a_ui (a_ui (a_ui (a_ui (a_ui (a_ui (a_ui (a_ui I (R C 11) 6 b) (R C 11) 7 m) (R C 11) 8 g) (R C 11) 9 e) (R C 11) 5 k) (R C 11) 10 x) (R C 11) 11 y) (R C 11) 4 (Y 0 17)) (C + 14) 4 (Y 0 17 + 1)) (R C 11) j = I (R C 11) j := fun j hj => by rw [ui_ap, if_neg (by omega), ui_ap, if_neg (by omega), ui_ap, if_neg (by omega), ui_ap, if_neg (by omega), ui_ap, if_neg (by omega), ui_ap, if_neg (by omega), ui_ap, if_neg (by omega), ui_ap, if_neg (by omega), ui_ap, if_neg (by omega)]
  have jv : (a_ui (a_ui (a_ui (a_ui (a_ui (a_ui (a_ui (a_ui (a_ui I (R C 11) 6 b) (R C 11) 7 m) (R C 11) 8 g) (R C 11) 9 e) (R C 11) 5 k) (R C 11) 10 x) (R C 11) 11 y) (R C 11) 4 (Y 0 17)) (C + 14) 4 (Y 0 17 + 1)) (R C 11) 6 = b ∧ (a_ui (a_ui (a_ui (a_ui (a_ui (a_ui (a_ui (a_ui (a_ui I (R C 11) 6 b) (R C 11) 7 m) (R C 11) 8 g) (R C 11) 9 e) (R C 11) 5 k) (R C 11) 10 x) (R C 11) 11 y) (R C 11) 4 (Y 0 17)) (C + 14) 4 (Y 0 17 + 1)) (R C 11) 7 = m ∧ (a_ui (a_ui (a_ui (a_ui (a_ui (a_ui (a_ui (a_ui (a_ui I (R C 11) 6 b) (R C 11) 7 m) (R C 11) 8 g) (R C 11) 9 e) (R C 11) 5 k) (R C 11) 10 x) (R C 11) 11 y) (R C 11) 4 (Y 0 17)) (C + 14) 4 (Y 0 17 + 1)) (R C 11) 8 = g ∧ (a_ui (a_ui (a_ui (a_ui (a_ui (a_ui (a_ui (a_ui (a_ui I (R C 11) 6 b) (R C 11) 7 m) (R C 11) 8 g) (R C 11) 9 e) (R C 11) 5 k) (R C 11) 10 x) (R C 11) 11 y) (R C 11) 4 (Y 0 17)) (C + 14) 4 (Y 0 17 + 1)) (R C 11) 9 = e ∧ (a_ui (a_ui (a_ui (a_ui (a_ui (a_ui (a_ui (a_ui (a_ui I (R C 11) 6 b) (R C 11) 7 m) (R C 11) 8 g) (R C 11) 9 e) (R C 11) 5 k) (R C 11) 10 x) (R C 11) 11 y) (R C 11) 4 (Y 0 17)) (C + 14) 4 (Y 0 17 + 1)) (R C 11) 5 = k ∧ (a_ui (a_ui (a_ui (a_ui (a_ui (a_ui (a_ui (a_ui (a_ui I (R C 11) 6 b) (R C 11) 7 m) (R C 11) 8 g) (R C 11) 9 e) (R C 11) 5 k) (R C 11) 10 x) (R C 11) 11 y) (R C 11) 4 (Y 0 17)) (C + 14) 4 (Y 0 17 + 1)) (R C 11) 10 = x ∧ (a_ui (a_ui (a_ui (a_ui (a_ui (a_ui (a_ui (a_ui (a_ui I (R C 11) 6 b) (R C 11) 7 m) (R C 11) 8 g) (R C 11) 9 e) (R C 11) 5 k) (R C 11) 10 x) (R C 11) 11 y) (R C 11) 4 (Y 0 17)) (C + 14) 4 (Y 0 17 + 1)) (R C 11) 11 = y ∧ (a_ui (a_ui (a_ui (a_ui (a_ui (a_ui (a_ui (a_ui (a_ui I (R C 11) 6 b) (R C 11) 7 m) (R C 11) 8 g) (R C 11) 9 e) (R C 11) 5 k) (R C 11) 10 x) (R C 11) 11 y) (R C 11) 4 (Y 0 17)) (C + 14) 4 (Y 0 17 + 1)) (R C 11) 4 = Y 0 17 := by
    have na : ((R C 11) = C + 14) = False := eq_false (by omega)
    simp only [ui_ap, na, Nat.reduceEqDiff, reduceCtorEq, and_self, and_true, true_and, and_false, false_and, if_true, if_false]
  obtain ⟨v6, v7, v8, v9, v5, v10, v11, v4⟩ := jv
  refine cu_more hT hu ⟨h17.1, h30⟩ kD hrow (fun z j h1 h2 => by rw [ui_ap, if_neg (by omega), ui_ap, if_neg (by omega), ui_ap, if_neg (by omega), ui_ap, if_neg (by omega), ui_ap, if_neg (by omega), ui_ap, if_neg (by omega), ui_ap, if_neg (by omega), ui_ap, if_neg (by omega), ui_ap, if_neg (by omega)]) (by rw [ui_ap, if_pos ⟨rfl, rfl⟩]) (fun z j h1 h2 => by rw [ur_ap, if_neg h1, ur_ap, if_neg h2]) (by rw [ur_ap, if_pos ⟨rfl, rfl⟩]) (fun q j h1 h2 => ak_no h1 h2) b7 v4 (by rw [jD 12 (by omega)]; exact e12) ?_ ⟨b5, b6⟩ (by rw [b3, ← e2]; exact gk.2.1) (fun w => by rw [b12]; exact hk (by rw [← b0]; exact w)) ?_
  · unfold alP
    rw [jD 0 (by omega), jD 1 (by omega), jD 2 (by omega), jD 3 (by omega), jD 13 (by omega), jD 14 (by omega), jD 15 (by omega), jD 16 (by omega), v5, v6, v7, v8, v9, v10, v11, b0, b1, b2, b3, b4, b5, b6, b8, b9, b10, b11, b12, b13, s18, s19, h18.1, h18.2, e0, e1, e2, e3, e13, e14, e15, e16]
    exact ⟨⟨rfl, rfl, rfl, rfl, rfl⟩, ⟨rfl, rfl, rfl, rfl⟩, fun _ => ⟨rfl, rfl⟩, ⟨rfl, rfl⟩, ⟨fun _ => rfl, fun _ => rfl⟩, ⟨fun _ => rfl, fun _ => rfl⟩⟩
  · have r0 : (a_ur (a_ur R C 11 0) (C + 15) (Y 0 17).toNatClampNeg (R C 11)) C 11 = 0 := by rw [ur_ap, if_neg (by omega), ur_ap, if_pos ⟨rfl, rfl⟩]
    unfold siD
    rw [r0, b14]
    exact ⟨⟨fun _ => rfl, fun _ => rfl⟩, fun w => absurd rfl w⟩
theorem ge_ask (hH : cH C c (n + 1) t K L I R) (hu : cuP C K L I R Y) (hnw : ∀ a : Nat, a < 30 → (Y 0 17).toNatClampNeg ≤ a → Y 18 a = 0 ∧ Y 19 a = 0) {k b m g e x y : Int32} (hP : ∀ n' t' K' L' J R', cH C c (n' + 1) t' K' L' J R' → cuP C K' L' J R' (akY Y k b m g e x y).2 → P (some (.int (akY Y k b m g e x y).1)) (n' + 1, t', K', L', J, R')) : a_does (d + 70) 38 [a_rf C, .int k, .int b, .int m, .int g, .int e, .int x, .int y] (n + 1, t, K, L, I, R) P := by
  have hT := hH.1
  have hS := hT.s
  have gA := hT.g_asksR
  have gB := hT.g_benchesR
  have gX := hT.g_textsR
  have hc := hu.1
  have h17 := hc.2.2.2.2.2.2.2.2.1
  have e4 : I (C + 14) 4 = Y 0 17 := hc.2.2.1.1
  unfold akY at hP
  obtain ⟨d1, d2⟩ := hu.2.2.1.2.2.1
  have hr13 : (∀ J, cH C c (n + 1) t K L J R → cuP C K L J R Y → P (some (.int (-5))) (n + 1, t, K, L, J, R)) → a_does (d + 69) 10 [a_rf C, .int (-5)] (n + 1, t, K, L, I, R) (fun q h' => a_at (d + 69) (a_xm a_m38) 13 [some (a_rf C), some (.int k), some (.int b), some (.int m), some (.int g), some (.int e), some (.int x), some (.int y), none] (q.toList ++ []) h' P) := fun hq => by
    refine ge_refuse (d := d + 68) hH hu (fun J z1 z2 => ?_)
    have hp := hq J z1 z2
    clear hq hP hc hu
    simp only [q38_13, as_nil, as_i, as_r, Nat.reduceAdd, Nat.reduceLeDiff, z_eq0, z_eq1, z_or, z_em, Classical.not_not, not_false_eq_true, not_true_eq_false, true_and, and_true, false_and, and_false, and_self, true_implies, false_implies, implies_true, Option.toList_some, Option.toList_none, List.cons_append, List.nil_append, Nat.add_eq_zero_iff, a_nl_i, a_nl_r, a_nl_n, true_or, or_true, eq_self, a_isRA_22, a_isRA_24, a_isRA_32, a_isA_20, ok_4, ok_5, ok_6, ok_7, ok_9, ok_20, ok_21, ok_30, ok_50, ok_180, ok_192, ok_200]
    exact hp
  have hr29 : (∀ J, cH C c (n + 1) t K L J R → cuP C K L J R Y → P (some (.int (-2))) (n + 1, t, K, L, J, R)) → a_does (d + 69) 10 [a_rf C, .int (-2)] (n + 1, t, K, L, I, R) (fun q h' => a_at (d + 69) (a_xm a_m38) 29 [some (a_rf C), some (.int k), some (.int b), some (.int m), some (.int g), some (.int e), some (.int x), some (.int y), none] (q.toList ++ []) h' P) := fun hq => by
    refine ge_refuse (d := d + 68) hH hu (fun J z1 z2 => ?_)
    have hp := hq J z1 z2
    clear hq hP hc hu
    simp only [q38_29, as_nil, as_i, as_r, Nat.reduceAdd, Nat.reduceLeDiff, z_eq0, z_eq1, z_or, z_em, Classical.not_not, not_false_eq_true, not_true_eq_false, true_and, and_true, false_and, and_false, and_self, true_implies, false_implies, implies_true, Option.toList_some, Option.toList_none, List.cons_append, List.nil_append, Nat.add_eq_zero_iff, a_nl_i, a_nl_r, a_nl_n, true_or, or_true, eq_self, a_isRA_22, a_isRA_24, a_isRA_32, a_isA_20, ok_4, ok_5, ok_6, ok_7, ok_9, ok_20, ok_21, ok_30, ok_50, ok_180, ok_192, ok_200]
    exact hp
  have hr60 : (∀ J, cH C c (n + 1) t K L J R → cuP C K L J R Y → P (some (.int (-4))) (n + 1, t, K, L, J, R)) → a_does (d + 69) 10 [a_rf C, .int (-4)] (n + 1, t, K, L, I, R) (fun q h' => a_at (d + 69) (a_xm a_m38) 60 [some (a_rf C), some (.int k), some (.int b), some (.int m), some (.int g), some (.int e), some (.int x), some (.int y), none] (q.toList ++ []) h' P) := fun hq => by
    refine ge_refuse (d := d + 68) hH hu (fun J z1 z2 => ?_)
    have hp := hq J z1 z2
    clear hq hP hc hu
    simp only [q38_60, as_nil, as_i, as_r, Nat.reduceAdd, Nat.reduceLeDiff, z_eq0, z_eq1, z_or, z_em, Classical.not_not, not_false_eq_true, not_true_eq_false, true_and, and_true, false_and, and_false, and_self, true_implies, false_implies, implies_true, Option.toList_some, Option.toList_none, List.cons_append, List.nil_append, Nat.add_eq_zero_iff, a_nl_i, a_nl_r, a_nl_n, true_or, or_true, eq_self, a_isRA_22, a_isRA_24, a_isRA_32, a_isA_20, ok_4, ok_5, ok_6, ok_7, ok_9, ok_20, ok_21, ok_30, ok_50, ok_180, ok_192, ok_200]
    exact hp
  have hr109 : (∀ J, cH C c (n + 1) t K L J R → cuP C K L J R Y → P (some (.int (-6))) (n + 1, t, K, L, J, R)) → a_does (d + 69) 10 [a_rf C, .int (-6)] (n + 1, t, K, L, I, R) (fun q h' => a_at (d + 69) (a_xm a_m38) 109 [some (a_rf C), some (.int k), some (.int b), some (.int m), some (.int g), some (.int e), some (.int x), some (.int y), none] (q.toList ++ []) h' P) := fun hq => by
    refine ge_refuse (d := d + 68) hH hu (fun J z1 z2 => ?_)
    have hp := hq J z1 z2
    clear hq hP hc hu
    simp only [q38_109, as_nil, as_i, as_r, Nat.reduceAdd, Nat.reduceLeDiff, z_eq0, z_eq1, z_or, z_em, Classical.not_not, not_false_eq_true, not_true_eq_false, true_and, and_true, false_and, and_false, and_self, true_implies, false_implies, implies_true, Option.toList_some, Option.toList_none, List.cons_append, List.nil_append, Nat.add_eq_zero_iff, a_nl_i, a_nl_r, a_nl_n, true_or, or_true, eq_self, a_isRA_22, a_isRA_24, a_isRA_32, a_isA_20, ok_4, ok_5, ok_6, ok_7, ok_9, ok_20, ok_21, ok_30, ok_50, ok_180, ok_192, ok_200]
    exact hp
  have hr128 : (∀ J, cH C c (n + 1) t K L J R → cuP C K L J R Y → P (some (.int (-1))) (n + 1, t, K, L, J, R)) → a_does (d + 69) 10 [a_rf C, .int (-1)] (n + 1, t, K, L, I, R) (fun q h' => a_at (d + 69) (a_xm a_m38) 128 [some (a_rf C), some (.int k), some (.int b), some (.int m), some (.int g), some (.int e), some (.int x), some (.int y), none] (q.toList ++ []) h' P) := fun hq => by
    refine ge_refuse (d := d + 68) hH hu (fun J z1 z2 => ?_)
    have hp := hq J z1 z2
    clear hq hP hc hu
    simp only [q38_128, as_nil, as_i, as_r, Nat.reduceAdd, Nat.reduceLeDiff, z_eq0, z_eq1, z_or, z_em, Classical.not_not, not_false_eq_true, not_true_eq_false, true_and, and_true, false_and, and_false, and_self, true_implies, false_implies, implies_true, Option.toList_some, Option.toList_none, List.cons_append, List.nil_append, Nat.add_eq_zero_iff, a_nl_i, a_nl_r, a_nl_n, true_or, or_true, eq_self, a_isRA_22, a_isRA_24, a_isRA_32, a_isA_20, ok_4, ok_5, ok_6, ok_7, ok_9, ok_20, ok_21, ok_30, ok_50, ok_180, ok_192, ok_200]
    exact hp
  have hr151 : (∀ J, cH C c (n + 1) t K L J R → cuP C K L J R Y → P (some (.int (-1))) (n + 1, t, K, L, J, R)) → a_does (d + 69) 10 [a_rf C, .int (-1)] (n + 1, t, K, L, I, R) (fun q h' => a_at (d + 69) (a_xm a_m38) 151 [some (a_rf C), some (.int k), some (.int b), some (.int m), some (.int g), some (.int e), some (.int x), some (.int y), none] (q.toList ++ []) h' P) := fun hq => by
    refine ge_refuse (d := d + 68) hH hu (fun J z1 z2 => ?_)
    have hp := hq J z1 z2
    clear hq hP hc hu
    simp only [q38_151, as_nil, as_i, as_r, Nat.reduceAdd, Nat.reduceLeDiff, z_eq0, z_eq1, z_or, z_em, Classical.not_not, not_false_eq_true, not_true_eq_false, true_and, and_true, false_and, and_false, and_self, true_implies, false_implies, implies_true, Option.toList_some, Option.toList_none, List.cons_append, List.nil_append, Nat.add_eq_zero_iff, a_nl_i, a_nl_r, a_nl_n, true_or, or_true, eq_self, a_isRA_22, a_isRA_24, a_isRA_32, a_isA_20, ok_4, ok_5, ok_6, ok_7, ok_9, ok_20, ok_21, ok_30, ok_50, ok_180, ok_192, ok_200]
    exact hp
  by_cases c1 : Y 0 12 = 0
  · rw [if_pos c1] at hP
    have hr := hr13 (fun J z1 z2 => hP n t K L J R z1 z2)
    have d0 := d1.mpr c1
    clear hP hc hu hr13 hr29 hr60 hr109 hr128 hr151
    rw [a_enter1 (M := a_m38) rfl (a_cat_rf (a_cat_int (a_cat_int (a_cat_int (a_cat_int (a_cat_int (a_cat_int (a_cat_int a_cat_nil)))))))) (show 8 ≤ 9 by decide)]
    show a_at _ (a_xm a_m38) 0 [some (a_rf C), some (.int k), some (.int b), some (.int m), some (.int g), some (.int e), some (.int x), some (.int y), none] [] _ _
    simp only [q38_0, q38_1, q38_4, q38_7, q38_8, q38_10, k_0 hS, z_C hS, as_nil, as_i, as_r, Nat.reduceAdd, Nat.reduceLeDiff, z_eq0, z_eq1, z_or, z_em, Classical.not_not, not_false_eq_true, not_true_eq_false, true_and, and_true, false_and, and_false, and_self, true_implies, false_implies, implies_true, Option.toList_some, Option.toList_none, List.cons_append, List.nil_append, Nat.add_eq_zero_iff, a_nl_i, a_nl_r, a_nl_n, true_or, or_true, eq_self, a_isRA_22, a_isRA_24, a_isRA_32, a_isA_20, ok_4, ok_5, ok_6, ok_7, ok_9, ok_20, ok_21, ok_30, ok_50, ok_180, ok_192, ok_200, d0]
    try simp only [true_and, and_true, true_implies, false_implies, implies_true, not_true_eq_false, not_false_eq_true]
    first
      | exact hr
      | grind
  · rw [if_neg c1] at hP
    have hd : ¬ (R C 11) = 0 := fun w => c1 (d1.mp w)
    obtain ⟨kD, -⟩ := d2 hd
    have gD := (hT.g_ask _ kD).1
    have d0 : ((R C 11) = 0) = False := eq_false hd
    by_cases c2 : 0 ≤ k ∧ k ≤ 4
    · rw [if_neg (fun q => q c2)] at hP
      have k0 : ¬ k < 0 := Int32.not_lt.mpr c2.1
      by_cases c3 : b < 0 ∨ m < 0 ∨ e < 0 ∨ (k = 1 ∧ y < 0) ∨ (k = 2 ∧ (x < 0 ∨ y < x))
      · rw [if_pos c3] at hP
        have hr := hr60 (fun J z1 z2 => hP n t K L J R z1 z2)
        have n10 : ¬ (1 : Int32) = 0 := by decide
        clear hP hc hu hr13 hr29 hr60 hr109 hr128 hr151
        rw [a_enter1 (M := a_m38) rfl (a_cat_rf (a_cat_int (a_cat_int (a_cat_int (a_cat_int (a_cat_int (a_cat_int (a_cat_int a_cat_nil)))))))) (show 8 ≤ 9 by decide)]
        show a_at _ (a_xm a_m38) 0 [some (a_rf C), some (.int k), some (.int b), some (.int m), some (.int g), some (.int e), some (.int x), some (.int y), none] [] _ _
        simp only [q38_0, q38_1, q38_4, q38_14, q38_15, q38_18, q38_19, q38_20, q38_30, q38_31, q38_34, q38_35, q38_38, q38_40, q38_43, q38_44, q38_46, q38_48, q38_51, q38_54, q38_55, q38_57, k_0 hS, z_C hS, as_nil, as_i, as_r, Nat.reduceAdd, Nat.reduceLeDiff, z_eq0, z_eq1, z_or, z_em, Classical.not_not, not_false_eq_true, not_true_eq_false, true_and, and_true, false_and, and_false, and_self, true_implies, false_implies, implies_true, Option.toList_some, Option.toList_none, List.cons_append, List.nil_append, Nat.add_eq_zero_iff, a_nl_i, a_nl_r, a_nl_n, true_or, or_true, eq_self, a_isRA_22, a_isRA_24, a_isRA_32, a_isA_20, ok_4, ok_5, ok_6, ok_7, ok_9, ok_20, ok_21, ok_30, ok_50, ok_180, ok_192, ok_200, sp_daysBelow, d0, k0, c2]
        try simp only [true_and, and_true, true_implies, false_implies, implies_true, not_true_eq_false, not_false_eq_true]
        grind
      · rw [if_neg c3] at hP
        have b0 : ¬ b < 0 := fun w => c3 (Or.inl w)
        have m0 : ¬ m < 0 := fun w => c3 (Or.inr (Or.inl w))
        have e0 : ¬ e < 0 := fun w => c3 (Or.inr (Or.inr (Or.inl w)))
        have dB : ((k = 1 ∧ y < 0) ∨ (k = 2 ∧ (x < 0 ∨ y < x))) = False := eq_false (fun w => c3 (Or.inr (Or.inr (Or.inr w))))
        have b0' := Int32.not_lt.mp b0
        have m0' := Int32.not_lt.mp m0
        have e0' := Int32.not_lt.mp e0
        by_cases c4 : 63 < b ∨ 15 < m ∨ 9 < e ∨ (k = 1 ∧ 30 < y) ∨ (k = 2 ∧ 199 < y) ∨ Y 0 17 = 30
        · rw [if_pos c4] at hP
          have hr := hr109 (fun J z1 z2 => hP n t K L J R z1 z2)
          have n10 : ¬ (1 : Int32) = 0 := by decide
          have c4' : 63 < b ∨ 15 < m ∨ 9 < e ∨ ((k = 1 ∧ 30 < y) ∨ (k = 2 ∧ (200 ≤ x ∨ 200 ≤ y))) ∨ ¬ Y 0 17 < 30 := by clear hP hc hu hr13 hr29 hr60 hr109 hr128 hr151; grind
          clear hP hc hu hr13 hr29 hr60 hr109 hr128 hr151 c3 c4
          rw [a_enter1 (M := a_m38) rfl (a_cat_rf (a_cat_int (a_cat_int (a_cat_int (a_cat_int (a_cat_int (a_cat_int (a_cat_int a_cat_nil)))))))) (show 8 ≤ 9 by decide)]
          show a_at _ (a_xm a_m38) 0 [some (a_rf C), some (.int k), some (.int b), some (.int m), some (.int g), some (.int e), some (.int x), some (.int y), none] [] _ _
          simp only [q38_0, q38_1, q38_4, q38_14, q38_15, q38_18, q38_19, q38_20, q38_30, q38_31, q38_34, q38_35, q38_38, q38_40, q38_43, q38_44, q38_46, q38_48, q38_51, q38_61, q38_62, q38_64, q38_67, q38_68, q38_70, q38_73, q38_75, q38_77, q38_80, q38_81, q38_83, q38_85, q38_88, q38_91, q38_92, q38_95, q38_98, q38_100, q38_103, q38_104, q38_106, k_0 hS, z_C hS, r_0_4 hS, k_14 hS, z_14, as_nil, as_i, as_r, Nat.reduceAdd, Nat.reduceLeDiff, z_eq0, z_eq1, z_or, z_em, Classical.not_not, not_false_eq_true, not_true_eq_false, true_and, and_true, false_and, and_false, and_self, true_implies, false_implies, implies_true, Option.toList_some, Option.toList_none, List.cons_append, List.nil_append, Nat.add_eq_zero_iff, a_nl_i, a_nl_r, a_nl_n, true_or, or_true, eq_self, a_isRA_22, a_isRA_24, a_isRA_32, a_isA_20, ok_4, ok_5, ok_6, ok_7, ok_9, ok_20, ok_21, ok_30, ok_50, ok_180, ok_192, ok_200, sp_daysBelow, sp_daysAbove, d0, k0, c2, b0, m0, e0, b0', m0', e0', dB, e4]
          try simp only [true_and, and_true, true_implies, false_implies, implies_true, not_true_eq_false, not_false_eq_true]
          generalize ((k = 1 ∧ 30 < y) ∨ (k = 2 ∧ (200 ≤ x ∨ 200 ≤ y))) = q at c4' ⊢
          grind
        · rw [if_neg c4] at hP
          have b1 : ¬ 63 < b := fun w => c4 (Or.inl w)
          have m1 : ¬ 15 < m := fun w => c4 (Or.inr (Or.inl w))
          have e1 : ¬ 9 < e := fun w => c4 (Or.inr (Or.inr (Or.inl w)))
          have dA : ((k = 1 ∧ 30 < y) ∨ (k = 2 ∧ (200 ≤ x ∨ 200 ≤ y))) = False := eq_false (fun w => by clear hP hc hu hr13 hr29 hr60 hr109 hr128 hr151; grind)
          have h30 : Y 0 17 < 30 := by clear hP hc hu hr13 hr29 hr60 hr109 hr128 hr151; grind
          have b1' := Int32.not_lt.mp b1
          have m1' := Int32.not_lt.mp m1
          have e1' := Int32.not_lt.mp e1
          by_cases c5 : ¬ (-1 ≤ g ∧ g ≤ 5) ∨ (k = 1 ∧ ¬ (0 ≤ x ∧ x < Y 0 17))
          · rw [if_pos c5] at hP
            have hr := hr128 (fun J z1 z2 => hP n t K L J R z1 z2)
            have hr' := hr151 (fun J z1 z2 => hP n t K L J R z1 z2)
            have hx : (0 ≤ x ∧ x < I (C + 14) 4 ∧ x < 30) ↔ (0 ≤ x ∧ x < Y 0 17) := by
              rw [e4]
              exact ⟨fun q => ⟨q.1, q.2.1⟩, fun q => ⟨q.1, q.2, Int32.lt_of_lt_of_le q.2 h17.2⟩⟩
            clear hP hc hu hr13 hr29 hr60 hr109 hr128 hr151 c3 c4
            rw [a_enter1 (M := a_m38) rfl (a_cat_rf (a_cat_int (a_cat_int (a_cat_int (a_cat_int (a_cat_int (a_cat_int (a_cat_int a_cat_nil)))))))) (show 8 ≤ 9 by decide)]
            show a_at _ (a_xm a_m38) 0 [some (a_rf C), some (.int k), some (.int b), some (.int m), some (.int g), some (.int e), some (.int x), some (.int y), none] [] _ _
            simp only [q38_0, q38_1, q38_4, q38_14, q38_15, q38_18, q38_19, q38_20, q38_30, q38_31, q38_34, q38_35, q38_38, q38_40, q38_43, q38_44, q38_46, q38_48, q38_51, q38_61, q38_62, q38_64, q38_67, q38_68, q38_70, q38_73, q38_75, q38_77, q38_80, q38_81, q38_83, q38_85, q38_88, q38_91, q38_92, q38_95, q38_98, q38_100, q38_110, q38_112, q38_113, q38_116, q38_118, q38_120, q38_123, q38_124, q38_125, q38_128, q38_129, q38_130, q38_131, q38_134, q38_135, q38_138, q38_140, q38_143, q38_146, q38_147, q38_148, k_0 hS, z_C hS, r_0_4 hS, k_14 hS, z_14, sp_askAt hS gA, as_nil, as_i, as_r, Nat.reduceAdd, Nat.reduceLeDiff, z_eq0, z_eq1, z_or, z_em, Classical.not_not, not_false_eq_true, not_true_eq_false, true_and, and_true, false_and, and_false, and_self, true_implies, false_implies, implies_true, Option.toList_some, Option.toList_none, List.cons_append, List.nil_append, Nat.add_eq_zero_iff, a_nl_i, a_nl_r, a_nl_n, true_or, or_true, eq_self, a_isRA_22, a_isRA_24, a_isRA_32, a_isA_20, ok_4, ok_5, ok_6, ok_7, ok_9, ok_20, ok_21, ok_30, ok_50, ok_180, ok_192, ok_200, sp_daysBelow, sp_daysAbove, d0, k0, c2, b0, m0, e0, b0', m0', e0', dB, e4, b1, m1, e1, b1', m1', e1', dA, h30]
            try simp only [true_and, and_true, true_implies, false_implies, implies_true, not_true_eq_false, not_false_eq_true]
            clear dB dA
            rw [e4] at hx
            grind
          · rw [if_neg c5] at hP
            have g0 : ¬ g < -1 ∧ g < 6 := by clear hP hc hu hr13 hr29 hr60 hr109 hr128 hr151; grind
            have g1 : -1 ≤ g := Int32.not_lt.mp g0.1
            have hk : k = 1 → 0 ≤ x ∧ x < Y 0 17 := fun w => Classical.byContradiction (fun z => c5 (Or.inr ⟨w, z⟩))
            have hx : k = 1 → (0 ≤ x ∧ x < Y 0 17 ∧ x < 30) ∧ ¬ R (C + 15) x.toNatClampNeg = 0 := fun w => ⟨⟨(hk w).1, (hk w).2, Int32.lt_of_lt_of_le (hk w).2 h17.2⟩, (aa_of hc (hk w).1 (hk w).2).2.1.2.1⟩
            have hT7 : cT C K L (a_ui (a_ui (a_ui (a_ui (a_ui (a_ui (a_ui I (R C 11) 6 b) (R C 11) 7 m) (R C 11) 8 g) (R C 11) 9 e) (R C 11) 5 k) (R C 11) 10 x) (R C 11) 11 y) R := sT_askf (sT_askf (sT_askf (sT_askf (sT_askf (sT_askf (sT_askf hT gD kD (by decide)) gD kD (by decide)) gD kD (by decide)) gD kD (by decide)) gD kD (by decide)) gD kD (by decide)) gD kD (by decide)
            have z1 := (cZ_Rd (cZ_refl (cH_J hH hT7)) (v := 0) (Or.inl rfl)).2.1
            have hadd : a_does (d + 69) 43 [a_rf (C + 14), a_rf (R C 11)] (n + 1, t, K, L, (a_ui (a_ui (a_ui (a_ui (a_ui (a_ui (a_ui I (R C 11) 6 b) (R C 11) 7 m) (R C 11) 8 g) (R C 11) 9 e) (R C 11) 5 k) (R C 11) 10 x) (R C 11) 11 y), a_ur R C 11 0) (fun q h' => a_at (d + 69) (a_xm a_m38) 193 [some (a_rf C), some (.int k), some (.int b), some (.int m), some (.int g), some (.int e), some (.int x), some (.int y), some (a_rf (R C 11))] (q.toList ++ []) h' P) := by
              refine ce_addAsk (d := d + 68) (m := Y 0 17) kD z1 (by rw [ui_ap, if_neg (by omega), ui_ap, if_neg (by omega), ui_ap, if_neg (by omega), ui_ap, if_neg (by omega), ui_ap, if_neg (by omega), ui_ap, if_neg (by omega), ui_ap, if_neg (by omega)]; exact e4) h30 (fun hH9 => ?_)
              have hp := hP n t K L _ _ hH9 (cu_askW hH hu c1 h30 (hnw _ (a_lt30 ⟨h17.1, h30⟩) (Nat.le_refl _)) hk)
              clear hP hc hu hr13 hr29 hr60 hr109 hr128 hr151 hH9
              simp only [q38_193, as_nil, as_i, as_r, Nat.reduceAdd, Nat.reduceLeDiff, z_eq0, z_eq1, z_or, z_em, Classical.not_not, not_false_eq_true, not_true_eq_false, true_and, and_true, false_and, and_false, and_self, true_implies, false_implies, implies_true, Option.toList_some, Option.toList_none, List.cons_append, List.nil_append, Nat.add_eq_zero_iff, a_nl_i, a_nl_r, a_nl_n, true_or, or_true, eq_self, a_isRA_22, a_isRA_24, a_isRA_32, a_isA_20, ok_4, ok_5, ok_6, ok_7, ok_9, ok_20, ok_21, ok_30, ok_50, ok_180, ok_192, ok_200]
              exact hp
            clear hP hc hu hr13 hr29 hr60 hr109 hr128 hr151 c3 c4 c5 hT7 z1
            have h152 : a_at (d + 69) (a_xm a_m38) 152 [some (a_rf C), some (.int k), some (.int b), some (.int m), some (.int g), some (.int e), some (.int x), some (.int y), none] [] (n + 1, t, K, L, I, R) P := by
              simp only [q38_152, q38_153, q38_156, q38_158, q38_160, q38_161, q38_162, q38_164, q38_166, k_0 hS, z_C hS, as_nil, as_i, as_r, Nat.reduceAdd, Nat.reduceLeDiff, z_eq0, z_eq1, z_or, z_em, Classical.not_not, not_false_eq_true, not_true_eq_false, true_and, and_true, false_and, and_false, and_self, true_implies, false_implies, implies_true, Option.toList_some, Option.toList_none, List.cons_append, List.nil_append, Nat.add_eq_zero_iff, a_nl_i, a_nl_r, a_nl_n, true_or, or_true, eq_self, a_isRA_22, a_isRA_24, a_isRA_32, a_isA_20, ok_4, ok_5, ok_6, ok_7, ok_9, ok_20, ok_21, ok_30, ok_50, ok_180, ok_192, ok_200, kD, d0]
              try simp only [true_and, and_true, true_implies, false_implies, implies_true, not_true_eq_false, not_false_eq_true]
              rw [a_enter1 (M := a_m41) rfl (a_cat_rf (a_cat_int (a_cat_int (a_cat_int (a_cat_int a_cat_nil))))) (show 5 ≤ 5 by decide)]
              show a_at _ (a_xm a_m41) 0 [some (a_rf (R C 11)), some (.int b), some (.int m), some (.int g), some (.int e)] [] _ _
              simp only [q41_0, q41_1, q41_2, q41_5, q41_6, q41_7, q41_10, q41_11, q41_12, q41_15, q41_16, q41_18, q41_21, as_nil, as_i, as_r, Nat.reduceAdd, Nat.reduceLeDiff, z_eq0, z_eq1, z_or, z_em, Classical.not_not, not_false_eq_true, not_true_eq_false, true_and, and_true, false_and, and_false, and_self, true_implies, false_implies, implies_true, Option.toList_some, Option.toList_none, List.cons_append, List.nil_append, Nat.add_eq_zero_iff, a_nl_i, a_nl_r, a_nl_n, true_or, or_true, eq_self, a_isRA_22, a_isRA_24, a_isRA_32, a_isA_20, ok_4, ok_5, ok_6, ok_7, ok_9, ok_20, ok_21, ok_30, ok_50, ok_180, ok_192, ok_200, kD, d0]
              try simp only [true_and, and_true, true_implies, false_implies, implies_true, not_true_eq_false, not_false_eq_true]
              simp only [q38_169, q38_171, q38_172, q38_174, q38_176, k_0 hS, z_C hS, as_nil, as_i, as_r, Nat.reduceAdd, Nat.reduceLeDiff, z_eq0, z_eq1, z_or, z_em, Classical.not_not, not_false_eq_true, not_true_eq_false, true_and, and_true, false_and, and_false, and_self, true_implies, false_implies, implies_true, Option.toList_some, Option.toList_none, List.cons_append, List.nil_append, Nat.add_eq_zero_iff, a_nl_i, a_nl_r, a_nl_n, true_or, or_true, eq_self, a_isRA_22, a_isRA_24, a_isRA_32, a_isA_20, ok_4, ok_5, ok_6, ok_7, ok_9, ok_20, ok_21, ok_30, ok_50, ok_180, ok_192, ok_200, kD, d0]
              try simp only [true_and, and_true, true_implies, false_implies, implies_true, not_true_eq_false, not_false_eq_true]
              rw [a_enter1 (M := a_m42) rfl (a_cat_rf (a_cat_int (a_cat_int (a_cat_int a_cat_nil)))) (show 4 ≤ 4 by decide)]
              show a_at _ (a_xm a_m42) 0 [some (a_rf (R C 11)), some (.int k), some (.int x), some (.int y)] [] _ _
              simp only [q42_0, q42_1, q42_2, q42_5, q42_6, q42_7, q42_10, q42_11, q42_12, q42_15, as_nil, as_i, as_r, Nat.reduceAdd, Nat.reduceLeDiff, z_eq0, z_eq1, z_or, z_em, Classical.not_not, not_false_eq_true, not_true_eq_false, true_and, and_true, false_and, and_false, and_self, true_implies, false_implies, implies_true, Option.toList_some, Option.toList_none, List.cons_append, List.nil_append, Nat.add_eq_zero_iff, a_nl_i, a_nl_r, a_nl_n, true_or, or_true, eq_self, a_isRA_22, a_isRA_24, a_isRA_32, a_isA_20, ok_4, ok_5, ok_6, ok_7, ok_9, ok_20, ok_21, ok_30, ok_50, ok_180, ok_192, ok_200, kD, d0]
              try simp only [true_and, and_true, true_implies, false_implies, implies_true, not_true_eq_false, not_false_eq_true]
              simp only [q38_179, q38_180, q38_181, q38_184, q38_185, q38_188, q38_190, k_0 hS, z_C hS, r_0_4 hS, k_14 hS, z_14, as_nil, as_i, as_r, Nat.reduceAdd, Nat.reduceLeDiff, z_eq0, z_eq1, z_or, z_em, Classical.not_not, not_false_eq_true, not_true_eq_false, true_and, and_true, false_and, and_false, and_self, true_implies, false_implies, implies_true, Option.toList_some, Option.toList_none, List.cons_append, List.nil_append, Nat.add_eq_zero_iff, a_nl_i, a_nl_r, a_nl_n, true_or, or_true, eq_self, a_isRA_22, a_isRA_24, a_isRA_32, a_isA_20, ok_4, ok_5, ok_6, ok_7, ok_9, ok_20, ok_21, ok_30, ok_50, ok_180, ok_192, ok_200, ur_ap, Nat.reduceEqDiff, if_false, kD, d0]
              try simp only [true_and, and_true, true_implies, false_implies, implies_true, not_true_eq_false, not_false_eq_true]
              first
                | exact hadd
                | grind
            clear hadd
            rw [a_enter1 (M := a_m38) rfl (a_cat_rf (a_cat_int (a_cat_int (a_cat_int (a_cat_int (a_cat_int (a_cat_int (a_cat_int a_cat_nil)))))))) (show 8 ≤ 9 by decide)]
            show a_at _ (a_xm a_m38) 0 [some (a_rf C), some (.int k), some (.int b), some (.int m), some (.int g), some (.int e), some (.int x), some (.int y), none] [] _ _
            simp only [q38_0, q38_1, q38_4, q38_14, q38_15, q38_18, q38_19, q38_20, q38_30, q38_31, q38_34, q38_35, q38_38, q38_40, q38_43, q38_44, q38_46, q38_48, q38_51, q38_61, q38_62, q38_64, q38_67, q38_68, q38_70, q38_73, q38_75, q38_77, q38_80, q38_81, q38_83, q38_85, q38_88, q38_91, q38_92, q38_95, q38_98, q38_100, q38_110, q38_112, q38_113, q38_116, q38_118, q38_120, q38_123, q38_124, q38_125, q38_128, q38_129, q38_130, q38_131, q38_134, q38_135, q38_138, q38_140, q38_143, k_0 hS, z_C hS, r_0_4 hS, k_14 hS, z_14, sp_askAt hS gA, as_nil, as_i, as_r, Nat.reduceAdd, Nat.reduceLeDiff, z_eq0, z_eq1, z_or, z_em, Classical.not_not, not_false_eq_true, not_true_eq_false, true_and, and_true, false_and, and_false, and_self, true_implies, false_implies, implies_true, Option.toList_some, Option.toList_none, List.cons_append, List.nil_append, Nat.add_eq_zero_iff, a_nl_i, a_nl_r, a_nl_n, true_or, or_true, eq_self, a_isRA_22, a_isRA_24, a_isRA_32, a_isA_20, ok_4, ok_5, ok_6, ok_7, ok_9, ok_20, ok_21, ok_30, ok_50, ok_180, ok_192, ok_200, sp_daysBelow, sp_daysAbove, d0, k0, c2, b0, m0, e0, b0', m0', e0', dB, e4, b1, m1, e1, b1', m1', e1', dA, h30, g0, g1]
            try simp only [true_and, and_true, true_implies, false_implies, implies_true, not_true_eq_false, not_false_eq_true]
            clear dB dA hnw
            by_cases k1 : k = 1
            · obtain ⟨x1, x2⟩ := hx k1
              have x2' : (R (C + 15) x.toNatClampNeg = 0) = False := eq_false x2
              have gx := hT.g_asksR x.toNatClampNeg
              simp only [k1, x1, x2']
              try simp only [true_and, and_true, true_implies, false_implies, implies_true, not_true_eq_false, not_false_eq_true]
              rw [k1] at h152
              first
                | exact h152
                | exact ⟨gx, h152⟩
                | exact ⟨fun q => absurd x1 q, h152⟩
                | grind
            · simp only [k1]
              try simp only [true_and, and_true, true_implies, false_implies, implies_true, not_true_eq_false, not_false_eq_true]
              first
                | exact h152
                | grind
    · rw [if_pos c2] at hP
      have hr := hr29 (fun J z1 z2 => hP n t K L J R z1 z2)
      clear hP hc hu hr13 hr29 hr60 hr109 hr128 hr151
      rw [a_enter1 (M := a_m38) rfl (a_cat_rf (a_cat_int (a_cat_int (a_cat_int (a_cat_int (a_cat_int (a_cat_int (a_cat_int a_cat_nil)))))))) (show 8 ≤ 9 by decide)]
      show a_at _ (a_xm a_m38) 0 [some (a_rf C), some (.int k), some (.int b), some (.int m), some (.int g), some (.int e), some (.int x), some (.int y), none] [] _ _
      simp only [q38_0, q38_1, q38_4, q38_14, q38_15, q38_18, q38_19, q38_20, q38_23, q38_24, q38_26, k_0 hS, z_C hS, as_nil, as_i, as_r, Nat.reduceAdd, Nat.reduceLeDiff, z_eq0, z_eq1, z_or, z_em, Classical.not_not, not_false_eq_true, not_true_eq_false, true_and, and_true, false_and, and_false, and_self, true_implies, false_implies, implies_true, Option.toList_some, Option.toList_none, List.cons_append, List.nil_append, Nat.add_eq_zero_iff, a_nl_i, a_nl_r, a_nl_n, true_or, or_true, eq_self, a_isRA_22, a_isRA_24, a_isRA_32, a_isA_20, ok_4, ok_5, ok_6, ok_7, ok_9, ok_20, ok_21, ok_30, ok_50, ok_180, ok_192, ok_200, d0]
      try simp only [true_and, and_true, true_implies, false_implies, implies_true, not_true_eq_false, not_false_eq_true]
      grind
end ZI0
section
/-! the class: what else the law calls -/
/-- the cells that rows compare, and the reference's -/
def kA (C : Nat) (K : Nat → Nat) (n x j : Nat) : Prop := (x < n ∧ C + 96 < x ∧ K x = 11) ∨ (C + 44 ≤ x ∧ x ≤ C + 96) ∨ x = C + 2 ∨ (x = C + 1 ∧ (j = 5 ∨ j = 6)) ∨ (x = C + 14 ∧ (j = 5 ∨ j = 6)) ∨ (x = C + 22 ∧ j = 8) ∨ (x = C + 17 ∧ j = 5) ∨ x = C + 18 ∨ (x = C ∧ j = 10) ∨ x = C + 4 ∨ x = C + 5 ∨ x = C + 6 ∨ x = C + 12 ∨ (x = C + 11 ∧ j = 2) ∨ (x = C + 7 ∧ j = 3)
def dW (C n : Nat) (K L : Nat → Nat) (I : Nat → Nat → Int32) (R : Nat → Nat → Nat) (n' : Nat) (K' L' : Nat → Nat) (J : Nat → Nat → Int32) (R' : Nat → Nat → Nat) (O : Nat → Nat → Prop) : Prop := n ≤ n' ∧ (∀ x, x < n → K' x = K x) ∧ (∀ x, x < n → L' x = L x) ∧ (∀ x j, (x = C + 8 ∨ C + 44 ≤ x) → x ≤ C + 96 → R' x j = R x j) ∧ (∀ x j, kA C K n x j → ¬ O x j → J x j = I x j)
section KN
variable {d n t C c n0 n' n'' t' : Nat} {K L K0 L0 K' L' K'' L'' : Nat → Nat} {I I0 J J0 J1 J2 : Nat → Nat → Int32} {R R0 R' R'' : Nat → Nat → Nat} {P : Option Value → AH → Prop}
theorem kA_eD {x j : Nat} (p : kA C K n x j) : eD C K x j := by
  unfold kA at p
  unfold eD
  rcases p with q | q | q | q | q | q | q | q | q | q | q | q | q | q | q
  · exact Or.inr (Or.inr (Or.inr (Or.inr (Or.inr (Or.inr (Or.inr (Or.inr (Or.inr (Or.inr (Or.inr (Or.inr (Or.inr (Or.inr (Or.inr (Or.inr (Or.inr (q.2)))))))))))))))))
  · exact Or.inr (Or.inl q)
  · exact Or.inr (Or.inr (Or.inr (Or.inl q)))
  · exact Or.inr (Or.inr (Or.inl q.1))
  · exact Or.inr (Or.inr (Or.inr (Or.inr (Or.inr (Or.inr (Or.inr (Or.inr (Or.inl q))))))))
  · exact Or.inr (Or.inr (Or.inr (Or.inr (Or.inr (Or.inr (Or.inr (Or.inr (Or.inr (Or.inr (Or.inr (Or.inl q)))))))))))
  · exact Or.inr (Or.inr (Or.inr (Or.inr (Or.inr (Or.inr (Or.inr (Or.inr (Or.inr (Or.inr (Or.inl q))))))))))
  · exact Or.inr (Or.inr (Or.inr (Or.inr (Or.inr (Or.inr (Or.inr (Or.inr (Or.inr (Or.inl q)))))))))
  · exact Or.inr (Or.inr (Or.inr (Or.inr (Or.inr (Or.inr (Or.inr (Or.inr (Or.inr (Or.inr (Or.inr (Or.inr (Or.inr (Or.inl q)))))))))))))
  · exact Or.inr (Or.inr (Or.inr (Or.inr (Or.inr (Or.inl q)))))
  · exact Or.inr (Or.inr (Or.inr (Or.inr (Or.inr (Or.inr (Or.inl q))))))
  · exact Or.inr (Or.inr (Or.inr (Or.inr (Or.inr (Or.inr (Or.inr (Or.inl q)))))))
  · exact Or.inr (Or.inr (Or.inr (Or.inr (Or.inr (Or.inr (Or.inr (Or.inr (Or.inr (Or.inr (Or.inr (Or.inr (Or.inr (Or.inr (Or.inl q))))))))))))))
  · exact Or.inr (Or.inr (Or.inr (Or.inr (Or.inr (Or.inr (Or.inr (Or.inr (Or.inr (Or.inr (Or.inr (Or.inr (Or.inr (Or.inr (Or.inr (Or.inl q)))))))))))))))
  · exact Or.inr (Or.inr (Or.inr (Or.inr (Or.inr (Or.inr (Or.inr (Or.inr (Or.inr (Or.inr (Or.inr (Or.inr (Or.inr (Or.inr (Or.inr (Or.inr (Or.inl q))))))))))))))))
theorem kA_lt {x j : Nat} (p : kA C K n x j) (h : C + 96 < n) : x < n := by
  unfold kA at p
  omega
theorem dW_Z (h : cZ C c n0 K0 L0 I0 R0 n t K L J R) : dW C n0 K0 L0 I0 R0 n K L J R (fun _ _ => False) := ⟨h.2.2.1, h.2.2.2.1, h.2.2.2.2.1, h.2.2.2.2.2.1, fun x j p _ => h.2.2.2.2.2.2 x j (kA_eD p) (kA_lt p h.1)⟩
theorem or8 {x s : Int32} (hx : 0 ≤ x ∧ x ≤ 255) (hs : 0 ≤ s ∧ s ≤ 7) : (0 : Int32) ≤ (x ||| ((1 : Int32) <<< (s &&& 31))) ∧ (x ||| ((1 : Int32) <<< (s &&& 31))) ≤ (255 : Int32) := by
  have key : ∀ a : Fin 256, ∀ b : Fin 8, (0 : Int32) ≤ (Int32.ofNat a.val ||| ((1 : Int32) <<< (Int32.ofNat b.val &&& 31))) ∧ (Int32.ofNat a.val ||| ((1 : Int32) <<< (Int32.ofNat b.val &&& 31))) ≤ (255 : Int32) := by decide +kernel
  have c0 : (0 : Int32).toInt = 0 := rfl
  have c7 : (7 : Int32).toInt = 7 := rfl
  have c255 : (255 : Int32).toInt = 255 := rfl
  have e0 := Int32.le_iff_toInt_le.mp hx.1
  have e1 := Int32.le_iff_toInt_le.mp hx.2
  have e2 := Int32.le_iff_toInt_le.mp hs.1
  have e3 := Int32.le_iff_toInt_le.mp hs.2
  have ex : x = Int32.ofNat (⟨x.toInt.toNat, by omega⟩ : Fin 256).val := Int32.toInt_inj.mp (by
    rw [Int32.toInt_ofNat', show Int32.size = 4294967296 from rfl]
    simp only [Int.bmod_def]
    show x.toInt = _
    omega)
  have es : s = Int32.ofNat (⟨s.toInt.toNat, by omega⟩ : Fin 8).val := Int32.toInt_inj.mp (by
    rw [Int32.toInt_ofNat', show Int32.size = 4294967296 from rfl]
    simp only [Int.bmod_def]
    show s.toInt = _
    omega)
  have := key ⟨x.toInt.toNat, by omega⟩ ⟨s.toInt.toNat, by omega⟩
  rw [← ex, ← es] at this
  exact this
theorem h8 {h : Int32} (h0 : 0 ≤ h) (h1 : h < 1600) : (0 ≤ h / 8 ∧ h / 8 < 200) ∧ (0 ≤ h - h / 8 * 8 ∧ h - h / 8 * 8 ≤ 7) := by
  have c0 : (0 : Int32).toInt = 0 := rfl
  have c7 : (7 : Int32).toInt = 7 := rfl
  have c8 : (8 : Int32).toInt = 8 := rfl
  have c200 : (200 : Int32).toInt = 200 := rfl
  have c1600 : (1600 : Int32).toInt = 1600 := rfl
  have e0 := Int32.le_iff_toInt_le.mp h0
  have e1 := Int32.lt_iff_toInt_lt.mp h1
  have e := ti_div h0 (show (0 : Int32) < 8 by decide)
  rw [c8] at e
  have em : (h / 8 * 8).toInt = (h / 8).toInt * 8 := by
    rw [Int32.toInt_mul, c8]
    simp only [Int.bmod_def]
    omega
  have es : (h - h / 8 * 8).toInt = h.toInt - (h / 8).toInt * 8 := by
    rw [Int32.toInt_sub, em]
    simp only [Int.bmod_def]
    omega
  refine ⟨⟨?_, ?_⟩, ?_, ?_⟩
  · rw [Int32.le_iff_toInt_le]; omega
  · rw [Int32.lt_iff_toInt_lt]; omega
  · rw [Int32.le_iff_toInt_le]; omega
  · rw [Int32.le_iff_toInt_le]; omega
theorem lk_found_58 {h v : Int32} (hP : ∀ J, cT C K L J R → (∀ x j, ¬ x = C + 3 → J x j = I x j) → P (some (.int (J (C + 1) 5))) (n, t, K, L, J, R)) : ∀ i : Int32, i ≤ 1600 → ∀ J, 0 ≤ i → cT C K L J R → (∀ x j, ¬ x = C + 3 → J x j = I x j) → a_at d (a_xm a_m16) 58 [some (a_rf (C + 1)), some (.int h), some (.int v), some (.int i)] [] (n, t, K, L, J, R) P := by
  refine up_ind 1600 (fun i hk ih => ?_)
  intro J q0 hT hF
  have hS := hT.s
  have n8 : ¬ (8 : Int32) = 0 := by decide
  have hend := hP J hT hF
  rw [q16_58]
  simp only [q16_59, q16_60, q16_61, q16_62, q16_65, q16_66, q16_69, q16_72, q16_73, q16_76, q16_77, q16_79, q16_80, q16_81, q16_82, q16_83, q16_84, q16_86, q16_87, q16_88, q16_89, q16_90, q16_93, q16_96, q16_97, q16_100, k_1 hS, z_1, r_1_1 hS, k_3 hS, l_3 hS, z_3, as_nil, as_i, as_r, Nat.reduceAdd, Nat.reduceLeDiff, z_eq0, z_eq1, z_or, z_em, Classical.not_not, not_false_eq_true, not_true_eq_false, true_and, and_true, false_and, and_false, and_self, true_implies, false_implies, implies_true, Option.toList_some, Option.toList_none, List.cons_append, List.nil_append, Nat.add_eq_zero_iff, a_nl_i, a_nl_r, a_nl_n, true_or, or_true, eq_self, a_isRA_22, a_isRA_24, a_isRA_32, a_isA_20, ok_4, ok_5, ok_6, ok_7, ok_9, ok_20, ok_21, ok_30, ok_50, ok_180, ok_192, ok_200, ui_ap, cc_ne, cc_n0, cc_0n, Nat.reduceEqDiff, reduceIte, if_true, if_false, n8]
  refine ⟨fun _ => hend, fun _ => ⟨fun _ => hend, fun h2 => ?_⟩⟩
  have h2 := Int32.not_le.mp h2
  obtain ⟨x1, x2⟩ := h8 q0 h2
  have g := or8 (hT.g_lost (i / 8).toNatClampNeg) x2
  have hf := ih h2 _ (by clear ih hP hT hF hend; grind) (sT_Beam_lost hT (k := (i / 8).toNatClampNeg) g) (fun x j e => by rw [ui_ap, if_neg (fun q => e q.1)]; exact hF x j e)
  repeat' first
    | with_reducible apply And.intro
    | exact hf
    | exact x1.1
    | exact x1.2
/-- the heap behind a TRIP, but for what is lost -/
def tX (C : Nat) (I : Nat → Nat → Int32) (h v : Int32) : Nat → Nat → Int32 := a_ui (a_ui (a_ui (a_ui I (C + 4) (I (C + 1) 5).toNatClampNeg h) (C + 5) (I (C + 1) 5).toNatClampNeg (h + v - 1)) (C + 6) (I (C + 1) 5).toNatClampNeg (I (C + 1) 6)) (C + 1) 5 (I (C + 1) 5 + 1)
theorem tX_ne {h v : Int32} {x j : Nat} (q : ¬ x = C + 4) (r : ¬ x = C + 5) (s : ¬ x = C + 6) (u : ¬ (x = C + 1 ∧ j = 5)) : tX C I h v x j = I x j := by
  unfold tX
  rw [ui_ap, if_neg u, ui_ap, if_neg (fun e => s e.1), ui_ap, if_neg (fun e => r e.1), ui_ap, if_neg (fun e => q e.1)]
theorem tX_4 {h v : Int32} {j : Nat} : tX C I h v (C + 4) j = if j = (I (C + 1) 5).toNatClampNeg then h else I (C + 4) j := by
  unfold tX
  rw [ui_ap, if_neg (by omega), ui_ap, if_neg (by omega), ui_ap, if_neg (by omega), ui_ap]
  simp only [true_and]
theorem tX_5 {h v : Int32} {j : Nat} : tX C I h v (C + 5) j = if j = (I (C + 1) 5).toNatClampNeg then h + v - 1 else I (C + 5) j := by
  unfold tX
  rw [ui_ap, if_neg (by omega), ui_ap, if_neg (by omega), ui_ap]
  by_cases e : j = (I (C + 1) 5).toNatClampNeg
  · rw [if_pos ⟨rfl, e⟩, if_pos e]
  · rw [if_neg (fun q => e q.2), if_neg e, ui_ap, if_neg (by omega)]
theorem tX_6 {h v : Int32} {j : Nat} : tX C I h v (C + 6) j = if j = (I (C + 1) 5).toNatClampNeg then I (C + 1) 6 else I (C + 6) j := by
  unfold tX
  rw [ui_ap, if_neg (by omega), ui_ap]
  by_cases e : j = (I (C + 1) 5).toNatClampNeg
  · rw [if_pos ⟨rfl, e⟩, if_pos e]
  · rw [if_neg (fun q => e q.2), if_neg e, ui_ap, if_neg (by omega), ui_ap, if_neg (by omega)]
theorem tX_1 {h v : Int32} : tX C I h v (C + 1) 5 = I (C + 1) 5 + 1 := by
  unfold tX
  rw [ui_ap, if_pos ⟨rfl, rfl⟩]
theorem ck_found {h v : Int32} (h0 : 0 ≤ h ∧ h ≤ 1600) (hT : cT C K L I R) (hc : I (C + 1) 5 < 20) (hP : ∀ J, cT C K L J R → (∀ x j, ¬ x = C + 3 → J x j = tX C I h v x j) → P (some (.int (I (C + 1) 5 + 1))) (n, t, K, L, J, R)) : a_does (d + 1) 16 [a_rf (C + 1), .int h, .int v] (n, t, K, L, I, R) P := by
  have hS := hT.s
  have g := hT.g_trips
  have hc2 : ¬ 20 ≤ I (C + 1) 5 := Int32.not_le.mpr hc
  have hT2 : cT C K L (a_ui (a_ui (a_ui (a_ui I (C + 4) (I (C + 1) 5).toNatClampNeg h) (C + 5) (I (C + 1) 5).toNatClampNeg (h + v - 1)) (C + 6) (I (C + 1) 5).toNatClampNeg (I (C + 1) 6)) (C + 1) 5 (I (C + 1) 5 + 1)) R := sT_Beam_trips (sT_Beam_tripFound (sT_Beam_tripTill (sT_Beam_tripFrom hT))) (by clear hP hT hS; grind)
  have hl := lk_found_58 (d := d) (h := h) (v := v) (I := (a_ui (a_ui (a_ui (a_ui I (C + 4) (I (C + 1) 5).toNatClampNeg h) (C + 5) (I (C + 1) 5).toNatClampNeg (h + v - 1)) (C + 6) (I (C + 1) 5).toNatClampNeg (I (C + 1) 6)) (C + 1) 5 (I (C + 1) 5 + 1))) (n := n) (t := t) (K := K) (L := L) (R := R) (P := P) (C := C) (fun J g1 g2 => by
    have e5 : J (C + 1) 5 = I (C + 1) 5 + 1 := by rw [g2 _ _ (by omega), ui_ap, if_pos ⟨rfl, rfl⟩]
    rw [e5]
    exact hP J g1 g2) h h0.2 _ h0.1 hT2 (fun _ _ _ => rfl)
  rw [a_enter1 (M := a_m16) rfl (a_cat_rf (a_cat_int (a_cat_int a_cat_nil))) (show 3 ≤ 4 by decide)]
  show a_at _ (a_xm a_m16) 0 [some (a_rf (C + 1)), some (.int h), some (.int v), none] [] _ _
  simp only [q16_0, q16_1, q16_4, q16_6, q16_9, q16_10, q16_13, q16_14, q16_17, q16_18, q16_19, q16_20, q16_23, q16_24, q16_27, q16_28, q16_29, q16_30, q16_31, q16_32, q16_33, q16_34, q16_37, q16_38, q16_41, q16_42, q16_45, q16_46, q16_47, q16_48, q16_51, q16_52, q16_53, q16_56, q16_57, k_1 hS, z_1, r_1_2 hS, k_4 hS, l_4 hS, z_4, r_1_3 hS, k_5 hS, l_5 hS, z_5, r_1_4 hS, k_6 hS, l_6 hS, z_6, as_nil, as_i, as_r, Nat.reduceAdd, Nat.reduceLeDiff, z_eq0, z_eq1, z_or, z_em, Classical.not_not, not_false_eq_true, not_true_eq_false, true_and, and_true, false_and, and_false, and_self, true_implies, false_implies, implies_true, Option.toList_some, Option.toList_none, List.cons_append, List.nil_append, Nat.add_eq_zero_iff, a_nl_i, a_nl_r, a_nl_n, true_or, or_true, eq_self, a_isRA_22, a_isRA_24, a_isRA_32, a_isA_20, ok_4, ok_5, ok_6, ok_7, ok_9, ok_20, ok_21, ok_30, ok_50, ok_180, ok_192, ok_200, ui_ap, cc_ne, cc_n0, cc_0n, Nat.reduceEqDiff, reduceIte, if_true, if_false, hc, hc2, g.1]
  repeat' first
    | with_reducible apply And.intro
    | exact hl
    | decide
theorem cw_trip (hH : cH C c (n + 1) t K L I R) {h v : Int32} (hP : ∀ v n' t' K' L' J R', cH C (c + 4) (n' + 1) t' K' L' J R' → dW C (n + 1) K L I R (n' + 1) K' L' J R' (fun x j => (x = C + 1 ∧ j = 5) ∨ x = C + 4 ∨ x = C + 5 ∨ x = C + 6) → P (some (.int v)) (n' + 1, t', K', L', J, R')) : a_does (d + 70) 15 [a_rf C, .int h, .int v] (n + 1, t, K, L, I, R) P := by
  have hT := hH.1
  have hS := hT.s
  have hZ := cZ_refl hH
  have hq : ∀ v J, cT C K L J R → (∀ x j, kA C K (n + 1) x j → ¬ (fun x j => (x = C + 1 ∧ j = 5) ∨ x = C + 4 ∨ x = C + 5 ∨ x = C + 6) x j → J x j = I x j) → P (some (.int v)) (n + 1, t, K, L, J, R) := fun v J g f => hP v n t K L J R (cH_le (cH_J hH g) (by omega)) ⟨Nat.le_refl _, fun _ _ => rfl, fun _ _ => rfl, fun _ _ _ _ => rfl, f⟩
  have hz : ∀ v J, cZ C c (n + 1) K L I R (n + 1) t K L J R → P (some (.int v)) (n + 1, t, K, L, J, R) := fun v J z => hq v J z.2.1.1 (fun x j h _ => z.2.2.2.2.2.2 x j (kA_eD h) (kA_lt h hH.2.2.1))
  have g := hT.g_now
  have hgo : ¬ h < 0 → h ≤ I (C + 1) 6 → I (C + 1) 5 < 20 → a_at (d + 69) (a_xm a_m15) 52 [some (a_rf C), some (.int h), some (.int v)] [] (n + 1, t, K, L, I, R) P := fun h0 h1 h2 => by
    simp only [q15_52, q15_53, q15_56, q15_57, q15_58, k_0 hS, z_C hS, r_0_0 hS, k_1 hS, z_1, as_nil, as_i, as_r, Nat.reduceAdd, Nat.reduceLeDiff, z_eq0, z_eq1, z_or, z_em, Classical.not_not, not_false_eq_true, not_true_eq_false, true_and, and_true, false_and, and_false, and_self, true_implies, false_implies, implies_true, Option.toList_some, Option.toList_none, List.cons_append, List.nil_append, Nat.add_eq_zero_iff, a_nl_i, a_nl_r, a_nl_n, true_or, or_true, eq_self, a_isRA_22, a_isRA_24, a_isRA_32, a_isA_20, ok_4, ok_5, ok_6, ok_7, ok_9, ok_20, ok_21, ok_30, ok_50, ok_180, ok_192, ok_200]
    refine ck_found ⟨Int32.not_lt.mp h0, Int32.le_trans h1 g.2⟩ hT h2 (fun J g1 f => ?_)
    simp only [q15_61, as_nil, as_i, as_r, Nat.reduceAdd, Nat.reduceLeDiff, z_eq0, z_eq1, z_or, z_em, Classical.not_not, not_false_eq_true, not_true_eq_false, true_and, and_true, false_and, and_false, and_self, true_implies, false_implies, implies_true, Option.toList_some, Option.toList_none, List.cons_append, List.nil_append, Nat.add_eq_zero_iff, a_nl_i, a_nl_r, a_nl_n, true_or, or_true, eq_self, a_isRA_22, a_isRA_24, a_isRA_32, a_isA_20, ok_4, ok_5, ok_6, ok_7, ok_9, ok_20, ok_21, ok_30, ok_50, ok_180, ok_192, ok_200]
    exact hq _ J g1 (fun x j p o => by
      unfold kA at p
      replace o : ¬ ((x = C + 1 ∧ j = 5) ∨ x = C + 4 ∨ x = C + 5 ∨ x = C + 6) := o
      rw [f x j (by omega)]
      exact tX_ne (by omega) (by omega) (by omega) (by omega))
  rw [a_enter1 (M := a_m15) rfl (a_cat_rf (a_cat_int (a_cat_int a_cat_nil))) (show 3 ≤ 3 by decide)]
  show a_at _ (a_xm a_m15) 0 [some (a_rf C), some (.int h), some (.int v)] [] _ _
  repeat' first
    | with_reducible apply And.intro
    | with_reducible assumption
    | with_reducible intro _
    | refine ck_refuse hZ (fun _ _ => ?_)
    | exact hz _ _ (by assumption)
    | exact hgo (by assumption) (by assumption) (by assumption)
    | exact hgo (by assumption) (Int32.not_lt.mp (by assumption)) (by assumption)
    | simp only [q15_0, q15_1, q15_4, q15_5, q15_6, q15_9, q15_10, q15_12, q15_15, q15_16, q15_17, q15_18, q15_21, q15_24, q15_27, q15_28, q15_30, q15_33, q15_34, q15_37, q15_40, q15_42, q15_45, q15_46, q15_48, q15_51, k_0 hS, z_C hS, r_0_0 hS, k_1 hS, z_1, as_nil, as_i, as_r, Nat.reduceAdd, Nat.reduceLeDiff, z_eq0, z_eq1, z_or, z_em, Classical.not_not, not_false_eq_true, not_true_eq_false, true_and, and_true, false_and, and_false, and_self, true_implies, false_implies, implies_true, Option.toList_some, Option.toList_none, List.cons_append, List.nil_append, Nat.add_eq_zero_iff, a_nl_i, a_nl_r, a_nl_n, true_or, or_true, eq_self, a_isRA_22, a_isRA_24, a_isRA_32, a_isA_20, ok_4, ok_5, ok_6, ok_7, ok_9, ok_20, ok_21, ok_30, ok_50, ok_180, ok_192, ok_200]
  all_goals ((try clear hgo); (try clear hq); (try clear hz); (try clear hP); (try clear hZ); (try clear hH); (try clear hT); (try clear hS); grind [ui_ap])
end KN
end
section
/-! the class: trip, bench, set, just so -/
section KQ
variable {d n t C c n0 n' n'' t' : Nat} {K L K0 L0 K' L' K'' L'' : Nat → Nat} {I I0 J J0 J1 J2 : Nat → Nat → Int32} {R R0 R' R'' : Nat → Nat → Nat} {P : Option Value → AH → Prop}
theorem ke_bench (hH : cH C c (n + 1) t K L I R) {p q : Int32} (h1 : (p < 0 ∨ q < 0) → ∀ J, cZ C c (n + 1) K L I R (n + 1) t K L J R → P (some (.int (-4))) (n + 1, t, K, L, J, R)) (h2 : ¬ (p < 0 ∨ q < 0) → (255 < p ∨ 255 < q ∨ 6 ≤ I (C + 14) 5) → ∀ J, cZ C c (n + 1) K L I R (n + 1) t K L J R → P (some (.int (-6))) (n + 1, t, K, L, J, R)) (hP : ¬ (p < 0 ∨ q < 0) → ¬ (255 < p ∨ 255 < q ∨ 6 ≤ I (C + 14) 5) → ∀ t' K' L' J R', cH C (c + 1) (n + 5 + 1) t' K' L' J R' → dX C (n + 1) K L (a_ui I (C + 14) 5 (I (C + 14) 5 + 1)) R (n + 5 + 1) K' L' J R' → P (some (.int (I (C + 14) 5 + 1 - 1))) (n + 5 + 1, t', K', L', J, R')) : a_does (d + 70) 20 [a_rf C, .int p, .int q] (n + 1, t, K, L, I, R) P := by
  have hT := hH.1
  have hS := hT.s
  have hZ := cZ_refl hH
  have gneg : ¬ p < 0 → 0 ≤ q → ¬ (p < 0 ∨ q < 0) := fun a b e => e.elim a (fun x => absurd b (Int32.not_le.mpr x))
  have hgo : ¬ p < 0 → 0 ≤ q → ¬ 255 < p → ¬ 255 < q → I (C + 14) 5 < 6 → a_at (d + 69) (a_xm a_m20) 48 [some (a_rf C), some (.int p), some (.int q)] [] (n + 1, t, K, L, I, R) P := fun a b c1 d1 e1 => by
    have hP := hP (gneg a b) (fun e => e.elim c1 (fun e => e.elim d1 (fun x => absurd e1 (Int32.not_lt.mpr x))))
    simp only [q20_48, q20_49, q20_52, q20_53, q20_54, k_0 hS, z_C hS, r_0_4 hS, k_14 hS, z_14, as_nil, as_i, as_r, Nat.reduceAdd, Nat.reduceLeDiff, z_eq0, z_eq1, z_or, z_em, Classical.not_not, not_false_eq_true, not_true_eq_false, true_and, and_true, false_and, and_false, and_self, true_implies, false_implies, implies_true, Option.toList_some, Option.toList_none, List.cons_append, List.nil_append, Nat.add_eq_zero_iff, a_nl_i, a_nl_r, a_nl_n, true_or, or_true, eq_self, a_isRA_22, a_isRA_24, a_isRA_32, a_isA_20, ok_4, ok_5, ok_6, ok_7, ok_9, ok_20, ok_21, ok_30, ok_50, ok_180, ok_192, ok_200]
    refine ck_addBench hH (Int32.not_le.mpr e1) (fun t' K' L' J R' g1 g2 => ?_)
    simp only [q20_57, as_nil, as_i, as_r, Nat.reduceAdd, Nat.reduceLeDiff, z_eq0, z_eq1, z_or, z_em, Classical.not_not, not_false_eq_true, not_true_eq_false, true_and, and_true, false_and, and_false, and_self, true_implies, false_implies, implies_true, Option.toList_some, Option.toList_none, List.cons_append, List.nil_append, Nat.add_eq_zero_iff, a_nl_i, a_nl_r, a_nl_n, true_or, or_true, eq_self, a_isRA_22, a_isRA_24, a_isRA_32, a_isA_20, ok_4, ok_5, ok_6, ok_7, ok_9, ok_20, ok_21, ok_30, ok_50, ok_180, ok_192, ok_200]
    exact hP t' K' L' J R' g1 g2
  rw [a_enter1 (M := a_m20) rfl (a_cat_rf (a_cat_int (a_cat_int a_cat_nil))) (show 3 ≤ 3 by decide)]
  show a_at _ (a_xm a_m20) 0 [some (a_rf C), some (.int p), some (.int q)] [] _ _
  repeat' first
    | with_reducible apply And.intro
    | with_reducible assumption
    | with_reducible intro _
    | refine ck_refuse hZ (fun _ _ => ?_)
    | exact h1 (Or.inl (by assumption)) _ (by assumption)
    | exact h1 (Or.inr (Int32.not_le.mp (by assumption))) _ (by assumption)
    | exact h2 (gneg (by assumption) (by assumption)) (Or.inl (by assumption)) _ (by assumption)
    | exact h2 (gneg (by assumption) (by assumption)) (Or.inr (Or.inl (by assumption))) _ (by assumption)
    | exact h2 (gneg (by assumption) (by assumption)) (Or.inr (Or.inr (Int32.not_lt.mp (by assumption)))) _ (by assumption)
    | exact hgo (by assumption) (by assumption) (by assumption) (by assumption) (by assumption)
    | simp only [q20_0, q20_1, q20_4, q20_5, q20_8, q20_9, q20_11, q20_14, q20_15, q20_16, q20_19, q20_22, q20_23, q20_26, q20_29, q20_30, q20_33, q20_36, q20_38, q20_41, q20_42, q20_44, q20_47, k_0 hS, z_C hS, r_0_4 hS, k_14 hS, z_14, as_nil, as_i, as_r, Nat.reduceAdd, Nat.reduceLeDiff, z_eq0, z_eq1, z_or, z_em, Classical.not_not, not_false_eq_true, not_true_eq_false, true_and, and_true, false_and, and_false, and_self, true_implies, false_implies, implies_true, Option.toList_some, Option.toList_none, List.cons_append, List.nil_append, Nat.add_eq_zero_iff, a_nl_i, a_nl_r, a_nl_n, true_or, or_true, eq_self, a_isRA_22, a_isRA_24, a_isRA_32, a_isA_20, ok_4, ok_5, ok_6, ok_7, ok_9, ok_20, ok_21, ok_30, ok_50, ok_180, ok_192, ok_200]
  all_goals ((try clear hgo); (try clear hr); (try clear hs); (try clear hc); (try clear h0); (try clear h1); (try clear h2); (try clear h3); (try clear h4); (try clear h5); (try clear hP); (try clear hZ); (try clear hH); (try clear hT); (try clear hS); grind [ui_ap])
theorem ke_set (hH : cH C c (n + 1) t K L I R) {w v : Int32} (h0 : ¬ (0 ≤ w ∧ w ≤ 2) → ∀ J, cZ C c (n + 1) K L I R (n + 1) t K L J R → P (some (.int (-2))) (n + 1, t, K, L, J, R)) (h1 : (0 ≤ w ∧ w ≤ 2) → v < 0 → ∀ J, cZ C c (n + 1) K L I R (n + 1) t K L J R → P (some (.int (-4))) (n + 1, t, K, L, J, R)) (h2 : (0 ≤ w ∧ w ≤ 2) → ¬ v < 0 → ((w = 0 ∧ 3 < v) ∨ (w = 1 ∧ 100 < v) ∨ (w = 2 ∧ 1 < v)) → ∀ J, cZ C c (n + 1) K L I R (n + 1) t K L J R → P (some (.int (-6))) (n + 1, t, K, L, J, R)) (h3 : w = 0 → ¬ v < 0 → ¬ 3 < v → cT C K L (a_ui I (C + 14) 6 v) R → P (some (.int (I (C + 14) 6))) (n + 1, t, K, L, (a_ui I (C + 14) 6 v), R)) (h4 : w = 1 → ¬ v < 0 → ¬ 100 < v → cT C K L (a_ui I (C + 22) 8 v) R → P (some (.int (I (C + 22) 8))) (n + 1, t, K, L, (a_ui I (C + 22) 8 v), R)) (h5 : w = 2 → ¬ v < 0 → ¬ 1 < v → ∀ J, dG C K L R (a_ui I (C + 17) 5 v) J → P (some (.int (I (C + 17) 5))) (n + 1, t, K, L, J, R)) : a_does (d + 70) 23 [a_rf C, .int w, .int v] (n + 1, t, K, L, I, R) P := by
  have hT := hH.1
  have hS := hT.s
  have hZ := cZ_refl hH
  have hr : w = 0 → 0 ≤ v → v ≤ 3 → ∀ u, a_at (d + 69) (a_xm a_m23) 63 [some (a_rf C), some (.int w), some (.int v), u] [] (n + 1, t, K, L, I, R) P := fun hw a b u => by
    have hP := h3 hw (Int32.not_lt.mpr a) (Int32.not_lt.mpr b) (sT_Hall_rest hT ⟨a, b⟩)
    simp only [q23_63, q23_64, q23_67, q23_68, k_0 hS, z_C hS, r_0_4 hS, k_14 hS, z_14, as_nil, as_i, as_r, Nat.reduceAdd, Nat.reduceLeDiff, z_eq0, z_eq1, z_or, z_em, Classical.not_not, not_false_eq_true, not_true_eq_false, true_and, and_true, false_and, and_false, and_self, true_implies, false_implies, implies_true, Option.toList_some, Option.toList_none, List.cons_append, List.nil_append, Nat.add_eq_zero_iff, a_nl_i, a_nl_r, a_nl_n, true_or, or_true, eq_self, a_isRA_22, a_isRA_24, a_isRA_32, a_isA_20, ok_4, ok_5, ok_6, ok_7, ok_9, ok_20, ok_21, ok_30, ok_50, ok_180, ok_192, ok_200]
    rw [a_enter1 (M := a_m24) rfl (a_cat_rf (a_cat_int a_cat_nil)) (show 2 ≤ 3 by decide)]
    show a_at _ (a_xm a_m24) 0 [some (a_rf (C + 14)), some (.int v), none] [] _ _
    simp only [q24_0, q24_1, q24_4, q24_5, q24_6, q24_7, q24_10, q24_11, k_14 hS, z_14, as_nil, as_i, as_r, Nat.reduceAdd, Nat.reduceLeDiff, z_eq0, z_eq1, z_or, z_em, Classical.not_not, not_false_eq_true, not_true_eq_false, true_and, and_true, false_and, and_false, and_self, true_implies, false_implies, implies_true, Option.toList_some, Option.toList_none, List.cons_append, List.nil_append, Nat.add_eq_zero_iff, a_nl_i, a_nl_r, a_nl_n, true_or, or_true, eq_self, a_isRA_22, a_isRA_24, a_isRA_32, a_isA_20, ok_4, ok_5, ok_6, ok_7, ok_9, ok_20, ok_21, ok_30, ok_50, ok_180, ok_192, ok_200, ui_ap, cc_ne, cc_n0, cc_0n, Nat.reduceEqDiff, reduceIte, if_true, if_false, q23_71]
    exact hP
  have hs : w = 1 → 0 ≤ v → v ≤ 100 → ∀ u, a_at (d + 69) (a_xm a_m23) 77 [some (a_rf C), some (.int w), some (.int v), u] [] (n + 1, t, K, L, I, R) P := fun hw a b u => by
    have hP := h4 hw (Int32.not_lt.mpr a) (Int32.not_lt.mpr b) (sT_Planner_share hT)
    simp only [q23_77, q23_78, q23_81, q23_82, k_0 hS, z_C hS, r_0_5 hS, k_22 hS, z_22, as_nil, as_i, as_r, Nat.reduceAdd, Nat.reduceLeDiff, z_eq0, z_eq1, z_or, z_em, Classical.not_not, not_false_eq_true, not_true_eq_false, true_and, and_true, false_and, and_false, and_self, true_implies, false_implies, implies_true, Option.toList_some, Option.toList_none, List.cons_append, List.nil_append, Nat.add_eq_zero_iff, a_nl_i, a_nl_r, a_nl_n, true_or, or_true, eq_self, a_isRA_22, a_isRA_24, a_isRA_32, a_isA_20, ok_4, ok_5, ok_6, ok_7, ok_9, ok_20, ok_21, ok_30, ok_50, ok_180, ok_192, ok_200]
    rw [a_enter1 (M := a_m25) rfl (a_cat_rf (a_cat_int a_cat_nil)) (show 2 ≤ 3 by decide)]
    show a_at _ (a_xm a_m25) 0 [some (a_rf (C + 22)), some (.int v), none] [] _ _
    simp only [q25_0, q25_1, q25_4, q25_5, q25_6, q25_7, q25_10, q25_11, k_22 hS, z_22, as_nil, as_i, as_r, Nat.reduceAdd, Nat.reduceLeDiff, z_eq0, z_eq1, z_or, z_em, Classical.not_not, not_false_eq_true, not_true_eq_false, true_and, and_true, false_and, and_false, and_self, true_implies, false_implies, implies_true, Option.toList_some, Option.toList_none, List.cons_append, List.nil_append, Nat.add_eq_zero_iff, a_nl_i, a_nl_r, a_nl_n, true_or, or_true, eq_self, a_isRA_22, a_isRA_24, a_isRA_32, a_isA_20, ok_4, ok_5, ok_6, ok_7, ok_9, ok_20, ok_21, ok_30, ok_50, ok_180, ok_192, ok_200, ui_ap, cc_ne, cc_n0, cc_0n, Nat.reduceEqDiff, reduceIte, if_true, if_false, q23_85, q23_88, q23_89, q23_92, q23_93, q23_96, k_0 hS, z_C hS, r_0_3 hS, k_17 hS, z_17]
    exact hP
  have hc : 0 ≤ w → w ≤ 2 → ¬ w = 0 → ¬ w = 1 → 0 ≤ v → v ≤ 1 → ∀ u, a_at (d + 69) (a_xm a_m23) 88 [some (a_rf C), some (.int w), some (.int v), u] [] (n + 1, t, K, L, I, R) P := fun w0 w2 n0 n1 a b u => by
    have hP := h5 (by clear h0 h1 h2 h3 h4 h5 hr hs hZ hH hT hS; grind) (Int32.not_lt.mpr a) (Int32.not_lt.mpr b)
    simp only [q23_88, q23_89, q23_92, q23_93, k_0 hS, z_C hS, r_0_3 hS, k_17 hS, z_17, as_nil, as_i, as_r, Nat.reduceAdd, Nat.reduceLeDiff, z_eq0, z_eq1, z_or, z_em, Classical.not_not, not_false_eq_true, not_true_eq_false, true_and, and_true, false_and, and_false, and_self, true_implies, false_implies, implies_true, Option.toList_some, Option.toList_none, List.cons_append, List.nil_append, Nat.add_eq_zero_iff, a_nl_i, a_nl_r, a_nl_n, true_or, or_true, eq_self, a_isRA_22, a_isRA_24, a_isRA_32, a_isA_20, ok_4, ok_5, ok_6, ok_7, ok_9, ok_20, ok_21, ok_30, ok_50, ok_180, ok_192, ok_200]
    refine ck_changeScaled hT (fun J g => ?_)
    simp only [q23_96, as_nil, as_i, as_r, Nat.reduceAdd, Nat.reduceLeDiff, z_eq0, z_eq1, z_or, z_em, Classical.not_not, not_false_eq_true, not_true_eq_false, true_and, and_true, false_and, and_false, and_self, true_implies, false_implies, implies_true, Option.toList_some, Option.toList_none, List.cons_append, List.nil_append, Nat.add_eq_zero_iff, a_nl_i, a_nl_r, a_nl_n, true_or, or_true, eq_self, a_isRA_22, a_isRA_24, a_isRA_32, a_isA_20, ok_4, ok_5, ok_6, ok_7, ok_9, ok_20, ok_21, ok_30, ok_50, ok_180, ok_192, ok_200]
    exact hP J g
  have q0 : ∀ {m : Int32}, ¬ v ≤ m → m < v := fun h => Int32.not_le.mp h
  have hr0 : w < 0 → ∀ J, cZ C c (n + 1) K L I R (n + 1) t K L J R → P (some (.int (-2))) (n + 1, t, K, L, J, R) := fun a J z => h0 (fun e => absurd a (Int32.not_lt.mpr e.1)) J z
  have hr0b : ¬ w ≤ 2 → ∀ J, cZ C c (n + 1) K L I R (n + 1) t K L J R → P (some (.int (-2))) (n + 1, t, K, L, J, R) := fun a J z => h0 (fun e => a e.2) J z
  have hr1 : ¬ w < 0 → w ≤ 2 → ¬ 0 ≤ v → ∀ J, cZ C c (n + 1) K L I R (n + 1) t K L J R → P (some (.int (-4))) (n + 1, t, K, L, J, R) := fun a b c1 J z => h1 ⟨Int32.not_lt.mp a, b⟩ (Int32.not_le.mp c1) J z
  have hr2 : ¬ w < 0 → w ≤ 2 → 0 ≤ v → ∀ m : Int32, ¬ v ≤ m → ((w = 0 ∧ m = 3) ∨ (w = 1 ∧ m = 100) ∨ (¬ w = 0 ∧ ¬ w = 1 ∧ m = 1)) → ∀ J, cZ C c (n + 1) K L I R (n + 1) t K L J R → P (some (.int (-6))) (n + 1, t, K, L, J, R) := fun a b c1 m e1 e2 J z => h2 ⟨Int32.not_lt.mp a, b⟩ (Int32.not_lt.mpr c1) (by clear h0 h1 h2 h3 h4 h5 hr hs hc hr0 hr0b hr1 hZ hH hT hS; grind) J z
  rw [a_enter1 (M := a_m23) rfl (a_cat_rf (a_cat_int (a_cat_int a_cat_nil))) (show 3 ≤ 4 by decide)]
  show a_at _ (a_xm a_m23) 0 [some (a_rf C), some (.int w), some (.int v), none] [] _ _
  repeat' first
    | with_reducible apply And.intro
    | with_reducible assumption
    | with_reducible intro _
    | contradiction
    | refine ck_refuse hZ (fun _ _ => ?_)
    | exact hr0 (by assumption) _ (by assumption)
    | exact hr0b (by assumption) _ (by assumption)
    | exact hr1 (by assumption) (by assumption) (by assumption) _ (by assumption)
    | exact hr2 (by assumption) (by assumption) (by assumption) 3 (by assumption) (Or.inl ⟨by assumption, rfl⟩) _ (by assumption)
    | exact hr2 (by assumption) (by assumption) (by assumption) 100 (by assumption) (Or.inr (Or.inl ⟨by assumption, rfl⟩)) _ (by assumption)
    | exact hr2 (by assumption) (by assumption) (by assumption) 1 (by assumption) (Or.inr (Or.inr ⟨by assumption, by assumption, rfl⟩)) _ (by assumption)
    | exact hr (by assumption) (by assumption) (by assumption) _
    | exact hs (by assumption) (by assumption) (by assumption) _
    | exact hc (Int32.not_lt.mp (by assumption)) (by assumption) (by assumption) (by assumption) (by assumption) (by assumption) _
    | simp only [q23_0, q23_1, q23_4, q23_5, q23_6, q23_9, q23_10, q23_12, q23_15, q23_16, q23_17, q23_20, q23_21, q23_23, q23_26, q23_27, q23_28, q23_31, q23_32, q23_35, q23_36, q23_37, q23_40, q23_42, q23_45, q23_46, q23_47, q23_48, q23_49, q23_52, q23_53, q23_55, q23_58, q23_59, q23_60, q23_72, q23_73, q23_74, k_0 hS, z_C hS, as_nil, as_i, as_r, Nat.reduceAdd, Nat.reduceLeDiff, z_eq0, z_eq1, z_or, z_em, Classical.not_not, not_false_eq_true, not_true_eq_false, true_and, and_true, false_and, and_false, and_self, true_implies, false_implies, implies_true, Option.toList_some, Option.toList_none, List.cons_append, List.nil_append, Nat.add_eq_zero_iff, a_nl_i, a_nl_r, a_nl_n, true_or, or_true, eq_self, a_isRA_22, a_isRA_24, a_isRA_32, a_isA_20, ok_4, ok_5, ok_6, ok_7, ok_9, ok_20, ok_21, ok_30, ok_50, ok_180, ok_192, ok_200]
  all_goals ((try clear hr); (try clear hs); (try clear hc); (try clear hr0); (try clear hr0b); (try clear hr1); (try clear hr2); (try clear hgo); (try clear hr); (try clear hs); (try clear hc); (try clear h0); (try clear h1); (try clear h2); (try clear h3); (try clear h4); (try clear h5); (try clear hP); (try clear hZ); (try clear hH); (try clear hT); (try clear hS); grind [ui_ap])
/-- what draft answers -/
def dv (g l m w : Int32) : Int32 := if ¬ ((0 ≤ g ∧ g ≤ 9) ∧ (0 ≤ l ∧ l ≤ 4)) then -1 else if m < 1 ∨ w < 0 then -4 else if 4 < m ∨ 7 < w then -6 else 1
end KQ
section KR
variable {d n t M c : Nat} {K L : Nat → Nat} {I I0 J J0 J1 J2 : Nat → Nat → Int32} {R : Nat → Nat → Nat} {P : Option Value → AH → Prop}
end KR
end
section
/-! bits -/
def bq (x : Int32) (i : Nat) : Bool := x.toBitVec.getLsbD i
theorem bq_ext {x y : Int32} (h : ∀ i, i < 32 → bq x i = bq y i) : x = y := Int32.toBitVec_inj.mp (BitVec.eq_of_getLsbD_eq (fun i hi => h i hi))
theorem bq_or (x y : Int32) (i : Nat) : bq (x ||| y) i = (bq x i || bq y i) := by unfold bq; rw [Int32.toBitVec_or, BitVec.getLsbD_or]
theorem bq_and (x y : Int32) (i : Nat) : bq (x &&& y) i = (bq x i && bq y i) := by unfold bq; rw [Int32.toBitVec_and, BitVec.getLsbD_and]
theorem bq_0 (i : Nat) : bq 0 i = false := BitVec.getLsbD_zero
theorem bq_1 : ∀ i, i < 32 → bq 1 i = decide (i = 0) := by decide +kernel
theorem bq_s : ∀ k, k < 32 → ((Int32.ofNat k &&& 31).toBitVec.smod 32).toNat = k := by decide +kernel
theorem bq_shl {k : Nat} (hk : k < 32) (x : Int32) {i : Nat} (hi : i < 32) : bq (x <<< (Int32.ofNat k &&& 31)) i = (decide (k ≤ i) && bq x (i - k)) := by
  unfold bq
  rw [Int32.toBitVec_shiftLeft]
  show (x.toBitVec <<< ((Int32.ofNat k &&& 31).toBitVec.smod 32).toNat).getLsbD i = _
  rw [bq_s k hk, BitVec.getLsbD_shiftLeft]
  rcases Nat.lt_or_ge i k with h | h
  · simp [h, Nat.not_le.mpr h]
  · simp [hi, h, Nat.not_lt.mpr h]
theorem bq_shr {k : Nat} (hk : k < 32) (x : Int32) {i : Nat} (hi : i < 32) : bq (x >>> (Int32.ofNat k &&& 31)) i = if k + i < 32 then bq x (k + i) else bq x 31 := by
  unfold bq
  rw [Int32.toBitVec_shiftRight]
  show (x.toBitVec.sshiftRight ((Int32.ofNat k &&& 31).toBitVec.smod 32).toNat).getLsbD i = _
  rw [bq_s k hk, BitVec.getLsbD_sshiftRight, BitVec.msb_eq_getLsbD_last]
  simp [hi]
theorem bq_and1 (y : Int32) : y &&& 1 = 0 ↔ bq y 0 = false := by
  constructor
  · intro h
    have e : bq (y &&& 1) 0 = false := by rw [h]; exact bq_0 0
    rw [bq_and, bq_1 0 (by decide)] at e
    simpa using e
  · intro h
    refine bq_ext (fun i hi => ?_)
    rw [bq_and, bq_1 i hi, bq_0]
    by_cases e : i = 0
    · subst e; rw [h]; rfl
    · rw [decide_eq_false e]; simp
/-- the bit that a shift looks at -/
theorem bq_at {k : Nat} (hk : k < 32) (x : Int32) : (x >>> (Int32.ofNat k &&& 31)) &&& 1 = 0 ↔ bq x k = false := by
  rw [bq_and1, bq_shr hk x (by decide), Nat.add_zero, if_pos hk]
/-- a bit that is set -/
theorem bq_set {k i : Nat} (hk : k < 32) (hi : i < 32) (x : Int32) : bq (x ||| ((1 : Int32) <<< (Int32.ofNat k &&& 31))) i = (bq x i || decide (i = k)) := by
  rw [bq_or, bq_shl hk _ hi, bq_1 _ (by omega)]
  by_cases e : i = k
  · subst e; simp
  · by_cases h : k ≤ i
    · rw [decide_eq_false (show ¬ i - k = 0 by omega), decide_eq_false e]; simp
    · rw [decide_eq_false h, decide_eq_false e]; simp
theorem on_cl {x : Int32} (h : 0 ≤ x) : x = Int32.ofNat x.toNatClampNeg := by
  have h0 := Int32.le_iff_toInt_le.mp h
  have c0 : (0 : Int32).toInt = 0 := rfl
  have h1 := Int32.toInt_lt x
  refine Int32.toInt_inj.mp ?_
  rw [Int32.toInt_ofNat', show Int32.size = 4294967296 from rfl]
  show x.toInt = Int.bmod (x.toInt.toNat : Int) 4294967296
  simp only [Int.bmod_def]
  omega
theorem cl_le0 {x y : Int32} (h : 0 ≤ x) (h2 : x ≤ y) : x.toNatClampNeg ≤ y.toNatClampNeg := by
  have h0 := Int32.le_iff_toInt_le.mp h
  have h1 := Int32.le_iff_toInt_le.mp h2
  have c0 : (0 : Int32).toInt = 0 := rfl
  show x.toInt.toNat ≤ y.toInt.toNat
  omega
/-! the class: put, check, kin, just so -/
section KU
variable {d n t C c n0 n' n'' t' : Nat} {K L K0 L0 K' L' K'' L'' : Nat → Nat} {I I0 J J0 J1 J2 : Nat → Nat → Int32} {R R0 R' R'' : Nat → Nat → Nat} {P : Option Value → AH → Prop}
theorem ke_put (hH : cH C c (n + 1) t K L I R) {v : Int32} (h1 : 21 ≤ I C 10 → ∀ J, cZ C c (n + 1) K L I R (n + 1) t K L J R → P (some (.int (-6))) (n + 1, t, K, L, J, R)) (hP : I C 10 < 21 → cT C K L (a_ui (a_ui I (C + 43) (I C 10).toNatClampNeg v) C 10 (I C 10 + 1)) R → P (some (.int (I C 10 + 1))) (n + 1, t, K, L, (a_ui (a_ui I (C + 43) (I C 10).toNatClampNeg v) C 10 (I C 10 + 1)), R)) : a_does (d + 70) 163 [a_rf C, .int v] (n + 1, t, K, L, I, R) P := by
  have hT := hH.1
  have hS := hT.s
  have hZ := cZ_refl hH
  have g := hT.g_row
  have hf : I C 10 < 21 → P (some (.int (I C 10 + 1))) (n + 1, t, K, L, (a_ui (a_ui I (C + 43) (I C 10).toNatClampNeg v) C 10 (I C 10 + 1)), R) := fun h => hP h (sT_BeamHall_rowSize (sT_BeamHall_row hT) (by clear hP h1 hZ hH hT hS; grind))
  have hx := fun (e : 21 ≤ I C 10) => h1 e
  rw [a_enter1 (M := a_m163) rfl (a_cat_rf (a_cat_int a_cat_nil)) (show 2 ≤ 2 by decide)]
  show a_at _ (a_xm a_m163) 0 [some (a_rf C), some (.int v)] [] _ _
  repeat' first
    | with_reducible apply And.intro
    | with_reducible assumption
    | with_reducible intro _
    | refine ck_refuse hZ (fun _ _ => ?_)
    | exact h1 (Int32.not_lt.mp (by assumption)) _ (by assumption)
    | exact h1 (by assumption) _ (by assumption)
    | with_reducible apply hf
    | simp only [q163_0, q163_1, q163_4, q163_6, q163_9, q163_10, q163_12, q163_15, q163_16, q163_17, q163_20, q163_21, q163_24, q163_25, q163_26, q163_27, q163_28, q163_31, q163_32, q163_33, q163_36, q163_37, q163_40, k_0 hS, z_C hS, r_0_9 hS, k_43 hS, l_43 hS, z_43, as_nil, as_i, as_r, Nat.reduceAdd, Nat.reduceLeDiff, z_eq0, z_eq1, z_or, z_em, Classical.not_not, not_false_eq_true, not_true_eq_false, true_and, and_true, false_and, and_false, and_self, true_implies, false_implies, implies_true, Option.toList_some, Option.toList_none, List.cons_append, List.nil_append, Nat.add_eq_zero_iff, a_nl_i, a_nl_r, a_nl_n, true_or, or_true, eq_self, a_isRA_22, a_isRA_24, a_isRA_32, a_isA_20, ok_4, ok_5, ok_6, ok_7, ok_9, ok_20, ok_21, ok_30, ok_50, ok_180, ok_192, ok_200, ui_ap, cc_ne, cc_n0, cc_0n, Nat.reduceEqDiff, reduceIte, if_true, if_false]
  all_goals ((try clear hf); (try clear hx); (try clear h1); (try clear h2); (try clear h3); (try clear h4); (try clear hP); (try clear hZ); (try clear hH); (try clear hT); (try clear hS); grind [ui_ap])
theorem ke_check (hH : cH C c (n + 1) t K L I R) {b a k : Int32} (h1 : ¬ ((0 ≤ b ∧ b < I (C + 14) 5) ∧ (0 ≤ a ∧ a < 200) ∧ a + I C 10 ≤ 200) → ∀ J, cZ C c (n + 1) K L I R (n + 1) t K L J R → P (some (.int (-1))) (n + 1, t, K, L, J, R)) (h2 : ((0 ≤ b ∧ b < I (C + 14) 5) ∧ (0 ≤ a ∧ a < 200) ∧ a + I C 10 ≤ 200) → k < 0 → ∀ J, cZ C c (n + 1) K L I R (n + 1) t K L J R → P (some (.int (-4))) (n + 1, t, K, L, J, R)) (h3 : ((0 ≤ b ∧ b < I (C + 14) 5) ∧ (0 ≤ a ∧ a < 200) ∧ a + I C 10 ≤ 200) → ¬ k < 0 → I (C + 1) 6 < k → ∀ J, cZ C c (n + 1) K L I R (n + 1) t K L J R → P (some (.int (-6))) (n + 1, t, K, L, J, R)) (hP : ((0 ≤ b ∧ b < I (C + 14) 5) ∧ (0 ≤ a ∧ a < 200) ∧ a + I C 10 ≤ 200) → ¬ k < 0 → ¬ I (C + 1) 6 < k → cT C K L (a_ui I C 10 0) R → ∀ v, P (some (.int v)) (n + 1, t, K, L, (a_ui I C 10 0), R)) : a_does (d + 70) 164 [a_rf C, .int b, .int a, .int k] (n + 1, t, K, L, I, R) P := by
  have hT := hH.1
  have hS := hT.s
  have hZ := cZ_refl hH
  have gA := hT.g_asksR
  have gB := hT.g_benchesR
  have gX := hT.g_textsR
  have gb := gB b.toNatClampNeg
  have gbn := hT.g_benches
  have gY := hT.g_benY
  have gy : 0 ≤ b → b < I (C + 14) 5 → ¬ R (C + 16) b.toNatClampNeg = 0 := fun e1 e2 => gY _ (cl_lt e1 e2)
  have hf : ((0 ≤ b ∧ b < I (C + 14) 5) ∧ (0 ≤ a ∧ a < 200) ∧ a + I C 10 ≤ 200) → ¬ k < 0 → ¬ I (C + 1) 6 < k → ∀ v, P (some (.int v)) (n + 1, t, K, L, (a_ui I C 10 0), R) := fun e1 e2 e3 v => hP e1 e2 e3 (sT_BeamHall_rowSize hT (by decide)) v
  have hgo : ((0 ≤ b ∧ b < I (C + 14) 5) ∧ (0 ≤ a ∧ a < 200) ∧ a + I C 10 ≤ 200) → ¬ k < 0 → ¬ I (C + 1) 6 < k → ¬ R (C + 16) b.toNatClampNeg = 0 → ∀ u, a_at (d + 69) (a_xm a_m164) 69 [some (a_rf C), some (.int b), some (.int a), some (.int k), some (a_rf (R (C + 16) b.toNatClampNeg)), u] [] (n + 1, t, K, L, I, R) P := fun e1 e2 e3 h0 u => by
    simp only [q164_69, q164_70, q164_72, q164_73, q164_74, k_0 hS, z_C hS, as_nil, as_i, as_r, Nat.reduceAdd, Nat.reduceLeDiff, z_eq0, z_eq1, z_or, z_em, Classical.not_not, not_false_eq_true, not_true_eq_false, true_and, and_true, false_and, and_false, and_self, true_implies, false_implies, implies_true, Option.toList_some, Option.toList_none, List.cons_append, List.nil_append, Nat.add_eq_zero_iff, a_nl_i, a_nl_r, a_nl_n, true_or, or_true, eq_self, a_isRA_22, a_isRA_24, a_isRA_32, a_isA_20, ok_4, ok_5, ok_6, ok_7, ok_9, ok_20, ok_21, ok_30, ok_50, ok_180, ok_192, ok_200]
    refine ck_firstWrong hT (gb.resolve_left h0) e1.2.1.1 e1.2.2 e1.2.1.2 (fun v => ?_)
    simp only [q164_77, q164_79, q164_80, q164_81, q164_84, q164_86, k_0 hS, z_C hS, as_nil, as_i, as_r, Nat.reduceAdd, Nat.reduceLeDiff, z_eq0, z_eq1, z_or, z_em, Classical.not_not, not_false_eq_true, not_true_eq_false, true_and, and_true, false_and, and_false, and_self, true_implies, false_implies, implies_true, Option.toList_some, Option.toList_none, List.cons_append, List.nil_append, Nat.add_eq_zero_iff, a_nl_i, a_nl_r, a_nl_n, true_or, or_true, eq_self, a_isRA_22, a_isRA_24, a_isRA_32, a_isA_20, ok_4, ok_5, ok_6, ok_7, ok_9, ok_20, ok_21, ok_30, ok_50, ok_180, ok_192, ok_200]
    exact hf e1 e2 e3 v
  rw [a_enter1 (M := a_m164) rfl (a_cat_rf (a_cat_int (a_cat_int (a_cat_int a_cat_nil)))) (show 4 ≤ 6 by decide)]
  show a_at _ (a_xm a_m164) 0 [some (a_rf C), some (.int b), some (.int a), some (.int k), none, none] [] _ _
  repeat' first
    | with_reducible apply And.intro
    | with_reducible assumption
    | with_reducible intro _
    | refine ck_refuse hZ (fun _ _ => ?_)
    | refine h1 ?_ _ (by assumption)
    | refine h2 ?_ ?_ _ (by assumption)
    | refine h3 ?_ ?_ ?_ _ (by assumption)
    | refine hgo ?_ ?_ ?_ ?_ _
    | simp only [q164_0, q164_1, q164_4, q164_5, q164_8, q164_10, q164_12, q164_15, q164_16, q164_19, q164_22, q164_23, q164_24, q164_27, q164_28, q164_31, q164_34, q164_35, q164_36, q164_39, q164_40, q164_41, q164_44, q164_45, q164_47, q164_50, q164_51, q164_52, q164_53, q164_56, q164_59, q164_62, q164_63, q164_65, q164_68, k_0 hS, z_C hS, r_0_4 hS, k_14 hS, z_14, r_0_0 hS, k_1 hS, z_1, sp_benchAt hS gB, sp_isShiftC, as_nil, as_i, as_r, Nat.reduceAdd, Nat.reduceLeDiff, z_eq0, z_eq1, z_or, z_em, Classical.not_not, not_false_eq_true, not_true_eq_false, true_and, and_true, false_and, and_false, and_self, true_implies, false_implies, implies_true, Option.toList_some, Option.toList_none, List.cons_append, List.nil_append, Nat.add_eq_zero_iff, a_nl_i, a_nl_r, a_nl_n, true_or, or_true, eq_self, a_isRA_22, a_isRA_24, a_isRA_32, a_isA_20, ok_4, ok_5, ok_6, ok_7, ok_9, ok_20, ok_21, ok_30, ok_50, ok_180, ok_192, ok_200]
  all_goals ((try clear hgo); (try clear hf); (try clear gY); (try clear gA); (try clear gB); (try clear gX); (try clear gb); (try clear h1); (try clear h2); (try clear h3); (try clear h4); (try clear hP); (try clear hZ); (try clear hH); (try clear hT); (try clear hS); grind [ui_ap])
theorem ke_kin (hH : cH C c (n + 1) t K L I R) {r g : Int32} (h1 : ¬ ((0 ≤ r ∧ r ≤ 5) ∧ (0 ≤ g ∧ g ≤ 9)) → ∀ J, cZ C c (n + 1) K L I R (n + 1) t K L J R → P (some (.int (-1))) (n + 1, t, K, L, J, R)) (hP : (0 ≤ r ∧ r ≤ 5) → (0 ≤ g ∧ g ≤ 9) → cT C K L (a_ui I (C + 18) r.toNatClampNeg ((I (C + 18) r.toNatClampNeg) ||| (1 <<< (g &&& 31)))) R → P (some (.int (if ((I (C + 18) r.toNatClampNeg) >>> (g &&& 31)) &&& 1 = 0 then 1 else 0))) (n + 1, t, K, L, (a_ui I (C + 18) r.toNatClampNeg ((I (C + 18) r.toNatClampNeg) ||| (1 <<< (g &&& 31)))), R)) : a_does (d + 70) 89 [a_rf C, .int r, .int g] (n + 1, t, K, L, I, R) P := by
  have hT := hH.1
  have hS := hT.s
  have hZ := cZ_refl hH
  have hgo : (0 ≤ r ∧ r < 6) → ¬ g < 0 → g < 10 → a_at (d + 69) (a_xm a_m89) 23 [some (a_rf C), some (.int r), some (.int g)] [] (n + 1, t, K, L, I, R) P := fun h2 h3 h4 => by
    have hf := hP ⟨h2.1, by clear hP h1 hZ hH hT hS; grind⟩ ⟨Int32.not_lt.mp h3, by clear hP h1 hZ hH hT hS; grind⟩ (sT_Panel_kin hT)
    simp only [q89_23, q89_24, q89_27, q89_28, q89_29, k_0 hS, z_C hS, r_0_3 hS, k_17 hS, z_17, as_nil, as_i, as_r, Nat.reduceAdd, Nat.reduceLeDiff, z_eq0, z_eq1, z_or, z_em, Classical.not_not, not_false_eq_true, not_true_eq_false, true_and, and_true, false_and, and_false, and_self, true_implies, false_implies, implies_true, Option.toList_some, Option.toList_none, List.cons_append, List.nil_append, Nat.add_eq_zero_iff, a_nl_i, a_nl_r, a_nl_n, true_or, or_true, eq_self, a_isRA_22, a_isRA_24, a_isRA_32, a_isA_20, ok_4, ok_5, ok_6, ok_7, ok_9, ok_20, ok_21, ok_30, ok_50, ok_180, ok_192, ok_200]
    refine ck_tellKin hS h2 ?_
    simp only [q89_32, q89_35, q89_36, q89_39, q89_40, as_nil, as_i, as_r, Nat.reduceAdd, Nat.reduceLeDiff, z_eq0, z_eq1, z_or, z_em, Classical.not_not, not_false_eq_true, not_true_eq_false, true_and, and_true, false_and, and_false, and_self, true_implies, false_implies, implies_true, Option.toList_some, Option.toList_none, List.cons_append, List.nil_append, Nat.add_eq_zero_iff, a_nl_i, a_nl_r, a_nl_n, true_or, or_true, eq_self, a_isRA_22, a_isRA_24, a_isRA_32, a_isA_20, ok_4, ok_5, ok_6, ok_7, ok_9, ok_20, ok_21, ok_30, ok_50, ok_180, ok_192, ok_200]
    by_cases e : ((I (C + 18) r.toNatClampNeg) >>> (g &&& 31)) &&& 1 = 0
    · simp only [e, if_true, not_true_eq_false, false_implies, true_implies, and_true, true_and, implies_true, not_false_eq_true] at hf ⊢
      exact hf
    · simp only [e, if_false, not_true_eq_false, false_implies, true_implies, and_true, true_and, implies_true, not_false_eq_true] at hf ⊢
      exact hf
  have hr0 : r < 0 → ¬ ((0 ≤ r ∧ r ≤ 5) ∧ (0 ≤ g ∧ g ≤ 9)) := fun q e => absurd q (Int32.not_lt.mpr e.1.1)
  rw [a_enter1 (M := a_m89) rfl (a_cat_rf (a_cat_int (a_cat_int a_cat_nil))) (show 3 ≤ 3 by decide)]
  show a_at _ (a_xm a_m89) 0 [some (a_rf C), some (.int r), some (.int g)] [] _ _
  repeat' first
    | with_reducible apply And.intro
    | with_reducible assumption
    | with_reducible intro _
    | refine ck_refuse hZ (fun _ _ => ?_)
    | refine h1 ?_ _ (by assumption)
    | refine hgo ?_ ?_ ?_
    | simp only [q89_0, q89_1, q89_4, q89_7, q89_8, q89_11, q89_12, q89_14, q89_17, q89_18, q89_19, q89_22, k_0 hS, z_C hS, sp_isReaderC, as_nil, as_i, as_r, Nat.reduceAdd, Nat.reduceLeDiff, z_eq0, z_eq1, z_or, z_em, Classical.not_not, not_false_eq_true, not_true_eq_false, true_and, and_true, false_and, and_false, and_self, true_implies, false_implies, implies_true, Option.toList_some, Option.toList_none, List.cons_append, List.nil_append, Nat.add_eq_zero_iff, a_nl_i, a_nl_r, a_nl_n, true_or, or_true, eq_self, a_isRA_22, a_isRA_24, a_isRA_32, a_isA_20, ok_4, ok_5, ok_6, ok_7, ok_9, ok_20, ok_21, ok_30, ok_50, ok_180, ok_192, ok_200]
  all_goals ((try clear hgo); (try clear hr0); (try clear h1); (try clear h2); (try clear h3); (try clear h4); (try clear hP); (try clear hZ); (try clear hH); (try clear hT); (try clear hS); grind [ui_ap])
/-- whether an HOUR lies in a TRIP of z from i on, found by k -/
def lhu (f e g : Nat → Int32) (k h : Int32) : Nat → Nat → Int32
  | 0, _ => 0
  | z + 1, i => if g i ≤ k ∧ f i ≤ h ∧ h ≤ e i then 1 else lhu f e g k h z (i + 1)
theorem lhu_01 {f e g : Nat → Int32} {k h : Int32} : ∀ z i, lhu f e g k h z i = 0 ∨ lhu f e g k h z i = 1 := by
  intro z
  induction z with
  | zero => intro i; exact Or.inl rfl
  | succ z ih =>
    intro i
    unfold lhu
    split
    · exact Or.inr rfl
    · exact ih (i + 1)
theorem lhu_eq {f e g f' e' g' : Nat → Int32} {k h : Int32} : ∀ z i, (∀ j, i ≤ j → j < i + z → ((g j ≤ k ∧ f j ≤ h ∧ h ≤ e j) ↔ (g' j ≤ k ∧ f' j ≤ h ∧ h ≤ e' j))) → lhu f e g k h z i = lhu f' e' g' k h z i := by
  intro z
  induction z with
  | zero => intro i _; rfl
  | succ z ih =>
    intro i hi
    unfold lhu
    simp only [hi i (Nat.le_refl _) (by omega)]
    split
    · rfl
    · exact ih (i + 1) (fun j h1 h2 => hi j (by omega) (by omega))
/-- how many of z HOURS from o on -/
def lsu (q : Int32 → Int32) (o : Int32) : Nat → Int32 → Int32 → Int32
  | 0, _, v => v
  | z + 1, i, v => lsu q o z (i + 1) (v + q (o + i))
def lkC (C : Nat) (I : Nat → Nat → Int32) (k h : Int32) : Int32 := lhu (I (C + 4)) (I (C + 5)) (I (C + 6)) k h (I (C + 1) 5).toNatClampNeg 0
theorem le_isLost_2 (hT : cT C K L I R) {h k : Int32} (hP : P (some (.int (lkC C I k h))) (n, t, K, L, I, R)) : ∀ i : Int32, i ≤ 20 → 0 ≤ i → i ≤ I (C + 1) 5 → lhu (I (C + 4)) (I (C + 5)) (I (C + 6)) k h ((I (C + 1) 5).toNatClampNeg - i.toNatClampNeg) i.toNatClampNeg = lkC C I k h → a_at d (a_xm a_m19) 2 [some (a_rf (C + 1)), some (.int h), some (.int k), some (.int i)] [] (n, t, K, L, I, R) P := by
  have hS := hT.s
  have g := hT.g_trips
  refine up_ind 20 (fun i hk ih => ?_)
  intro q0 q1 q2
  have hend : ¬ i < I (C + 1) 5 → P (some (.int 0)) (n, t, K, L, I, R) := fun e => by
    have : i = I (C + 1) 5 := by clear ih hP hT hS q2; grind
    rw [this, Nat.sub_self] at q2
    rw [show lkC C I k h = 0 from q2.symm] at hP
    exact hP
  have hgo : i < I (C + 1) 5 → ¬ (I (C + 6) i.toNatClampNeg ≤ k ∧ I (C + 4) i.toNatClampNeg ≤ h ∧ h ≤ I (C + 5) i.toNatClampNeg) → a_at d (a_xm a_m19) 2 [some (a_rf (C + 1)), some (.int h), some (.int k), some (.int (i + 1))] [] (n, t, K, L, I, R) P := fun e1 e2 => by
    have ei := cl_lt q0 e1
    have e3 : (i + 1).toNatClampNeg = i.toNatClampNeg + 1 := cl_up q0 (by clear ih hP hT hS q2; grind)
    refine ih (by clear ih hP hT hS q2; grind) (by clear ih hP hT hS q2; grind) (by clear ih hP hT hS q2; grind) ?_
    rw [← q2, e3, show (I (C + 1) 5).toNatClampNeg - i.toNatClampNeg = ((I (C + 1) 5).toNatClampNeg - (i.toNatClampNeg + 1)) + 1 by omega]
    show _ = if _ then _ else _
    rw [if_neg e2]
  have hyes : i < I (C + 1) 5 → I (C + 6) i.toNatClampNeg ≤ k → I (C + 4) i.toNatClampNeg ≤ h → h ≤ I (C + 5) i.toNatClampNeg → P (some (.int 1)) (n, t, K, L, I, R) := fun e1 e2 e3 e4 => by
    have ei := cl_lt q0 e1
    rw [show (I (C + 1) 5).toNatClampNeg - i.toNatClampNeg = ((I (C + 1) 5).toNatClampNeg - (i.toNatClampNeg + 1)) + 1 by omega] at q2
    have : lkC C I k h = 1 := by
      rw [← q2]
      show (if _ then _ else _) = _
      rw [if_pos ⟨e2, e3, e4⟩]
    rw [this] at hP
    exact hP
  clear ih hP q2
  rw [q19_2]
  repeat' first
    | with_reducible apply And.intro
    | with_reducible assumption
    | with_reducible intro _
    | refine hend ?_
    | refine hyes ?_ ?_ ?_ ?_
    | refine hgo ?_ ?_
    | simp only [q19_3, q19_4, q19_7, q19_10, q19_11, q19_14, q19_15, q19_16, q19_17, q19_20, q19_21, q19_22, q19_25, q19_26, q19_27, q19_30, q19_31, q19_32, q19_35, q19_36, q19_37, q19_40, q19_41, q19_42, q19_45, q19_48, q19_49, k_1 hS, z_1, r_1_4 hS, k_6 hS, l_6 hS, z_6, r_1_2 hS, k_4 hS, l_4 hS, z_4, r_1_3 hS, k_5 hS, l_5 hS, z_5, as_nil, as_i, as_r, Nat.reduceAdd, Nat.reduceLeDiff, z_eq0, z_eq1, z_or, z_em, Classical.not_not, not_false_eq_true, not_true_eq_false, true_and, and_true, false_and, and_false, and_self, true_implies, false_implies, implies_true, Option.toList_some, Option.toList_none, List.cons_append, List.nil_append, Nat.add_eq_zero_iff, a_nl_i, a_nl_r, a_nl_n, true_or, or_true, eq_self, a_isRA_22, a_isRA_24, a_isRA_32, a_isA_20, ok_4, ok_5, ok_6, ok_7, ok_9, ok_20, ok_21, ok_30, ok_50, ok_180, ok_192, ok_200]
  all_goals ((try clear hend); (try clear hgo); (try clear hyes); (try clear hT); (try clear hS); grind [ui_ap])
theorem ce_isLost (hT : cT C K L I R) {h k : Int32} (hP : P (some (.int (lkC C I k h))) (n, t, K, L, I, R)) : a_does (d + 1) 19 [a_rf (C + 1), .int h, .int k] (n, t, K, L, I, R) P := by
  have hl := le_isLost_2 (d := d) hT (h := h) (k := k) hP 0 (by decide) (by decide) hT.g_trips.1 rfl
  rw [a_enter1 (M := a_m19) rfl (a_cat_rf (a_cat_int (a_cat_int a_cat_nil))) (show 3 ≤ 4 by decide)]
  show a_at _ (a_xm a_m19) 0 [some (a_rf (C + 1)), some (.int h), some (.int k), none] [] _ _
  repeat' first
    | with_reducible apply And.intro
    | with_reducible assumption
    | with_reducible intro _
    | with_reducible apply hl
    | simp only [q19_0, q19_1, as_nil, as_i, as_r, Nat.reduceAdd, Nat.reduceLeDiff, z_eq0, z_eq1, z_or, z_em, Classical.not_not, not_false_eq_true, not_true_eq_false, true_and, and_true, false_and, and_false, and_self, true_implies, false_implies, implies_true, Option.toList_some, Option.toList_none, List.cons_append, List.nil_append, Nat.add_eq_zero_iff, a_nl_i, a_nl_r, a_nl_n, true_or, or_true, eq_self, a_isRA_22, a_isRA_24, a_isRA_32, a_isA_20, ok_4, ok_5, ok_6, ok_7, ok_9, ok_20, ok_21, ok_30, ok_50, ok_180, ok_192, ok_200]
  all_goals ((try clear ih); (try clear hP); (try clear hl); (try clear hq); (try clear a3); grind [ui_ap])
theorem le_lostAsKnown_5 (hT : cT C K L I R) {s k V : Int32} (hP : P (some (.int V)) (n, t, K, L, I, R)) : ∀ i : Int32, i ≤ 8 → ∀ o, 0 ≤ i → lsu (lkC C I k) (s * 8) (8 - i.toNatClampNeg) i o = V → a_at (d + 1) (a_xm a_m18) 5 [some (a_rf (C + 1)), some (.int s), some (.int k), some (.int o), some (.int i)] [] (n, t, K, L, I, R) P := by
  have hS := hT.s
  refine up_ind 8 (fun i hk ih => ?_)
  intro o q0 q2
  have hend : ¬ i < 8 → P (some (.int o)) (n, t, K, L, I, R) := fun e => by
    have : i = 8 := by clear ih hP hT hS q2; grind
    subst this
    rw [show o = V from q2]
    exact hP
  have hgo : i < 8 → ∀ v, v = o + lkC C I k (s * 8 + i) → a_at (d + 1) (a_xm a_m18) 5 [some (a_rf (C + 1)), some (.int s), some (.int k), some (.int v), some (.int (i + 1))] [] (n, t, K, L, I, R) P := fun e1 v ev => by
    have ei : i.toNatClampNeg < 8 := show _ < (8 : Int32).toNatClampNeg from cl_lt q0 e1
    have e3 : (i + 1).toNatClampNeg = i.toNatClampNeg + 1 := cl_up q0 (by clear ih hP hT hS q2; grind)
    refine ih (by clear ih hP hT hS q2; grind) _ (by clear ih hP hT hS q2; grind) ?_
    rw [← q2, e3, ev, show 8 - i.toNatClampNeg = (8 - (i.toNatClampNeg + 1)) + 1 by omega]
    rfl
  have hcall : i < 8 → a_at (d + 1) (a_xm a_m18) 12 [some (a_rf (C + 1)), some (.int s), some (.int k), some (.int o), some (.int i)] [] (n, t, K, L, I, R) P := fun e1 => by
    simp only [q18_12, q18_13, q18_14, q18_16, q18_17, q18_19, q18_20, q18_21, k_1 hS, z_1, as_nil, as_i, as_r, Nat.reduceAdd, Nat.reduceLeDiff, z_eq0, z_eq1, z_or, z_em, Classical.not_not, not_false_eq_true, not_true_eq_false, true_and, and_true, false_and, and_false, and_self, true_implies, false_implies, implies_true, Option.toList_some, Option.toList_none, List.cons_append, List.nil_append, Nat.add_eq_zero_iff, a_nl_i, a_nl_r, a_nl_n, true_or, or_true, eq_self, a_isRA_22, a_isRA_24, a_isRA_32, a_isA_20, ok_4, ok_5, ok_6, ok_7, ok_9, ok_20, ok_21, ok_30, ok_50, ok_180, ok_192, ok_200]
    refine ce_isLost hT ?_
    have hg := hgo e1
    rcases lhu_01 (f := I (C + 4)) (e := I (C + 5)) (g := I (C + 6)) (k := k) (h := s * 8 + i) (I (C + 1) 5).toNatClampNeg 0 with e | e
    · have e' : lkC C I k (s * 8 + i) = 0 := e
      have hg0 := hg o (by rw [e', Int32.add_zero])
      simp only [q18_24, q18_27, q18_30, q18_33, as_nil, as_i, as_r, Nat.reduceAdd, Nat.reduceLeDiff, z_eq0, z_eq1, z_or, z_em, Classical.not_not, not_false_eq_true, not_true_eq_false, true_and, and_true, false_and, and_false, and_self, true_implies, false_implies, implies_true, Option.toList_some, Option.toList_none, List.cons_append, List.nil_append, Nat.add_eq_zero_iff, a_nl_i, a_nl_r, a_nl_n, true_or, or_true, eq_self, a_isRA_22, a_isRA_24, a_isRA_32, a_isA_20, ok_4, ok_5, ok_6, ok_7, ok_9, ok_20, ok_21, ok_30, ok_50, ok_180, ok_192, ok_200, e']
      first
        | exact hg0
        | exact ⟨fun _ => hg0, fun q => absurd rfl q⟩
    · have e' : lkC C I k (s * 8 + i) = 1 := e
      have hg0 := hg (o + 1) (by rw [e'])
      have n1 : ¬ (1 : Int32) = 0 := by decide
      simp only [q18_24, q18_27, q18_30, q18_33, as_nil, as_i, as_r, Nat.reduceAdd, Nat.reduceLeDiff, z_eq0, z_eq1, z_or, z_em, Classical.not_not, not_false_eq_true, not_true_eq_false, true_and, and_true, false_and, and_false, and_self, true_implies, false_implies, implies_true, Option.toList_some, Option.toList_none, List.cons_append, List.nil_append, Nat.add_eq_zero_iff, a_nl_i, a_nl_r, a_nl_n, true_or, or_true, eq_self, a_isRA_22, a_isRA_24, a_isRA_32, a_isA_20, ok_4, ok_5, ok_6, ok_7, ok_9, ok_20, ok_21, ok_30, ok_50, ok_180, ok_192, ok_200, e', n1]
      first
        | exact hg0
        | exact ⟨fun q => q.elim, fun _ => hg0⟩
        | exact ⟨fun q => absurd q n1, fun _ => hg0⟩
  clear ih hP q2 hgo
  rw [q18_5]
  repeat' first
    | with_reducible apply And.intro
    | with_reducible assumption
    | with_reducible intro _
    | refine hend ?_
    | refine hcall ?_
    | simp only [q18_7, q18_9, q18_36, q18_37, as_nil, as_i, as_r, Nat.reduceAdd, Nat.reduceLeDiff, z_eq0, z_eq1, z_or, z_em, Classical.not_not, not_false_eq_true, not_true_eq_false, true_and, and_true, false_and, and_false, and_self, true_implies, false_implies, implies_true, Option.toList_some, Option.toList_none, List.cons_append, List.nil_append, Nat.add_eq_zero_iff, a_nl_i, a_nl_r, a_nl_n, true_or, or_true, eq_self, a_isRA_22, a_isRA_24, a_isRA_32, a_isA_20, ok_4, ok_5, ok_6, ok_7, ok_9, ok_20, ok_21, ok_30, ok_50, ok_180, ok_192, ok_200]
  all_goals ((try clear hend); (try clear hcall); (try clear hT); (try clear hS); grind [ui_ap])
theorem ce_lostAsKnown (hT : cT C K L I R) {s k : Int32} (hP : P (some (.int (lsu (lkC C I k) (s * 8) 8 0 0))) (n, t, K, L, I, R)) : a_does (d + 2) 18 [a_rf (C + 1), .int s, .int k] (n, t, K, L, I, R) P := by
  have hl := le_lostAsKnown_5 (d := d) hT (s := s) (k := k) hP 0 (by decide) 0 (by decide) rfl
  rw [a_enter1 (M := a_m18) rfl (a_cat_rf (a_cat_int (a_cat_int a_cat_nil))) (show 3 ≤ 5 by decide)]
  show a_at _ (a_xm a_m18) 0 [some (a_rf (C + 1)), some (.int s), some (.int k), none, none] [] _ _
  repeat' first
    | with_reducible apply And.intro
    | with_reducible assumption
    | with_reducible intro _
    | with_reducible apply hl
    | simp only [q18_0, q18_1, q18_2, q18_3, as_nil, as_i, as_r, Nat.reduceAdd, Nat.reduceLeDiff, z_eq0, z_eq1, z_or, z_em, Classical.not_not, not_false_eq_true, not_true_eq_false, true_and, and_true, false_and, and_false, and_self, true_implies, false_implies, implies_true, Option.toList_some, Option.toList_none, List.cons_append, List.nil_append, Nat.add_eq_zero_iff, a_nl_i, a_nl_r, a_nl_n, true_or, or_true, eq_self, a_isRA_22, a_isRA_24, a_isRA_32, a_isA_20, ok_4, ok_5, ok_6, ok_7, ok_9, ok_20, ok_21, ok_30, ok_50, ok_180, ok_192, ok_200]
  all_goals ((try clear ih); (try clear hP); (try clear hl); (try clear hq); (try clear a3); grind [ui_ap])
end KU
/-! the reference: shiftOf, just so -/
section KV
variable {d n t M c : Nat} {K L : Nat → Nat} {I I0 J J0 J1 J2 : Nat → Nat → Int32} {R : Nat → Nat → Nat} {P : Option Value → AH → Prop}
def lkM (M : Nat) (I : Nat → Nat → Int32) (k h : Int32) : Int32 := lhu (I (M + 2)) (fun j => I (M + 2) j + I (M + 3) j - 1) (I (M + 4)) k h (I M 2).toNatClampNeg 0
/-- rows of TRIPS as trip makes them -/
def tpP (M : Nat) (I : Nat → Nat → Int32) : Prop := ∀ j, j < (I M 2).toNatClampNeg → (0 ≤ I (M + 2) j ∧ I (M + 2) j ≤ 1600) ∧ (1 ≤ I (M + 3) j ∧ I (M + 3) j ≤ 60)
theorem le_lostIn_26 (hS : m_S M K L R) (hR : mR M I) (hp : tpP M I) {s k b h : Int32} (hC : ∀ j, a_at d (a_xm a_m177) 96 [some (a_rf M), some (.int s), some (.int k), some (.int b), some (.int h), some (.int (lkM M I k h)), some (.int j)] [] (n, t, K, L, I, R) P) : ∀ j : Int32, j ≤ 20 → ∀ is, 0 ≤ j → j ≤ I M 2 → ((is = 1 ∧ lkM M I k h = 1) ∨ (is = 0 ∧ lhu (I (M + 2)) (fun j => I (M + 2) j + I (M + 3) j - 1) (I (M + 4)) k h ((I M 2).toNatClampNeg - j.toNatClampNeg) j.toNatClampNeg = lkM M I k h)) → a_at d (a_xm a_m177) 26 [some (a_rf M), some (.int s), some (.int k), some (.int b), some (.int h), some (.int is), some (.int j)] [] (n, t, K, L, I, R) P := by
  have g1 := rg_trips hR
  refine up_ind 20 (fun j hj ih => ?_)
  intro is h0 q1 q2
  have hend : ¬ j < I M 2 → a_at d (a_xm a_m177) 96 [some (a_rf M), some (.int s), some (.int k), some (.int b), some (.int h), some (.int is), some (.int j)] [] (n, t, K, L, I, R) P := fun e => by
    have hc := hC j
    have e5 : j = I M 2 := by clear ih hC hc q2; grind
    rcases q2 with q2 | q2
    · rw [q2.2] at hc; rw [q2.1]; exact hc
    · have q3 := q2.2
      rw [e5, Nat.sub_self] at q3
      rw [q2.1, show (0 : Int32) = lkM M I k h from q3]
      exact hc
  have hgo : j < I M 2 → ∀ w, ((w = 1 ∧ (is = 1 ∨ (I (M + 4) j.toNatClampNeg ≤ k ∧ I (M + 2) j.toNatClampNeg ≤ h ∧ h < I (M + 2) j.toNatClampNeg + I (M + 3) j.toNatClampNeg))) ∨ (w = 0 ∧ is = 0 ∧ ¬ (I (M + 4) j.toNatClampNeg ≤ k ∧ I (M + 2) j.toNatClampNeg ≤ h ∧ h < I (M + 2) j.toNatClampNeg + I (M + 3) j.toNatClampNeg))) → a_at d (a_xm a_m177) 26 [some (a_rf M), some (.int s), some (.int k), some (.int b), some (.int h), some (.int w), some (.int (j + 1))] [] (n, t, K, L, I, R) P := fun e1 w hw => by
    have ei := cl_lt h0 e1
    have e3 : (j + 1).toNatClampNeg = j.toNatClampNeg + 1 := cl_up h0 (by clear ih hC q2 hw; grind)
    have tp := hp _ ei
    have el : h < I (M + 2) j.toNatClampNeg + I (M + 3) j.toNatClampNeg ↔ h ≤ I (M + 2) j.toNatClampNeg + I (M + 3) j.toNatClampNeg - 1 := by clear ih hC q2 hw; grind
    rw [el] at hw
    refine ih (by clear ih hC q2 hw; grind) _ (by clear ih hC q2 hw; grind) (by clear ih hC q2 hw; grind) ?_
    rw [show (I M 2).toNatClampNeg - j.toNatClampNeg = ((I M 2).toNatClampNeg - (j.toNatClampNeg + 1)) + 1 by omega] at q2
    rw [e3]
    unfold lhu at q2
    rcases q2 with q2 | q2
    · rcases hw with hw | hw
      · exact Or.inl ⟨hw.1, q2.2⟩
      · rw [q2.1] at hw; exact absurd hw.2.1 (by decide)
    · rcases hw with hw | hw
      · rcases hw.2 with hw2 | hw2
        · rw [q2.1] at hw2; exact absurd hw2 (by decide)
        · rw [if_pos hw2] at q2
          exact Or.inl ⟨hw.1, q2.2.symm⟩
      · rw [if_neg hw.2.2] at q2
        exact Or.inr ⟨hw.1, q2.2⟩
  have is01 : is = 1 ∨ is = 0 := q2.elim (fun q => Or.inl q.1) (fun q => Or.inr q.1)
  clear ih hC q2
  rw [q177_26]
  simp only [q177_0, q177_1, q177_2, q177_4, q177_5, q177_6, q177_10, q177_12, q177_13, q177_14, q177_16, q177_17, q177_20, q177_21, q177_23, q177_24, q177_28, q177_29, q177_32, q177_35, q177_37, q177_40, q177_41, q177_44, q177_46, q177_47, q177_48, q177_51, q177_53, q177_54, q177_57, q177_59, q177_60, q177_63, q177_65, q177_66, q177_69, q177_71, q177_72, q177_73, q177_76, q177_78, q177_79, q177_80, q177_83, q177_84, q177_87, q177_88, q177_90, q177_93, q177_97, q177_99, q177_102, q177_103, q177_106, q177_107, q177_108, q177_109, q177_112, q177_115, q177_116, m_0 hS, m_K hS, mR_tFound hS, mK_tFound hS, mL_tFound hS, mR_tHour hS, mK_tHour hS, mL_tHour hS, mR_tMany hS, mK_tMany hS, mL_tMany hS, as_nil, as_i, as_r, Nat.reduceAdd, Nat.reduceLeDiff, z_eq0, z_eq1, z_or, z_em, Classical.not_not, not_false_eq_true, not_true_eq_false, true_and, and_true, false_and, and_false, and_self, true_implies, false_implies, implies_true, Option.toList_some, Option.toList_none, List.cons_append, List.nil_append, Nat.add_eq_zero_iff, a_nl_i, a_nl_r, a_nl_n, true_or, or_true, eq_self, ok_4, ok_5, ok_6, ok_7, ok_9, ok_10, ok_20, ok_21, ok_24, ok_30, ok_48, ok_50, ok_60, ok_80, ok_120, ok_180, ok_192, ok_200, ok_900, ok_1000, ok_84000]
  clear hp hS hR
  grind
theorem le_lostIn_8 (hS : m_S M K L R) (hR : mR M I) (hp : tpP M I) {s k V : Int32} (hs : 0 ≤ s ∧ s ≤ 199) (hP : P (some (.int V)) (n, t, K, L, I, R)) : ∀ i : Int32, i ≤ 8 → ∀ h b is j, h = 8 * s + i → 0 ≤ i → lsu (lkM M I k) (8 * s) (8 - i.toNatClampNeg) i b = V → a_at d (a_xm a_m177) 8 [some (a_rf M), some (.int s), some (.int k), some (.int b), some (.int h), is, j] [] (n, t, K, L, I, R) P := by
  refine up_ind 8 (fun i hh ih => ?_)
  intro h b is j eh h0 q2
  have hend : ¬ i < 8 → P (some (.int b)) (n, t, K, L, I, R) := fun e => by
    have : i = 8 := by clear ih hP q2; grind
    subst this
    rw [show b = V from q2]
    exact hP
  have hgo : i < 8 → ∀ v j, v = b + lkM M I k h → a_at d (a_xm a_m177) 8 [some (a_rf M), some (.int s), some (.int k), some (.int v), some (.int (h + 1)), some (.int (lkM M I k h)), some (.int j)] [] (n, t, K, L, I, R) P := fun e1 v j ev => by
    have ei : i.toNatClampNeg < 8 := show _ < (8 : Int32).toNatClampNeg from cl_lt h0 e1
    have e3 : (i + 1).toNatClampNeg = i.toNatClampNeg + 1 := cl_up h0 (by clear ih hP q2 ev; grind)
    refine ih (by clear ih hP q2 ev; grind) _ _ _ _ (by rw [eh, Int32.add_assoc]) (by clear ih hP q2 ev; grind) ?_
    rw [← q2, e3, ev, eh, show 8 - i.toNatClampNeg = (8 - (i.toNatClampNeg + 1)) + 1 by omega]
    rfl
  have hC : i < 8 → ∀ j, a_at d (a_xm a_m177) 96 [some (a_rf M), some (.int s), some (.int k), some (.int b), some (.int h), some (.int (lkM M I k h)), some (.int j)] [] (n, t, K, L, I, R) P := fun e1 j => by
    have hg := hgo e1
    rcases lhu_01 (f := I (M + 2)) (e := fun j => I (M + 2) j + I (M + 3) j - 1) (g := I (M + 4)) (k := k) (h := h) (I M 2).toNatClampNeg 0 with e | e
    · have e' : lkM M I k h = 0 := e
      have hg0 := hg b j (by rw [e', Int32.add_zero])
      rw [e'] at hg0 ⊢
      simp only [q177_96, q177_97, q177_99, q177_102, q177_103, q177_106, q177_107, q177_108, q177_109, q177_112, as_nil, as_i, as_r, Nat.reduceAdd, Nat.reduceLeDiff, z_eq0, z_eq1, z_or, z_em, Classical.not_not, not_false_eq_true, not_true_eq_false, true_and, and_true, false_and, and_false, and_self, true_implies, false_implies, implies_true, Option.toList_some, Option.toList_none, List.cons_append, List.nil_append, Nat.add_eq_zero_iff, a_nl_i, a_nl_r, a_nl_n, true_or, or_true, eq_self, ok_4, ok_5, ok_6, ok_7, ok_9, ok_10, ok_20, ok_21, ok_24, ok_30, ok_48, ok_50, ok_60, ok_80, ok_120, ok_180, ok_192, ok_200, ok_900, ok_1000, ok_84000, Int32.add_zero]
      first
        | exact hg0
        | exact ⟨fun _ => hg0, fun q => absurd rfl q⟩
    · have e' : lkM M I k h = 1 := e
      have hg0 := hg (b + 1) j (by rw [e'])
      have n1 : ¬ (1 : Int32) = 0 := by decide
      rw [e'] at hg0 ⊢
      simp only [q177_96, q177_97, q177_99, q177_102, q177_103, q177_106, q177_107, q177_108, q177_109, q177_112, as_nil, as_i, as_r, Nat.reduceAdd, Nat.reduceLeDiff, z_eq0, z_eq1, z_or, z_em, Classical.not_not, not_false_eq_true, not_true_eq_false, true_and, and_true, false_and, and_false, and_self, true_implies, false_implies, implies_true, Option.toList_some, Option.toList_none, List.cons_append, List.nil_append, Nat.add_eq_zero_iff, a_nl_i, a_nl_r, a_nl_n, true_or, or_true, eq_self, ok_4, ok_5, ok_6, ok_7, ok_9, ok_10, ok_20, ok_21, ok_24, ok_30, ok_48, ok_50, ok_60, ok_80, ok_120, ok_180, ok_192, ok_200, ok_900, ok_1000, ok_84000, n1]
      first
        | exact hg0
        | exact ⟨fun q => q.elim, fun _ => hg0⟩
        | exact ⟨fun q => absurd q n1, fun _ => hg0⟩
  have hin : i < 8 → a_at d (a_xm a_m177) 26 [some (a_rf M), some (.int s), some (.int k), some (.int b), some (.int h), some (.int 0), some (.int 0)] [] (n, t, K, L, I, R) P := fun e1 => le_lostIn_26 hS hR hp (hC e1) 0 (by decide) 0 (by decide) (rg_trips hR).1 (Or.inr ⟨rfl, rfl⟩)
  have hlt : 8 * s + 8 ≤ h ↔ ¬ i < 8 := by clear ih hP q2 hend hgo hC hin; grind
  clear ih hP q2 hgo hC
  rw [q177_8]
  simp only [q177_10, q177_12, q177_13, q177_14, q177_16, q177_17, q177_20, q177_21, q177_23, q177_24, q177_115, q177_116, as_nil, as_i, as_r, Nat.reduceAdd, Nat.reduceLeDiff, z_eq0, z_eq1, z_or, z_em, Classical.not_not, not_false_eq_true, not_true_eq_false, true_and, and_true, false_and, and_false, and_self, true_implies, false_implies, implies_true, Option.toList_some, Option.toList_none, List.cons_append, List.nil_append, Nat.add_eq_zero_iff, a_nl_i, a_nl_r, a_nl_n, true_or, or_true, eq_self, ok_4, ok_5, ok_6, ok_7, ok_9, ok_10, ok_20, ok_21, ok_24, ok_30, ok_48, ok_50, ok_60, ok_80, ok_120, ok_180, ok_192, ok_200, ok_900, ok_1000, ok_84000, hlt]
  clear hp hS hR
  grind
theorem ce_lostIn (hS : m_S M K L R) (hR : mR M I) (hp : tpP M I) {s k : Int32} (hs : 0 ≤ s ∧ s ≤ 199) (hP : P (some (.int (lsu (lkM M I k) (8 * s) 8 0 0))) (n, t, K, L, I, R)) : a_does (d + 1) 177 [a_rf M, .int s, .int k] (n, t, K, L, I, R) P := by
  have hl := le_lostIn_8 (d := d) hS hR hp hs hP 0 (by decide) (8 * s) 0 none none (by rw [Int32.add_zero]) (by decide) rfl
  rw [a_enter1 (M := a_m177) rfl (a_cat_rf (a_cat_int (a_cat_int a_cat_nil))) (show 3 ≤ 7 by decide)]
  show a_at _ (a_xm a_m177) 0 [some (a_rf M), some (.int s), some (.int k), none, none, none, none] [] _ _
  repeat' first
    | with_reducible apply And.intro
    | with_reducible assumption
    | with_reducible intro _
    | with_reducible apply hl
    | simp only [q177_0, q177_1, q177_2, q177_4, q177_5, q177_6, as_nil, as_i, as_r, Nat.reduceAdd, Nat.reduceLeDiff, z_eq0, z_eq1, z_or, z_em, Classical.not_not, not_false_eq_true, not_true_eq_false, true_and, and_true, false_and, and_false, and_self, true_implies, false_implies, implies_true, Option.toList_some, Option.toList_none, List.cons_append, List.nil_append, Nat.add_eq_zero_iff, a_nl_i, a_nl_r, a_nl_n, true_or, or_true, eq_self, ok_4, ok_5, ok_6, ok_7, ok_9, ok_10, ok_20, ok_21, ok_24, ok_30, ok_48, ok_50, ok_60, ok_80, ok_120, ok_180, ok_192, ok_200, ok_900, ok_1000, ok_84000]
  all_goals grind [ui_ap]
end KV
end
section
/-! what a TEXT says: its reading, as a function of its bytes f up to e from the place a on -/
/-- stands, the place behind (or of the FAULT), what it comes to by the facts -/
abbrev rdT : Type := Bool × Int32 × ((Nat → Int32) → Int32)
def xft (c : Int32) : Int32 := if c = 107 then 0 else if c = 103 then 1 else if c = 108 then 2 else if c = 110 then 3 else if c = 100 then 4 else if c = 109 then 5 else if c = 115 then 6 else if c = 98 then 7 else if c = 116 then 8 else -9
theorem xft_r (c : Int32) : xft c = -9 ∨ (0 ≤ xft c ∧ xft c ≤ 8) := by
  unfold xft
  grind (splits := 60)
theorem xft_9 : xft (-9) = -9 := by decide
def xdg (f : Nat → Int32) (e : Int32) : Nat → Int32 → Int32 → Int32 × Int32
  | 0, a, v => (a, v)
  | k + 1, a, v => if a < e ∧ 48 ≤ f a.toNatClampNeg ∧ f a.toNatClampNeg ≤ 57 then xdg f e k (a + 1) (v * 10 + f a.toNatClampNeg - 48) else (a, v)
def xU (f : Nat → Int32) (e a : Int32) : rdT :=
  if a < e ∧ ¬ xft (f a.toNatClampNeg) = -9 then (true, a + 1, fun fc => fc (xft (f a.toNatClampNeg)).toNatClampNeg)
  else if a < e ∧ 48 ≤ f a.toNatClampNeg ∧ f a.toNatClampNeg ≤ 57 then (true, (xdg f e 3 a 0).1, fun _ => (xdg f e 3 a 0).2)
  else (false, a, fun _ => 0)
def xar (c x y : Int32) : Int32 := if c = 43 then x + y else if c = 45 then x - y else x * y
def xcmp (c x y : Int32) : Int32 := if c = 60 then (if x < y then 1 else 0) else if c = 61 then (if x = y then 1 else 0) else (if y < x then 1 else 0)
/-- at a sign of a row of three -/
abbrev i3 (f : Nat → Int32) (e a x y z : Int32) : Prop := a < e ∧ (f a.toNatClampNeg = x ∨ f a.toNatClampNeg = y ∨ f a.toNatClampNeg = z)
def xsu (f : Nat → Int32) (e : Int32) : Nat → rdT → rdT
  | 0, r => r
  | k + 1, r => if r.1 = true ∧ i3 f e r.2.1 43 45 42 then xsu f e k ((xU f e (r.2.1 + 1)).1, (xU f e (r.2.1 + 1)).2.1, fun fc => xar (f r.2.1.toNatClampNeg) (r.2.2 fc) ((xU f e (r.2.1 + 1)).2.2 fc)) else r
def xS (f : Nat → Int32) (e a : Int32) : rdT := xsu f e 50 (xU f e a)
def xC (f : Nat → Int32) (e a : Int32) : rdT :=
  if (xS f e a).1 = true then
    (if i3 f e (xS f e a).2.1 60 61 62 then ((xS f e ((xS f e a).2.1 + 1)).1, (xS f e ((xS f e a).2.1 + 1)).2.1, fun fc => xcmp (f (xS f e a).2.1.toNatClampNeg) ((xS f e a).2.2 fc) ((xS f e ((xS f e a).2.1 + 1)).2.2 fc))
     else (false, (xS f e a).2.1, fun _ => 0))
  else (false, (xS f e a).2.1, fun _ => 0)
/-- what stands there and is joined by a sign, from the left on -/
def xlo (f : Nat → Int32) (e : Int32) (q : Int32 → rdT) (c : Int32) (op : Int32 → Int32 → Int32) : Nat → rdT → rdT
  | 0, r => r
  | k + 1, r => if r.1 = true ∧ r.2.1 < e ∧ f r.2.1.toNatClampNeg = c then xlo f e q c op k ((q (r.2.1 + 1)).1, (q (r.2.1 + 1)).2.1, fun fc => op (r.2.2 fc) ((q (r.2.1 + 1)).2.2 fc)) else r
def sgY (y : Nat) : Int32 := if y = 3 then 47 else if y = 2 then 124 else 38
def opY (y : Nat) (a b : Int32) : Int32 := if y = 3 then a &&& (1 - b) else if y = 2 then a ||| b else a &&& b
/-- y levels above what q reads -/
def xjo (f : Nat → Int32) (e : Int32) (q : Int32 → rdT) : Nat → Int32 → rdT
  | 0, a => q a
  | y + 1, a => xlo f e (xjo f e q y) (sgY (y + 1)) (opY (y + 1)) 50 (xjo f e q y a)
/-- a PART, z deep at most -/
def xP (f : Nat → Int32) (e : Int32) : Nat → Int32 → rdT
  | 0, a => if a < e ∧ (f a.toNatClampNeg = 33 ∨ f a.toNatClampNeg = 40) then (false, a, fun _ => 0) else xC f e a
  | z + 1, a => if a < e ∧ f a.toNatClampNeg = 40 then
      (if (xjo f e (xP f e z) 3 (a + 1)).1 = true then
        (if (xjo f e (xP f e z) 3 (a + 1)).2.1 < e ∧ f (xjo f e (xP f e z) 3 (a + 1)).2.1.toNatClampNeg = 41 then (true, (xjo f e (xP f e z) 3 (a + 1)).2.1 + 1, (xjo f e (xP f e z) 3 (a + 1)).2.2) else (false, (xjo f e (xP f e z) 3 (a + 1)).2.1, fun _ => 0))
       else (false, (xjo f e (xP f e z) 3 (a + 1)).2.1, fun _ => 0))
    else if a < e ∧ f a.toNatClampNeg = 33 then ((xP f e z (a + 1)).1, (xP f e z (a + 1)).2.1, fun fc => 1 - (xP f e z (a + 1)).2.2 fc)
    else xC f e a
def xR (f : Nat → Int32) (e : Int32) (a : Int32) : rdT := xjo f e (xP f e 4) 3 a
/-- a whole TEXT: whether it stands, and the place of its FAULT -/
def xT (f : Nat → Int32) (e : Int32) : rdT :=
  if 0 < e ∧ (f 0 = 66 ∨ f 0 = 87 ∨ f 0 = 79) then
    (if 1 < e ∧ f 1 = 58 then
      (if (if f 0 = 79 then xS f e 2 else xR f e 2).2.1 = e then (if f 0 = 79 then xS f e 2 else xR f e 2) else (false, (if f 0 = 79 then xS f e 2 else xR f e 2).2.1, (if f 0 = 79 then xS f e 2 else xR f e 2).2.2))
     else (false, 1, fun _ => 0))
  else (false, 0, fun _ => 0)

section KW
variable {f : Nat → Int32} {e : Int32}
/-- where a reading ends -/
def xB (e a : Int32) (r : rdT) : Prop := a ≤ r.2.1 ∧ r.2.1 ≤ e ∧ (r.1 = true → a < r.2.1)
theorem xdg_b : ∀ (k : Nat) (a v : Int32), a ≤ e → a ≤ (xdg f e k a v).1 ∧ (xdg f e k a v).1 ≤ e := by
  intro k
  induction k with
  | zero => intro a v h; exact ⟨Int32.le_refl a, h⟩
  | succ k ih =>
    intro a v h
    unfold xdg
    split
    · rename_i q
      have := ih (a + 1) (v * 10 + f a.toNatClampNeg - 48) (by grind)
      refine ⟨?_, this.2⟩
      have h1 := this.1
      clear ih this
      grind
    · exact ⟨Int32.le_refl a, h⟩
theorem xU_b {a : Int32} (h : a ≤ e) : xB e a (xU f e a) := by
  unfold xU xB
  split
  · rename_i q
    refine ⟨?_, ?_, fun _ => ?_⟩ <;> (show _; have := q.1; clear q; dsimp only; grind)
  · split
    · rename_i q
      have e1 : xdg f e 3 a 0 = xdg f e 2 (a + 1) (0 * 10 + f a.toNatClampNeg - 48) := by
        conv => lhs; unfold xdg
        rw [if_pos q]
      have q1 := q.1
      have := xdg_b (f := f) (e := e) 2 (a + 1) (0 * 10 + f a.toNatClampNeg - 48) (by clear q; grind)
      rw [← e1] at this
      have t1 := this.1
      have t2 := this.2
      clear this q e1
      refine ⟨?_, t2, fun _ => ?_⟩ <;> (dsimp only; grind)
    · exact ⟨Int32.le_refl a, h, fun q => absurd q Bool.false_ne_true⟩
theorem xsu_b {a : Int32} : ∀ (k : Nat) (r : rdT), xB e a r → xB e a (xsu f e k r) := by
  intro k
  induction k with
  | zero => intro r h; exact h
  | succ k ih =>
    intro r h
    unfold xsu
    split
    · rename_i q
      have hu := xU_b (f := f) (e := e) (a := r.2.1 + 1) (by have := q.2.1; clear ih q h; grind)
      refine ih _ ?_
      have q1 := q.2.1
      obtain ⟨h1, h2, h3⟩ := h
      have h4 := h3 q.1
      obtain ⟨u1, u2, u3⟩ := hu
      refine ⟨?_, u2, fun _ => ?_⟩ <;> (dsimp only; clear ih q h3 u3; grind)
    · exact h
theorem xS_b {a : Int32} (h : a ≤ e) : xB e a (xS f e a) := xsu_b 50 _ (xU_b h)
theorem xC_b {a : Int32} (h : a ≤ e) : xB e a (xC f e a) := by
  have h1 := xS_b (f := f) h
  unfold xC
  generalize xS f e a = r at h1 ⊢
  split
  · rename_i q
    split
    · rename_i q2
      have h2 := xS_b (f := f) (e := e) (a := r.2.1 + 1) (by have := q2.1; clear q q2 h1 h; grind)
      generalize xS f e (r.2.1 + 1) = u at h2 ⊢
      have q1 := q2.1
      obtain ⟨p1, p2, p3⟩ := h1
      have p4 := p3 q
      obtain ⟨u1, u2, u3⟩ := h2
      refine ⟨?_, u2, fun _ => ?_⟩ <;> (dsimp only; clear q q2 p3 u3; grind)
    · exact ⟨h1.1, h1.2.1, fun q => absurd q Bool.false_ne_true⟩
  · exact ⟨h1.1, h1.2.1, fun q => absurd q Bool.false_ne_true⟩
theorem xlo_b {q : Int32 → rdT} (hq : ∀ a, a ≤ e → xB e a (q a)) {c : Int32} {op : Int32 → Int32 → Int32} {a : Int32} : ∀ (k : Nat) (r : rdT), xB e a r → xB e a (xlo f e q c op k r) := by
  intro k
  induction k with
  | zero => intro r h; exact h
  | succ k ih =>
    intro r h
    unfold xlo
    split
    · rename_i w
      have hu := hq (r.2.1 + 1) (by have := w.2.1; clear ih w h hq; grind)
      refine ih _ ?_
      have q1 := w.2.1
      obtain ⟨h1, h2, h3⟩ := h
      have h4 := h3 w.1
      obtain ⟨u1, u2, u3⟩ := hu
      refine ⟨?_, u2, fun _ => ?_⟩ <;> (dsimp only; clear ih w h3 u3 hq; grind)
    · exact h
theorem xjo_b {q : Int32 → rdT} (hq : ∀ a, a ≤ e → xB e a (q a)) : ∀ (y : Nat) (a : Int32), a ≤ e → xB e a (xjo f e q y a) := by
  intro y
  induction y with
  | zero => exact hq
  | succ y ih =>
    intro a h
    exact xlo_b ih 50 _ (ih a h)
theorem xP_b : ∀ (z : Nat) (a : Int32), a ≤ e → xB e a (xP f e z a) := by
  intro z
  induction z with
  | zero =>
    intro a h
    unfold xP
    split
    · exact ⟨Int32.le_refl a, h, fun q => absurd q Bool.false_ne_true⟩
    · exact xC_b h
  | succ z ih =>
    intro a h
    unfold xP
    split
    · rename_i q
      have hj := xjo_b (f := f) ih 3 (a + 1) (by have := q.1; clear ih q; grind)
      have q1 := q.1
      generalize xjo f e (xP f e z) 3 (a + 1) = r at hj ⊢
      obtain ⟨h1, h2, h3⟩ := hj
      split
      · split
        · rename_i w
          have w1 := w.1
          refine ⟨?_, ?_, fun _ => ?_⟩ <;> (dsimp only; clear ih q h3 w; grind)
        · refine ⟨?_, h2, fun q => absurd q Bool.false_ne_true⟩
          dsimp only; clear ih q h3; grind
      · refine ⟨?_, h2, fun q => absurd q Bool.false_ne_true⟩
        dsimp only; clear ih q h3; grind
    · split
      · rename_i q
        have hj := ih (a + 1) (by have := q.1; clear ih q; grind)
        have q1 := q.1
        generalize xP f e z (a + 1) = r at hj ⊢
        obtain ⟨h1, h2, h3⟩ := hj
        refine ⟨?_, h2, fun _ => ?_⟩ <;> (dsimp only; clear ih q h3; grind)
      · exact xC_b h
end KW
/-! the class's code: from i up to i' it comes to v -/
def evK (cd fc : Nat → Int32) (i i' v : Int32) : Prop := (0 ≤ i ∧ i < i' ∧ i' ≤ 50) ∧ ∀ (cd' : Nat → Int32) (ln : Int32) (k : Nat) (o : Int32) (s : Nat → Int32), (∀ j, i.toNatClampNeg ≤ j → j < i'.toNatClampNeg → cd' j = cd j) → i' ≤ ln → 0 ≤ o → o ≤ i → vs cd' fc ln (k + (i'.toNatClampNeg - i.toNatClampNeg)) i o s = vs cd' fc ln k i' (o + 1) (up1 s o.toNatClampNeg v)
section KX
variable {cd fc : Nat → Int32}
theorem vs_s {ln : Int32} {k : Nat} {i o : Int32} {s : Nat → Int32} : vs cd fc ln (k + 1) i o s = if ln ≤ i then (if o ≤ 0 then 0 else s 0) else
    if cd i.toNatClampNeg = 2009 then (if o ≤ 0 then vs cd fc ln k (i + 1) o s else vs cd fc ln k (i + 1) o (up1 s (o - 1).toNatClampNeg (1 - s (o - 1).toNatClampNeg)))
    else if cd i.toNatClampNeg < 2000 then (if 50 ≤ o then vs cd fc ln k (i + 1) o s else vs cd fc ln k (i + 1) (o + 1) (up1 s o.toNatClampNeg (if 0 ≤ cd i.toNatClampNeg - 1000 ∧ cd i.toNatClampNeg - 1000 < 9 then fc (cd i.toNatClampNeg - 1000).toNatClampNeg else cd i.toNatClampNeg)))
    else if o ≤ 1 then vs cd fc ln k (i + 1) o s else vs cd fc ln k (i + 1) (o + (-1)) (up1 s (o + (-1) - 1).toNatClampNeg (jn (cd i.toNatClampNeg) (s (o + (-1) - 1).toNatClampNeg) (s (o + (-1)).toNatClampNeg))) := rfl
theorem up1_eq {s : Nat → Int32} {k : Nat} {v : Int32} : up1 s k v k = v := if_pos rfl
theorem up1_ne {s : Nat → Int32} {k j : Nat} {v : Int32} (h : ¬ j = k) : up1 s k v j = s j := if_neg h
theorem evK_congr {cd' : Nat → Int32} {i i' v : Int32} (h : evK cd fc i i' v) (hc : ∀ j, i.toNatClampNeg ≤ j → j < i'.toNatClampNeg → cd' j = cd j) : evK cd' fc i i' v := ⟨h.1, fun cd2 ln k o s h2 => h.2 cd2 ln k o s (fun j p q => (h2 j p q).trans (hc j p q))⟩
theorem evK_one {i g v : Int32} (h0 : 0 ≤ i) (h1 : i < 50) (hg : cd i.toNatClampNeg = g) (n9 : ¬ g = 2009) (l2 : g < 2000) (hv : v = if 0 ≤ g - 1000 ∧ g - 1000 < 9 then fc (g - 1000).toNatClampNeg else g) : evK cd fc i (i + 1) v := by
  have e1 : (i + 1).toNatClampNeg = i.toNatClampNeg + 1 := cl_up h0 (by grind)
  refine ⟨by grind, fun cd' ln k o s hc hl o0 oi => ?_⟩
  rw [show k + ((i + 1).toNatClampNeg - i.toNatClampNeg) = k + 1 by omega, vs_s, if_neg (by grind), hc _ (Nat.le_refl _) (by omega), hg, if_neg n9, if_pos l2, if_neg (by grind), hv]
theorem evK_bin {i i1 i2 g v w : Int32} (h1 : evK cd fc i i1 v) (h2 : evK cd fc i1 i2 w) (h50 : i2 < 50) (hg : cd i2.toNatClampNeg = g) (n9 : ¬ g = 2009) (l2 : ¬ g < 2000) : evK cd fc i (i2 + 1) (jn g v w) := by
  obtain ⟨⟨a0, a1, a2⟩, p1⟩ := h1
  obtain ⟨⟨b0, b1, b2⟩, p2⟩ := h2
  have e1 : (i2 + 1).toNatClampNeg = i2.toNatClampNeg + 1 := cl_up (by grind) (by grind)
  have l1 := cl_lt a0 a1
  have l3 := cl_lt b0 b1
  refine ⟨⟨a0, by grind, by grind⟩, fun cd' ln k o s hc hl o0 oi => ?_⟩
  rw [show k + ((i2 + 1).toNatClampNeg - i.toNatClampNeg) = (k + 1 + (i2.toNatClampNeg - i1.toNatClampNeg)) + (i1.toNatClampNeg - i.toNatClampNeg) by omega]
  rw [p1 cd' ln _ o s (fun j x y => hc j x (by omega)) (by grind) o0 oi]
  rw [p2 cd' ln _ (o + 1) _ (fun j x y => hc j (by omega) (by omega)) (by grind) (by grind) (by grind)]
  have ea : o + 1 + 1 + (-1) = o + 1 := by grind
  have eb : o + 1 - 1 = o := by grind
  have ne : ¬ o.toNatClampNeg = (o + 1).toNatClampNeg := cl_ne o0 (by grind)
  rw [vs_s, if_neg (by grind), hc _ (by omega) (by omega), hg, if_neg n9, if_neg l2, if_neg (by grind), ea, eb, up1_eq, up1_ne ne, up1_eq]
  refine vs_eq k (i2 + 1) (o + 1) _ _ (by grind) (by grind) (fun j x y => ?_)
  by_cases hj : j = o
  · subst hj
    rw [up1_eq, up1_eq]
  · have h3 : ¬ j.toNatClampNeg = o.toNatClampNeg := fun q => hj (cl_inj x o0 q)
    have h4 : ¬ j.toNatClampNeg = (o + 1).toNatClampNeg := cl_ne x y
    rw [up1_ne h3, up1_ne h4, up1_ne h3, up1_ne h3]
theorem evK_not {i i1 v : Int32} (h1 : evK cd fc i i1 v) (h50 : i1 < 50) (hg : cd i1.toNatClampNeg = 2009) : evK cd fc i (i1 + 1) (1 - v) := by
  obtain ⟨⟨a0, a1, a2⟩, p1⟩ := h1
  have e1 : (i1 + 1).toNatClampNeg = i1.toNatClampNeg + 1 := cl_up (by grind) (by grind)
  have l1 := cl_lt a0 a1
  refine ⟨⟨a0, by grind, by grind⟩, fun cd' ln k o s hc hl o0 oi => ?_⟩
  rw [show k + ((i1 + 1).toNatClampNeg - i.toNatClampNeg) = (k + 1) + (i1.toNatClampNeg - i.toNatClampNeg) by omega]
  rw [p1 cd' ln _ o s (fun j x y => hc j x (by omega)) (by grind) o0 oi]
  have eb : o + 1 - 1 = o := by grind
  rw [vs_s, if_neg (by grind), hc _ (by omega) (by omega), hg, if_pos rfl, if_neg (by grind), eb, up1_eq]
  refine vs_eq k (i1 + 1) (o + 1) _ _ (by grind) (by grind) (fun j x y => ?_)
  by_cases hj : j = o
  · subst hj
    rw [up1_eq, up1_eq]
  · have h3 : ¬ j.toNatClampNeg = o.toNatClampNeg := fun q => hj (cl_inj x o0 q)
    rw [up1_ne h3, up1_ne h3, up1_ne h3]
theorem jn_ar {c x y : Int32} (h : c = 43 ∨ c = 45 ∨ c = 42) : jn (if c = 43 then 2000 else if c = 45 then 2000 + 1 else if c = 42 then 2000 + 2 else -9) x y = xar c x y := by
  rcases h with rfl | rfl | rfl <;> rfl
theorem jn_cmp {c x y : Int32} (h : c = 60 ∨ c = 61 ∨ c = 62) : jn (if c = 60 then 2003 else if c = 61 then 2003 + 1 else if c = 62 then 2003 + 2 else -9) x y = xcmp c x y := by
  rcases h with rfl | rfl | rfl
  · rw [show (if (60 : Int32) = 60 then (2003 : Int32) else if (60 : Int32) = 61 then 2003 + 1 else if (60 : Int32) = 62 then 2003 + 2 else -9) = 2003 by decide]
    unfold jn xcmp
    rw [show (2003 : Int32).toInt = 2003 from rfl, if_neg (by decide), if_neg (by decide), if_neg (by decide), if_pos rfl, if_pos rfl]
  · rw [show (if (61 : Int32) = 60 then (2003 : Int32) else if (61 : Int32) = 61 then 2003 + 1 else if (61 : Int32) = 62 then 2003 + 2 else -9) = 2004 by decide]
    unfold jn xcmp
    rw [show (2004 : Int32).toInt = 2004 from rfl, if_neg (by decide), if_neg (by decide), if_neg (by decide), if_neg (by decide), if_pos rfl, if_neg (show ¬ (61 : Int32) = 60 by decide), if_pos rfl]
  · rw [show (if (62 : Int32) = 60 then (2003 : Int32) else if (62 : Int32) = 61 then 2003 + 1 else if (62 : Int32) = 62 then 2003 + 2 else -9) = 2005 by decide]
    unfold jn xcmp
    rw [show (2005 : Int32).toInt = 2005 from rfl, if_neg (by decide), if_neg (by decide), if_neg (by decide), if_neg (by decide), if_neg (by decide), if_pos rfl, if_neg (show ¬ (62 : Int32) = 60 by decide), if_neg (show ¬ (62 : Int32) = 61 by decide)]
end KX
end

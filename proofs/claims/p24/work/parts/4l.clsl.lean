/-! the class: what else the law calls -/
/-- the cells that rows compare, and the reference's -/
def kA (C : Nat) (K : Nat → Nat) (n x j : Nat) : Prop := (x < n ∧ C + 96 < x ∧ K x = 11) ∨ (C + 44 ≤ x ∧ x ≤ C + 96) ∨ x = C + 2 ∨ (x = C + 1 ∧ (j = 5 ∨ j = 6)) ∨ (x = C + 14 ∧ (j = 5 ∨ j = 6)) ∨ (x = C + 22 ∧ j = 8) ∨ (x = C + 17 ∧ j = 5) ∨ x = C + 18 ∨ (x = C ∧ j = 10) ∨ x = C + 4 ∨ x = C + 5 ∨ x = C + 6 ∨ x = C + 12 ∨ (x = C + 11 ∧ j = 2) ∨ (x = C + 7 ∧ j = 3)
def dW (C n : Nat) (K L : Nat → Nat) (I : Nat → Nat → Int32) (R : Nat → Nat → Nat) (n' : Nat) (K' L' : Nat → Nat) (J : Nat → Nat → Int32) (R' : Nat → Nat → Nat) (O : Nat → Nat → Prop) : Prop := n ≤ n' ∧ (∀ x, x < n → K' x = K x) ∧ (∀ x, x < n → L' x = L x) ∧ (∀ x j, (x = C + 8 ∨ C + 44 ≤ x) → x ≤ C + 96 → R' x j = R x j) ∧ (∀ x j, kA C K n x j → ¬ O x j → J x j = I x j)
section KN
variable {d n t C c n0 n' n'' t' : Nat} {K L K0 L0 K' L' K'' L'' : Nat → Nat} {I I0 J J0 J1 J2 : Nat → Nat → Int32} {R R0 R' R'' : Nat → Nat → Nat} {P : Option Value → AH → Prop}
theorem kA_eD {x j : Nat} (p : kA C K n x j) : eD C K x j := by
  unfold kA at p
  unfold eD
  rcases p with q | q | q | q | q | q | q | q | q | q | q | q | q | q | q
  · exact Or.inr (Or.inr (Or.inr (Or.inr (Or.inr (Or.inr (Or.inr (Or.inr (Or.inr (Or.inr (Or.inr (Or.inr (Or.inr (Or.inr (Or.inr (Or.inr (Or.inr (q.2)))))))))))))))))
  · exact Or.inr (Or.inl q)
  · exact Or.inr (Or.inr (Or.inr (Or.inl q)))
  · exact Or.inr (Or.inr (Or.inl q.1))
  · exact Or.inr (Or.inr (Or.inr (Or.inr (Or.inr (Or.inr (Or.inr (Or.inr (Or.inl q))))))))
  · exact Or.inr (Or.inr (Or.inr (Or.inr (Or.inr (Or.inr (Or.inr (Or.inr (Or.inr (Or.inr (Or.inr (Or.inl q)))))))))))
  · exact Or.inr (Or.inr (Or.inr (Or.inr (Or.inr (Or.inr (Or.inr (Or.inr (Or.inr (Or.inr (Or.inl q))))))))))
  · exact Or.inr (Or.inr (Or.inr (Or.inr (Or.inr (Or.inr (Or.inr (Or.inr (Or.inr (Or.inl q)))))))))
  · exact Or.inr (Or.inr (Or.inr (Or.inr (Or.inr (Or.inr (Or.inr (Or.inr (Or.inr (Or.inr (Or.inr (Or.inr (Or.inr (Or.inl q)))))))))))))
  · exact Or.inr (Or.inr (Or.inr (Or.inr (Or.inr (Or.inl q)))))
  · exact Or.inr (Or.inr (Or.inr (Or.inr (Or.inr (Or.inr (Or.inl q))))))
  · exact Or.inr (Or.inr (Or.inr (Or.inr (Or.inr (Or.inr (Or.inr (Or.inl q)))))))
  · exact Or.inr (Or.inr (Or.inr (Or.inr (Or.inr (Or.inr (Or.inr (Or.inr (Or.inr (Or.inr (Or.inr (Or.inr (Or.inr (Or.inr (Or.inl q))))))))))))))
  · exact Or.inr (Or.inr (Or.inr (Or.inr (Or.inr (Or.inr (Or.inr (Or.inr (Or.inr (Or.inr (Or.inr (Or.inr (Or.inr (Or.inr (Or.inr (Or.inl q)))))))))))))))
  · exact Or.inr (Or.inr (Or.inr (Or.inr (Or.inr (Or.inr (Or.inr (Or.inr (Or.inr (Or.inr (Or.inr (Or.inr (Or.inr (Or.inr (Or.inr (Or.inr (Or.inl q))))))))))))))))
theorem kA_lt {x j : Nat} (p : kA C K n x j) (h : C + 96 < n) : x < n := by
  unfold kA at p
  omega
theorem dW_Z (h : cZ C c n0 K0 L0 I0 R0 n t K L J R) : dW C n0 K0 L0 I0 R0 n K L J R (fun _ _ => False) := ⟨h.2.2.1, h.2.2.2.1, h.2.2.2.2.1, h.2.2.2.2.2.1, fun x j p _ => h.2.2.2.2.2.2 x j (kA_eD p) (kA_lt p h.1)⟩
theorem or8 {x s : Int32} (hx : 0 ≤ x ∧ x ≤ 255) (hs : 0 ≤ s ∧ s ≤ 7) : (0 : Int32) ≤ (x ||| ((1 : Int32) <<< (s &&& 31))) ∧ (x ||| ((1 : Int32) <<< (s &&& 31))) ≤ (255 : Int32) := by
  have key : ∀ a : Fin 256, ∀ b : Fin 8, (0 : Int32) ≤ (Int32.ofNat a.val ||| ((1 : Int32) <<< (Int32.ofNat b.val &&& 31))) ∧ (Int32.ofNat a.val ||| ((1 : Int32) <<< (Int32.ofNat b.val &&& 31))) ≤ (255 : Int32) := by decide +kernel
  have c0 : (0 : Int32).toInt = 0 := rfl
  have c7 : (7 : Int32).toInt = 7 := rfl
  have c255 : (255 : Int32).toInt = 255 := rfl
  have e0 := Int32.le_iff_toInt_le.mp hx.1
  have e1 := Int32.le_iff_toInt_le.mp hx.2
  have e2 := Int32.le_iff_toInt_le.mp hs.1
  have e3 := Int32.le_iff_toInt_le.mp hs.2
  have ex : x = Int32.ofNat (⟨x.toInt.toNat, by omega⟩ : Fin 256).val := Int32.toInt_inj.mp (by
    rw [Int32.toInt_ofNat', show Int32.size = 4294967296 from rfl]
    simp only [Int.bmod_def]
    show x.toInt = _
    omega)
  have es : s = Int32.ofNat (⟨s.toInt.toNat, by omega⟩ : Fin 8).val := Int32.toInt_inj.mp (by
    rw [Int32.toInt_ofNat', show Int32.size = 4294967296 from rfl]
    simp only [Int.bmod_def]
    show s.toInt = _
    omega)
  have := key ⟨x.toInt.toNat, by omega⟩ ⟨s.toInt.toNat, by omega⟩
  rw [← ex, ← es] at this
  exact this
theorem h8 {h : Int32} (h0 : 0 ≤ h) (h1 : h < 1600) : (0 ≤ h / 8 ∧ h / 8 < 200) ∧ (0 ≤ h - h / 8 * 8 ∧ h - h / 8 * 8 ≤ 7) := by
  have c0 : (0 : Int32).toInt = 0 := rfl
  have c7 : (7 : Int32).toInt = 7 := rfl
  have c8 : (8 : Int32).toInt = 8 := rfl
  have c200 : (200 : Int32).toInt = 200 := rfl
  have c1600 : (1600 : Int32).toInt = 1600 := rfl
  have e0 := Int32.le_iff_toInt_le.mp h0
  have e1 := Int32.lt_iff_toInt_lt.mp h1
  have e := ti_div h0 (show (0 : Int32) < 8 by decide)
  rw [c8] at e
  have em : (h / 8 * 8).toInt = (h / 8).toInt * 8 := by
    rw [Int32.toInt_mul, c8]
    simp only [Int.bmod_def]
    omega
  have es : (h - h / 8 * 8).toInt = h.toInt - (h / 8).toInt * 8 := by
    rw [Int32.toInt_sub, em]
    simp only [Int.bmod_def]
    omega
  refine ⟨⟨?_, ?_⟩, ?_, ?_⟩
  · rw [Int32.le_iff_toInt_le]; omega
  · rw [Int32.lt_iff_toInt_lt]; omega
  · rw [Int32.le_iff_toInt_le]; omega
  · rw [Int32.le_iff_toInt_le]; omega
theorem lk_found_58 {h v : Int32} (hP : ∀ J, cT C K L J R → (∀ x j, ¬ x = C + 3 → J x j = I x j) → P (some (.int (J (C + 1) 5))) (n, t, K, L, J, R)) : ∀ i : Int32, i ≤ 1600 → ∀ J, 0 ≤ i → cT C K L J R → (∀ x j, ¬ x = C + 3 → J x j = I x j) → a_at d (a_xm a_m16) 58 [some (a_rf (C + 1)), some (.int h), some (.int v), some (.int i)] [] (n, t, K, L, J, R) P := by
  refine up_ind 1600 (fun i hk ih => ?_)
  intro J q0 hT hF
  have hS := hT.s
  have n8 : ¬ (8 : Int32) = 0 := by decide
  have hend := hP J hT hF
  rw [q16_58]
  simp only [q16_59, q16_60, q16_61, q16_62, q16_65, q16_66, q16_69, q16_72, q16_73, q16_76, q16_77, q16_79, q16_80, q16_81, q16_82, q16_83, q16_84, q16_86, q16_87, q16_88, q16_89, q16_90, q16_93, q16_96, q16_97, q16_100, k_1 hS, z_1, r_1_1 hS, k_3 hS, l_3 hS, z_3, as_nil, as_i, as_r, Nat.reduceAdd, Nat.reduceLeDiff, z_eq0, z_eq1, z_or, z_em, Classical.not_not, not_false_eq_true, not_true_eq_false, true_and, and_true, false_and, and_false, and_self, true_implies, false_implies, implies_true, Option.toList_some, Option.toList_none, List.cons_append, List.nil_append, Nat.add_eq_zero_iff, a_nl_i, a_nl_r, a_nl_n, true_or, or_true, eq_self, a_isRA_22, a_isRA_24, a_isRA_32, a_isA_20, ok_4, ok_5, ok_6, ok_7, ok_9, ok_20, ok_21, ok_30, ok_50, ok_180, ok_192, ok_200, ui_ap, cc_ne, cc_n0, cc_0n, Nat.reduceEqDiff, reduceIte, if_true, if_false, n8]
  refine ⟨fun _ => hend, fun _ => ⟨fun _ => hend, fun h2 => ?_⟩⟩
  have h2 := Int32.not_le.mp h2
  obtain ⟨x1, x2⟩ := h8 q0 h2
  have g := or8 (hT.g_lost (i / 8).toNatClampNeg) x2
  have hf := ih h2 _ (by clear ih hP hT hF hend; grind) (sT_Beam_lost hT (k := (i / 8).toNatClampNeg) g) (fun x j e => by rw [ui_ap, if_neg (fun q => e q.1)]; exact hF x j e)
  repeat' first
    | with_reducible apply And.intro
    | exact hf
    | exact x1.1
    | exact x1.2
/-- the heap behind a TRIP, but for what is lost -/
def tX (C : Nat) (I : Nat → Nat → Int32) (h v : Int32) : Nat → Nat → Int32 := a_ui (a_ui (a_ui (a_ui I (C + 4) (I (C + 1) 5).toNatClampNeg h) (C + 5) (I (C + 1) 5).toNatClampNeg (h + v - 1)) (C + 6) (I (C + 1) 5).toNatClampNeg (I (C + 1) 6)) (C + 1) 5 (I (C + 1) 5 + 1)
theorem tX_ne {h v : Int32} {x j : Nat} (q : ¬ x = C + 4) (r : ¬ x = C + 5) (s : ¬ x = C + 6) (u : ¬ (x = C + 1 ∧ j = 5)) : tX C I h v x j = I x j := by
  unfold tX
  rw [ui_ap, if_neg u, ui_ap, if_neg (fun e => s e.1), ui_ap, if_neg (fun e => r e.1), ui_ap, if_neg (fun e => q e.1)]
theorem tX_4 {h v : Int32} {j : Nat} : tX C I h v (C + 4) j = if j = (I (C + 1) 5).toNatClampNeg then h else I (C + 4) j := by
  unfold tX
  rw [ui_ap, if_neg (by omega), ui_ap, if_neg (by omega), ui_ap, if_neg (by omega), ui_ap]
  simp only [true_and]
theorem tX_5 {h v : Int32} {j : Nat} : tX C I h v (C + 5) j = if j = (I (C + 1) 5).toNatClampNeg then h + v - 1 else I (C + 5) j := by
  unfold tX
  rw [ui_ap, if_neg (by omega), ui_ap, if_neg (by omega), ui_ap]
  by_cases e : j = (I (C + 1) 5).toNatClampNeg
  · rw [if_pos ⟨rfl, e⟩, if_pos e]
  · rw [if_neg (fun q => e q.2), if_neg e, ui_ap, if_neg (by omega)]
theorem tX_6 {h v : Int32} {j : Nat} : tX C I h v (C + 6) j = if j = (I (C + 1) 5).toNatClampNeg then I (C + 1) 6 else I (C + 6) j := by
  unfold tX
  rw [ui_ap, if_neg (by omega), ui_ap]
  by_cases e : j = (I (C + 1) 5).toNatClampNeg
  · rw [if_pos ⟨rfl, e⟩, if_pos e]
  · rw [if_neg (fun q => e q.2), if_neg e, ui_ap, if_neg (by omega), ui_ap, if_neg (by omega)]
theorem tX_1 {h v : Int32} : tX C I h v (C + 1) 5 = I (C + 1) 5 + 1 := by
  unfold tX
  rw [ui_ap, if_pos ⟨rfl, rfl⟩]
theorem ck_found {h v : Int32} (h0 : 0 ≤ h ∧ h ≤ 1600) (hT : cT C K L I R) (hc : I (C + 1) 5 < 20) (hP : ∀ J, cT C K L J R → (∀ x j, ¬ x = C + 3 → J x j = tX C I h v x j) → P (some (.int (I (C + 1) 5 + 1))) (n, t, K, L, J, R)) : a_does (d + 1) 16 [a_rf (C + 1), .int h, .int v] (n, t, K, L, I, R) P := by
  have hS := hT.s
  have g := hT.g_trips
  have hc2 : ¬ 20 ≤ I (C + 1) 5 := Int32.not_le.mpr hc
  have hT2 : cT C K L (a_ui (a_ui (a_ui (a_ui I (C + 4) (I (C + 1) 5).toNatClampNeg h) (C + 5) (I (C + 1) 5).toNatClampNeg (h + v - 1)) (C + 6) (I (C + 1) 5).toNatClampNeg (I (C + 1) 6)) (C + 1) 5 (I (C + 1) 5 + 1)) R := sT_Beam_trips (sT_Beam_tripFound (sT_Beam_tripTill (sT_Beam_tripFrom hT))) (by clear hP hT hS; grind)
  have hl := lk_found_58 (d := d) (h := h) (v := v) (I := (a_ui (a_ui (a_ui (a_ui I (C + 4) (I (C + 1) 5).toNatClampNeg h) (C + 5) (I (C + 1) 5).toNatClampNeg (h + v - 1)) (C + 6) (I (C + 1) 5).toNatClampNeg (I (C + 1) 6)) (C + 1) 5 (I (C + 1) 5 + 1))) (n := n) (t := t) (K := K) (L := L) (R := R) (P := P) (C := C) (fun J g1 g2 => by
    have e5 : J (C + 1) 5 = I (C + 1) 5 + 1 := by rw [g2 _ _ (by omega), ui_ap, if_pos ⟨rfl, rfl⟩]
    rw [e5]
    exact hP J g1 g2) h h0.2 _ h0.1 hT2 (fun _ _ _ => rfl)
  rw [a_enter1 (M := a_m16) rfl (a_cat_rf (a_cat_int (a_cat_int a_cat_nil))) (show 3 ≤ 4 by decide)]
  show a_at _ (a_xm a_m16) 0 [some (a_rf (C + 1)), some (.int h), some (.int v), none] [] _ _
  simp only [q16_0, q16_1, q16_4, q16_6, q16_9, q16_10, q16_13, q16_14, q16_17, q16_18, q16_19, q16_20, q16_23, q16_24, q16_27, q16_28, q16_29, q16_30, q16_31, q16_32, q16_33, q16_34, q16_37, q16_38, q16_41, q16_42, q16_45, q16_46, q16_47, q16_48, q16_51, q16_52, q16_53, q16_56, q16_57, k_1 hS, z_1, r_1_2 hS, k_4 hS, l_4 hS, z_4, r_1_3 hS, k_5 hS, l_5 hS, z_5, r_1_4 hS, k_6 hS, l_6 hS, z_6, as_nil, as_i, as_r, Nat.reduceAdd, Nat.reduceLeDiff, z_eq0, z_eq1, z_or, z_em, Classical.not_not, not_false_eq_true, not_true_eq_false, true_and, and_true, false_and, and_false, and_self, true_implies, false_implies, implies_true, Option.toList_some, Option.toList_none, List.cons_append, List.nil_append, Nat.add_eq_zero_iff, a_nl_i, a_nl_r, a_nl_n, true_or, or_true, eq_self, a_isRA_22, a_isRA_24, a_isRA_32, a_isA_20, ok_4, ok_5, ok_6, ok_7, ok_9, ok_20, ok_21, ok_30, ok_50, ok_180, ok_192, ok_200, ui_ap, cc_ne, cc_n0, cc_0n, Nat.reduceEqDiff, reduceIte, if_true, if_false, hc, hc2, g.1]
  repeat' first
    | with_reducible apply And.intro
    | exact hl
    | decide
theorem cw_trip (hH : cH C c (n + 1) t K L I R) {h v : Int32} (hP : ∀ v n' t' K' L' J R', cH C (c + 4) (n' + 1) t' K' L' J R' → dW C (n + 1) K L I R (n' + 1) K' L' J R' (fun x j => (x = C + 1 ∧ j = 5) ∨ x = C + 4 ∨ x = C + 5 ∨ x = C + 6) → P (some (.int v)) (n' + 1, t', K', L', J, R')) : a_does (d + 70) 15 [a_rf C, .int h, .int v] (n + 1, t, K, L, I, R) P := by
  have hT := hH.1
  have hS := hT.s
  have hZ := cZ_refl hH
  have hq : ∀ v J, cT C K L J R → (∀ x j, kA C K (n + 1) x j → ¬ (fun x j => (x = C + 1 ∧ j = 5) ∨ x = C + 4 ∨ x = C + 5 ∨ x = C + 6) x j → J x j = I x j) → P (some (.int v)) (n + 1, t, K, L, J, R) := fun v J g f => hP v n t K L J R (cH_le (cH_J hH g) (by omega)) ⟨Nat.le_refl _, fun _ _ => rfl, fun _ _ => rfl, fun _ _ _ _ => rfl, f⟩
  have hz : ∀ v J, cZ C c (n + 1) K L I R (n + 1) t K L J R → P (some (.int v)) (n + 1, t, K, L, J, R) := fun v J z => hq v J z.2.1.1 (fun x j h _ => z.2.2.2.2.2.2 x j (kA_eD h) (kA_lt h hH.2.2.1))
  have g := hT.g_now
  have hgo : ¬ h < 0 → h ≤ I (C + 1) 6 → I (C + 1) 5 < 20 → a_at (d + 69) (a_xm a_m15) 52 [some (a_rf C), some (.int h), some (.int v)] [] (n + 1, t, K, L, I, R) P := fun h0 h1 h2 => by
    simp only [q15_52, q15_53, q15_56, q15_57, q15_58, k_0 hS, z_C hS, r_0_0 hS, k_1 hS, z_1, as_nil, as_i, as_r, Nat.reduceAdd, Nat.reduceLeDiff, z_eq0, z_eq1, z_or, z_em, Classical.not_not, not_false_eq_true, not_true_eq_false, true_and, and_true, false_and, and_false, and_self, true_implies, false_implies, implies_true, Option.toList_some, Option.toList_none, List.cons_append, List.nil_append, Nat.add_eq_zero_iff, a_nl_i, a_nl_r, a_nl_n, true_or, or_true, eq_self, a_isRA_22, a_isRA_24, a_isRA_32, a_isA_20, ok_4, ok_5, ok_6, ok_7, ok_9, ok_20, ok_21, ok_30, ok_50, ok_180, ok_192, ok_200]
    refine ck_found ⟨Int32.not_lt.mp h0, Int32.le_trans h1 g.2⟩ hT h2 (fun J g1 f => ?_)
    simp only [q15_61, as_nil, as_i, as_r, Nat.reduceAdd, Nat.reduceLeDiff, z_eq0, z_eq1, z_or, z_em, Classical.not_not, not_false_eq_true, not_true_eq_false, true_and, and_true, false_and, and_false, and_self, true_implies, false_implies, implies_true, Option.toList_some, Option.toList_none, List.cons_append, List.nil_append, Nat.add_eq_zero_iff, a_nl_i, a_nl_r, a_nl_n, true_or, or_true, eq_self, a_isRA_22, a_isRA_24, a_isRA_32, a_isA_20, ok_4, ok_5, ok_6, ok_7, ok_9, ok_20, ok_21, ok_30, ok_50, ok_180, ok_192, ok_200]
    exact hq _ J g1 (fun x j p o => by
      unfold kA at p
      replace o : ¬ ((x = C + 1 ∧ j = 5) ∨ x = C + 4 ∨ x = C + 5 ∨ x = C + 6) := o
      rw [f x j (by omega)]
      exact tX_ne (by omega) (by omega) (by omega) (by omega))
  rw [a_enter1 (M := a_m15) rfl (a_cat_rf (a_cat_int (a_cat_int a_cat_nil))) (show 3 ≤ 3 by decide)]
  show a_at _ (a_xm a_m15) 0 [some (a_rf C), some (.int h), some (.int v)] [] _ _
  repeat' first
    | with_reducible apply And.intro
    | with_reducible assumption
    | with_reducible intro _
    | refine ck_refuse hZ (fun _ _ => ?_)
    | exact hz _ _ (by assumption)
    | exact hgo (by assumption) (by assumption) (by assumption)
    | exact hgo (by assumption) (Int32.not_lt.mp (by assumption)) (by assumption)
    | simp only [q15_0, q15_1, q15_4, q15_5, q15_6, q15_9, q15_10, q15_12, q15_15, q15_16, q15_17, q15_18, q15_21, q15_24, q15_27, q15_28, q15_30, q15_33, q15_34, q15_37, q15_40, q15_42, q15_45, q15_46, q15_48, q15_51, k_0 hS, z_C hS, r_0_0 hS, k_1 hS, z_1, as_nil, as_i, as_r, Nat.reduceAdd, Nat.reduceLeDiff, z_eq0, z_eq1, z_or, z_em, Classical.not_not, not_false_eq_true, not_true_eq_false, true_and, and_true, false_and, and_false, and_self, true_implies, false_implies, implies_true, Option.toList_some, Option.toList_none, List.cons_append, List.nil_append, Nat.add_eq_zero_iff, a_nl_i, a_nl_r, a_nl_n, true_or, or_true, eq_self, a_isRA_22, a_isRA_24, a_isRA_32, a_isA_20, ok_4, ok_5, ok_6, ok_7, ok_9, ok_20, ok_21, ok_30, ok_50, ok_180, ok_192, ok_200]
  all_goals ((try clear hgo); (try clear hq); (try clear hz); (try clear hP); (try clear hZ); (try clear hH); (try clear hT); (try clear hS); grind [ui_ap])
end KN

/-! trip: hours lost bit by bit -/
section ZC0
variable {d n t C c : Nat} {K L : Nat → Nat} {I I0 J J0 J1 J2 : Nat → Nat → Int32} {R : Nat → Nat → Nat} {P : Option Value → AH → Prop}
variable {Y Z W : Nat → Nat → Int32} {R' R1 : Nat → Nat → Nat} {K' L' : Nat → Nat}
/-- hours lost are kept bit by bit -/
def lbP (C : Nat) (I Y : Nat → Nat → Int32) : Prop := ∀ s k : Nat, s < 200 → k < 8 → (bq (I (C + 3) s) k = true ↔ lkY Y (Int32.ofNat (8 * s + k)) = 1)
theorem cl_on2 {m : Nat} (h : m < 100000) : (Int32.ofNat m).toNatClampNeg = m ∧ (Int32.ofNat m).toInt = m := by
  have e : (Int32.ofNat m).toInt = m := by
    rw [Int32.toInt_ofNat', show Int32.size = 4294967296 from rfl]
    simp only [Int.bmod_def]
    omega
  refine ⟨?_, e⟩
  show (Int32.ofNat m).toInt.toNat = m
  rw [e]
  omega
theorem d8 {i : Int32} (h0 : 0 ≤ i) (h1 : i < 1600) : (i / 8).toNatClampNeg = i.toNatClampNeg / 8 ∧ i - i / 8 * 8 = Int32.ofNat (i.toNatClampNeg % 8) ∧ i.toNatClampNeg < 1600 := by
  obtain ⟨x1, x2⟩ := h8 h0 h1
  have c0 : (0 : Int32).toInt = 0 := rfl
  have c8 : (8 : Int32).toInt = 8 := rfl
  have c16 : (1600 : Int32).toInt = 1600 := rfl
  have e0 := Int32.le_iff_toInt_le.mp h0
  have e1 := Int32.lt_iff_toInt_lt.mp h1
  rw [c0] at e0
  rw [c16] at e1
  have e := ti_div h0 (show (0 : Int32) < 8 by decide)
  rw [c8] at e
  have em : (i / 8 * 8).toInt = i.toInt / 8 * 8 := by
    rw [Int32.toInt_mul, c8, e]
    simp only [Int.bmod_def]
    omega
  have es : (i - i / 8 * 8).toInt = i.toInt - i.toInt / 8 * 8 := by
    rw [Int32.toInt_sub, em]
    simp only [Int.bmod_def]
    omega
  have ec : i.toNatClampNeg = i.toInt.toNat := rfl
  refine ⟨?_, Int32.toInt_inj.mp ?_, by omega⟩
  · show (i / 8).toInt.toNat = _
    rw [e, ec]
    omega
  · rw [es, (cl_on2 (m := i.toNatClampNeg % 8) (by omega)).2, ec]
    omega
theorem le_found_58 {h v : Int32} (h0 : 0 ≤ h ∧ h ≤ 1600) (hv : 1 ≤ v ∧ v ≤ 60) (hP : ∀ J, cT C K L J R → (∀ x j, ¬ x = C + 3 → J x j = I x j) → (∀ s k : Nat, s < 200 → k < 8 → (bq (J (C + 3) s) k = true ↔ bq (I (C + 3) s) k = true ∨ (h.toNatClampNeg ≤ 8 * s + k ∧ 8 * s + k < (h + v).toNatClampNeg))) → P (some (.int (J (C + 1) 5))) (n, t, K, L, J, R)) : ∀ i : Int32, i ≤ 1600 → ∀ J, h ≤ i → i ≤ h + v → cT C K L J R → (∀ x j, ¬ x = C + 3 → J x j = I x j) → (∀ s k : Nat, s < 200 → k < 8 → (bq (J (C + 3) s) k = true ↔ bq (I (C + 3) s) k = true ∨ (h.toNatClampNeg ≤ 8 * s + k ∧ 8 * s + k < (i).toNatClampNeg))) → a_at d (a_xm a_m16) 58 [some (a_rf (C + 1)), some (.int h), some (.int v), some (.int i)] [] (n, t, K, L, J, R) P := by
  have hhv : 0 ≤ h + v ∧ h + v ≤ 1660 := by clear hP; grind
  refine up_ind 1600 (fun i hk ih => ?_)
  intro J q0 q1 hT hF hB
  have hS := hT.s
  have n8 : ¬ (8 : Int32) = 0 := by decide
  have i0 : 0 ≤ i := Int32.le_trans h0.1 q0
  have hend : (h + v ≤ i ∨ 1600 ≤ i) → P (some (.int (J (C + 1) 5))) (n, t, K, L, J, R) := fun w => by
    refine hP J hT hF (fun s k hs hk8 => (hB s k hs hk8).trans ⟨fun z => z.imp id (fun z => ⟨z.1, ?_⟩), fun z => z.imp id (fun z => ⟨z.1, ?_⟩)⟩)
    · have := cl_le0 i0 q1
      omega
    · rcases w with w | w
      · rw [show i = h + v from by clear ih hP hF hB; grind]
        exact z.2
      · have := cl_le0 (show (0 : Int32) ≤ 1600 by decide) w
        rw [show (1600 : Int32).toNatClampNeg = 1600 from rfl] at this
        omega
  have hgo : i < h + v → i < 1600 → a_at d (a_xm a_m16) 58 [some (a_rf (C + 1)), some (.int h), some (.int v), some (.int (i + 1))] [] (n, t, K, L, (a_ui J (C + 3) (i / 8).toNatClampNeg (J (C + 3) (i / 8).toNatClampNeg ||| ((1 : Int32) <<< ((i - i / 8 * 8) &&& 31)))), R) P := fun w1 w2 => by
    obtain ⟨x1, x2⟩ := h8 i0 w2
    obtain ⟨e1, e2, e3⟩ := d8 i0 w2
    have g := or8 (hT.g_lost (i / 8).toNatClampNeg) x2
    have eu := cl_up i0 (s := i) (by clear ih hP hF hB hend; grind)
    refine ih w2 _ (by clear ih hP hF hB hend; grind) (by clear ih hP hF hB hend; grind) (sT_Beam_lost hT (k := (i / 8).toNatClampNeg) g) (fun x j e => by rw [ui_ap, if_neg (fun q => e q.1)]; exact hF x j e) (fun s k hs hk8 => ?_)
    rw [ui_ap, eu, e1, e2]
    by_cases es : s = i.toNatClampNeg / 8
    · rw [if_pos ⟨rfl, es⟩, bq_set (by omega) (by omega), Bool.or_eq_true, ← es, hB s k hs hk8]
      by_cases ek : k = i.toNatClampNeg % 8
      · have a1 := cl_le0 h0.1 q0
        exact ⟨fun _ => Or.inr ⟨by omega, by omega⟩, fun _ => Or.inr (decide_eq_true ek)⟩
      · rw [decide_eq_false ek]
        exact ⟨fun z => z.elim (fun z => z.imp id (fun z => ⟨z.1, by omega⟩)) (fun z => absurd z Bool.false_ne_true), fun z => Or.inl (z.imp id (fun z => ⟨z.1, by omega⟩))⟩
    · rw [if_neg (fun q => es q.2), hB s k hs hk8]
      exact ⟨fun z => z.imp id (fun z => ⟨z.1, by omega⟩), fun z => z.imp id (fun z => ⟨z.1, by omega⟩)⟩
  have hx : i < 1600 → 0 ≤ i / 8 ∧ i / 8 < 200 := fun w => (h8 i0 w).1
  clear ih hP hF hB
  rw [q16_58]
  simp only [q16_59, q16_60, q16_61, q16_62, q16_65, q16_66, q16_69, q16_72, q16_73, q16_76, q16_77, q16_79, q16_80, q16_81, q16_82, q16_83, q16_84, q16_86, q16_87, q16_88, q16_89, q16_90, q16_93, q16_96, q16_97, q16_100, k_1 hS, z_1, r_1_1 hS, k_3 hS, l_3 hS, z_3, as_nil, as_i, as_r, Nat.reduceAdd, Nat.reduceLeDiff, z_eq0, z_eq1, z_or, z_em, Classical.not_not, not_false_eq_true, not_true_eq_false, true_and, and_true, false_and, and_false, and_self, true_implies, false_implies, implies_true, Option.toList_some, Option.toList_none, List.cons_append, List.nil_append, Nat.add_eq_zero_iff, a_nl_i, a_nl_r, a_nl_n, true_or, or_true, eq_self, a_isRA_22, a_isRA_24, a_isRA_32, a_isA_20, ok_4, ok_5, ok_6, ok_7, ok_9, ok_20, ok_21, ok_30, ok_50, ok_180, ok_192, ok_200, ui_ap, cc_ne, cc_n0, cc_0n, Nat.reduceEqDiff, reduceIte, if_true, if_false, n8]
  refine ⟨fun w => hend (Or.inl w), fun w1 => ⟨fun w => hend (Or.inr w), fun w2 => ?_⟩⟩
  have hgo := hgo (Int32.not_le.mp w1) (Int32.not_le.mp w2)
  have hx := hx (Int32.not_le.mp w2)
  repeat' first
    | with_reducible apply And.intro
    | exact hgo
    | exact hx.1
    | exact hx.2
theorem ce_found {h v : Int32} (h0 : 0 ≤ h ∧ h ≤ 1600) (hv : 1 ≤ v ∧ v ≤ 60) (hT : cT C K L I R) (hc : I (C + 1) 5 < 20) (hP : ∀ J, cT C K L J R → (∀ x j, ¬ x = C + 3 → J x j = tX C I h v x j) → (∀ s k : Nat, s < 200 → k < 8 → (bq (J (C + 3) s) k = true ↔ bq (I (C + 3) s) k = true ∨ (h.toNatClampNeg ≤ 8 * s + k ∧ 8 * s + k < (h + v).toNatClampNeg))) → P (some (.int (I (C + 1) 5 + 1))) (n, t, K, L, J, R)) : a_does (d + 1) 16 [a_rf (C + 1), .int h, .int v] (n, t, K, L, I, R) P := by
  have hS := hT.s
  have g := hT.g_trips
  have hc2 : ¬ 20 ≤ I (C + 1) 5 := Int32.not_le.mpr hc
  have hT2 : cT C K L (tX C I h v) R := sT_Beam_trips (sT_Beam_tripFound (sT_Beam_tripTill (sT_Beam_tripFrom hT))) (by clear hP hT hS; grind)
  have i3 : ∀ j, tX C I h v (C + 3) j = I (C + 3) j := fun j => tX_ne (by omega) (by omega) (by omega) (by omega)
  have hl := le_found_58 (d := d) (h := h) (v := v) (I := tX C I h v) (n := n) (t := t) (K := K) (L := L) (R := R) (P := P) (C := C) h0 hv (fun J g1 g2 g3 => by
    have e5 : J (C + 1) 5 = I (C + 1) 5 + 1 := by rw [g2 _ _ (by omega)]; exact tX_1
    rw [e5]
    exact hP J g1 g2 (fun s k hs hk => by rw [g3 s k hs hk, i3])) h h0.2 _ (Int32.le_refl _) (by clear hP hT hS hT2; grind) hT2 (fun _ _ _ => rfl) (fun s k hs hk => ⟨fun z => Or.inl z, fun z => z.elim id (fun z => by omega)⟩)
  unfold tX at hl
  clear hP hT2 i3
  rw [a_enter1 (M := a_m16) rfl (a_cat_rf (a_cat_int (a_cat_int a_cat_nil))) (show 3 ≤ 4 by decide)]
  show a_at _ (a_xm a_m16) 0 [some (a_rf (C + 1)), some (.int h), some (.int v), none] [] _ _
  simp only [q16_0, q16_1, q16_4, q16_6, q16_9, q16_10, q16_13, q16_14, q16_17, q16_18, q16_19, q16_20, q16_23, q16_24, q16_27, q16_28, q16_29, q16_30, q16_31, q16_32, q16_33, q16_34, q16_37, q16_38, q16_41, q16_42, q16_45, q16_46, q16_47, q16_48, q16_51, q16_52, q16_53, q16_56, q16_57, k_1 hS, z_1, r_1_2 hS, k_4 hS, l_4 hS, z_4, r_1_3 hS, k_5 hS, l_5 hS, z_5, r_1_4 hS, k_6 hS, l_6 hS, z_6, as_nil, as_i, as_r, Nat.reduceAdd, Nat.reduceLeDiff, z_eq0, z_eq1, z_or, z_em, Classical.not_not, not_false_eq_true, not_true_eq_false, true_and, and_true, false_and, and_false, and_self, true_implies, false_implies, implies_true, Option.toList_some, Option.toList_none, List.cons_append, List.nil_append, Nat.add_eq_zero_iff, a_nl_i, a_nl_r, a_nl_n, true_or, or_true, eq_self, a_isRA_22, a_isRA_24, a_isRA_32, a_isA_20, ok_4, ok_5, ok_6, ok_7, ok_9, ok_20, ok_21, ok_30, ok_50, ok_180, ok_192, ok_200, ui_ap, cc_ne, cc_n0, cc_0n, Nat.reduceEqDiff, reduceIte, if_true, if_false, hc, hc2, g.1]
  repeat' first
    | with_reducible apply And.intro
    | exact hl
    | decide
theorem lhu_app {f e g : Nat → Int32} {k h : Int32} : ∀ z i, lhu f e g k h (z + 1) i = 1 ↔ lhu f e g k h z i = 1 ∨ (g (i + z) ≤ k ∧ f (i + z) ≤ h ∧ h ≤ e (i + z)) := by
  intro z
  induction z with
  | zero =>
    intro i
    unfold lhu
    by_cases c : g i ≤ k ∧ f i ≤ h ∧ h ≤ e i
    · rw [if_pos c]
      exact ⟨fun _ => Or.inr c, fun _ => rfl⟩
    · rw [if_neg c]
      unfold lhu
      exact ⟨fun q => absurd q (by decide), fun q => q.elim (fun q => absurd q (by decide)) (fun q => absurd q c)⟩
  | succ z ih =>
    intro i
    rw [show i + (z + 1) = (i + 1) + z by omega]
    have e1 : lhu f e g k h (z + 1 + 1) i = if g i ≤ k ∧ f i ≤ h ∧ h ≤ e i then 1 else lhu f e g k h (z + 1) (i + 1) := rfl
    have e2 : lhu f e g k h (z + 1) i = if g i ≤ k ∧ f i ≤ h ∧ h ≤ e i then 1 else lhu f e g k h z (i + 1) := rfl
    rw [e1, e2]
    by_cases c : g i ≤ k ∧ f i ≤ h ∧ h ≤ e i
    · rw [if_pos c, if_pos c]
      exact ⟨fun _ => Or.inl rfl, fun _ => rfl⟩
    · rw [if_neg c, if_neg c]
      exact ih (i + 1)
def tpW (Y : Nat → Nat → Int32) (h v : Int32) : Nat → Nat → Int32 := upY (upY (upY (upY Y 2 (Y 0 2).toNatClampNeg h) 3 (Y 0 2).toNatClampNeg v) 4 (Y 0 2).toNatClampNeg (Y 0 0)) 0 2 (Y 0 2 + 1)
def tpY (Y : Nat → Nat → Int32) (h v : Int32) : Nat → Nat → Int32 := if (h < 0 ∨ v < 1) ∨ (Y 0 0 < h ∨ 60 < v ∨ Y 0 2 = 20) then Y else tpW Y h v
theorem tp_no {h v : Int32} {k j : Nat} (hk : ¬ (k = 0 ∧ j = 2) ∧ ¬ ((2 ≤ k ∧ k ≤ 4) ∧ j = (Y 0 2).toNatClampNeg)) : tpW Y h v k j = Y k j := by
  unfold tpW
  rw [up_no hk.1, up_no (by omega), up_no (by omega), up_no (by omega)]
theorem tp_at {h v : Int32} : tpW Y h v 2 (Y 0 2).toNatClampNeg = h ∧ tpW Y h v 3 (Y 0 2).toNatClampNeg = v ∧ tpW Y h v 4 (Y 0 2).toNatClampNeg = Y 0 0 ∧ tpW Y h v 0 2 = Y 0 2 + 1 := by
  unfold tpW
  refine ⟨?_, ?_, ?_, up_at⟩
  · rw [up_no (by omega), up_no (by omega), up_no (by omega), up_at]
  · rw [up_no (by omega), up_no (by omega), up_at]
  · rw [up_no (by omega), up_at]
theorem lk_tp {h v : Int32} (h2 : 0 ≤ Y 0 2 ∧ Y 0 2 < 20) (x : Int32) : lkY (tpW Y h v) x = 1 ↔ lkY Y x = 1 ∨ (h ≤ x ∧ x ≤ h + v - 1) := by
  obtain ⟨a1, a2, a3, a4⟩ := tp_at (Y := Y) (h := h) (v := v)
  have e0 : tpW Y h v 0 0 = Y 0 0 := tp_no (by omega)
  unfold lkY
  rw [a4, e0, (lp_st h2.1 h2.2).2.2.2, lhu_app, Nat.zero_add]
  show _ ∨ (tpW Y h v 4 (Y 0 2).toNatClampNeg ≤ _ ∧ tpW Y h v 2 (Y 0 2).toNatClampNeg ≤ x ∧ x ≤ tpW Y h v 2 (Y 0 2).toNatClampNeg + tpW Y h v 3 (Y 0 2).toNatClampNeg - 1) ↔ _
  rw [a1, a2, a3, lhu_eq (f' := Y 2) (e' := fun j => Y 2 j + Y 3 j - 1) (g' := Y 4) _ 0 (fun j _ hj => by
    show _ ∧ _ ∧ x ≤ tpW Y h v 2 j + tpW Y h v 3 j - 1 ↔ _
    rw [tp_no (by omega), tp_no (by omega), tp_no (by omega)])]
  exact ⟨fun q => q.imp id (fun q => q.2), fun q => q.imp id (fun q => ⟨Int32.le_refl _, q⟩)⟩
theorem lk_01 (x : Int32) : lkY Y x = 0 ∨ lkY Y x = 1 := lhu_01 _ _
def b8 (x : Int32) (k : Nat) : Int32 := if bq x k = true then 1 else 0
theorem bcf_k8 : ∀ a : Fin 256, bcf (Int32.ofNat a.val) = 0 + b8 (Int32.ofNat a.val) 0 + b8 (Int32.ofNat a.val) 1 + b8 (Int32.ofNat a.val) 2 + b8 (Int32.ofNat a.val) 3 + b8 (Int32.ofNat a.val) 4 + b8 (Int32.ofNat a.val) 5 + b8 (Int32.ofNat a.val) 6 + b8 (Int32.ofNat a.val) 7 := by decide +kernel
theorem ls_lb (hl : ∀ j, 0 ≤ I (C + 3) j ∧ I (C + 3) j ≤ 255) (h : lbP C I Y) : lsP C I Y := fun s s0 s1 => by
  have hx := hl s.toNatClampNeg
  have hb := h s.toNatClampNeg
  have s200 : s.toNatClampNeg < 200 := show _ < (200 : Int32).toNatClampNeg from cl_lt s0 s1
  generalize I (C + 3) s.toNatClampNeg = x at hx hb
  have c0 : (0 : Int32).toInt = 0 := rfl
  have c255 : (255 : Int32).toInt = 255 := rfl
  have c200 : (200 : Int32).toInt = 200 := rfl
  have e0 := Int32.le_iff_toInt_le.mp hx.1
  have e1 := Int32.le_iff_toInt_le.mp hx.2
  have q0 := Int32.le_iff_toInt_le.mp s0
  have q1 := Int32.lt_iff_toInt_lt.mp s1
  rw [c0] at e0 q0
  rw [c255] at e1
  rw [c200] at q1
  have ex : x = Int32.ofNat (⟨x.toInt.toNat, by omega⟩ : Fin 256).val := Int32.toInt_inj.mp (by
    rw [Int32.toInt_ofNat', show Int32.size = 4294967296 from rfl]
    simp only [Int.bmod_def]
    show x.toInt = _
    omega)
  have key := bcf_k8 ⟨x.toInt.toNat, by omega⟩
  rw [← ex] at key
  have e8 : ∀ k : Nat, k < 8 → 8 * s + Int32.ofNat k = Int32.ofNat (8 * s.toNatClampNeg + k) := fun k hk => by
    refine Int32.toInt_inj.mp ?_
    rw [(cl_on2 (by omega)).2, Int32.toInt_add, Int32.toInt_mul, show (8 : Int32).toInt = 8 from rfl, (cl_on2 (m := k) (by omega)).2]
    show _ = ((8 * s.toInt.toNat + k : Nat) : Int)
    simp only [Int.bmod_def]
    omega
  have q : ∀ k : Nat, k < 8 → lkY Y (8 * s + Int32.ofNat k) = b8 x k := fun k hk => by
    rw [e8 k hk]
    unfold b8
    by_cases c : bq x k = true
    · rw [if_pos c]
      exact (hb k s200 hk).mp c
    · rw [if_neg c]
      exact (lk_01 _).resolve_right (fun w => c ((hb k s200 hk).mpr w))
  rw [key, ← q 0 (by omega), ← q 1 (by omega), ← q 2 (by omega), ← q 3 (by omega), ← q 4 (by omega), ← q 5 (by omega), ← q 6 (by omega), ← q 7 (by omega)]
  rfl
end ZC0
section ZC1
variable {d n t C c n0 n' n'' t' : Nat} {K L K0 L0 K' L' K'' L'' : Nat → Nat} {I I0 J J0 J1 J2 : Nat → Nat → Int32} {R R0 R' R'' : Nat → Nat → Nat} {P : Option Value → AH → Prop}
theorem ky_trip (hH : cH C c (n + 1) t K L I R) {h v : Int32} (h1 : (h < 0 ∨ v < 1) → ∀ J, rfQ C c (n + 1) t K L I R J → P (some (.int (-4))) (n + 1, t, K, L, J, R)) (h2 : ¬ (h < 0 ∨ v < 1) → (I (C + 1) 6 < h ∨ 60 < v ∨ 20 ≤ I (C + 1) 5) → ∀ J, rfQ C c (n + 1) t K L I R J → P (some (.int (-6))) (n + 1, t, K, L, J, R)) (hP : ¬ (h < 0 ∨ v < 1) → ¬ (I (C + 1) 6 < h ∨ 60 < v ∨ 20 ≤ I (C + 1) 5) → ∀ J, cH C c (n + 1) t K L J R → (∀ x j, ¬ x = C + 3 → J x j = tX C I h v x j) → (∀ s k : Nat, s < 200 → k < 8 → (bq (J (C + 3) s) k = true ↔ bq (I (C + 3) s) k = true ∨ (h.toNatClampNeg ≤ 8 * s + k ∧ 8 * s + k < (h + v).toNatClampNeg))) → P (some (.int (I (C + 1) 5 + 1))) (n + 1, t, K, L, J, R)) : a_does (d + 70) 15 [a_rf C, .int h, .int v] (n + 1, t, K, L, I, R) P := by
  have hT := hH.1
  have hS := hT.s
  have hZ := cZ_refl hH
  have g := hT.g_now
  have gneg : ¬ h < 0 → 1 ≤ v → ¬ (h < 0 ∨ v < 1) := fun a b e => e.elim a (fun x => absurd b (Int32.not_le.mpr x))
  have hgo : ¬ h < 0 → 1 ≤ v → ¬ I (C + 1) 6 < h → ¬ 60 < v → I (C + 1) 5 < 20 → a_at (d + 69) (a_xm a_m15) 52 [some (a_rf C), some (.int h), some (.int v)] [] (n + 1, t, K, L, I, R) P := fun a b c1 d1 e1 => by
    have hP := hP (gneg a b) (fun e => e.elim c1 (fun e => e.elim d1 (fun x => absurd e1 (Int32.not_lt.mpr x))))
    simp only [q15_52, q15_53, q15_56, q15_57, q15_58, k_0 hS, z_C hS, r_0_0 hS, k_1 hS, z_1, as_nil, as_i, as_r, Nat.reduceAdd, Nat.reduceLeDiff, z_eq0, z_eq1, z_or, z_em, Classical.not_not, not_false_eq_true, not_true_eq_false, true_and, and_true, false_and, and_false, and_self, true_implies, false_implies, implies_true, Option.toList_some, Option.toList_none, List.cons_append, List.nil_append, Nat.add_eq_zero_iff, a_nl_i, a_nl_r, a_nl_n, true_or, or_true, eq_self, a_isRA_22, a_isRA_24, a_isRA_32, a_isA_20, ok_4, ok_5, ok_6, ok_7, ok_9, ok_20, ok_21, ok_30, ok_50, ok_180, ok_192, ok_200]
    refine ce_found ⟨Int32.not_lt.mp a, Int32.le_trans (Int32.not_lt.mp c1) g.2⟩ ⟨b, Int32.not_lt.mp d1⟩ hT e1 (fun J g1 f f3 => ?_)
    simp only [q15_61, as_nil, as_i, as_r, Nat.reduceAdd, Nat.reduceLeDiff, z_eq0, z_eq1, z_or, z_em, Classical.not_not, not_false_eq_true, not_true_eq_false, true_and, and_true, false_and, and_false, and_self, true_implies, false_implies, implies_true, Option.toList_some, Option.toList_none, List.cons_append, List.nil_append, Nat.add_eq_zero_iff, a_nl_i, a_nl_r, a_nl_n, true_or, or_true, eq_self, a_isRA_22, a_isRA_24, a_isRA_32, a_isA_20, ok_4, ok_5, ok_6, ok_7, ok_9, ok_20, ok_21, ok_30, ok_50, ok_180, ok_192, ok_200]
    exact hP J (cH_J hH g1) f f3
  rw [a_enter1 (M := a_m15) rfl (a_cat_rf (a_cat_int (a_cat_int a_cat_nil))) (show 3 ≤ 3 by decide)]
  show a_at _ (a_xm a_m15) 0 [some (a_rf C), some (.int h), some (.int v)] [] _ _
  repeat' first
    | with_reducible apply And.intro
    | with_reducible assumption
    | with_reducible intro _
    | refine cr_refuse hH (fun _ _ => ?_)
    | exact h1 (Or.inl (by assumption)) _ (by assumption)
    | exact h1 (Or.inr (Int32.not_le.mp (by assumption))) _ (by assumption)
    | exact h2 (gneg (by assumption) (by assumption)) (Or.inl (by assumption)) _ (by assumption)
    | exact h2 (gneg (by assumption) (by assumption)) (Or.inr (Or.inl (by assumption))) _ (by assumption)
    | exact h2 (gneg (by assumption) (by assumption)) (Or.inr (Or.inr (Int32.not_lt.mp (by assumption)))) _ (by assumption)
    | exact hgo (by assumption) (by assumption) (by assumption) (by assumption) (by assumption)
    | simp only [q15_0, q15_1, q15_4, q15_5, q15_6, q15_9, q15_10, q15_12, q15_15, q15_16, q15_17, q15_18, q15_21, q15_24, q15_27, q15_28, q15_30, q15_33, q15_34, q15_37, q15_40, q15_42, q15_45, q15_46, q15_48, q15_51, k_0 hS, z_C hS, r_0_0 hS, k_1 hS, z_1, as_nil, as_i, as_r, Nat.reduceAdd, Nat.reduceLeDiff, z_eq0, z_eq1, z_or, z_em, Classical.not_not, not_false_eq_true, not_true_eq_false, true_and, and_true, false_and, and_false, and_self, true_implies, false_implies, implies_true, Option.toList_some, Option.toList_none, List.cons_append, List.nil_append, Nat.add_eq_zero_iff, a_nl_i, a_nl_r, a_nl_n, true_or, or_true, eq_self, a_isRA_22, a_isRA_24, a_isRA_32, a_isA_20, ok_4, ok_5, ok_6, ok_7, ok_9, ok_20, ok_21, ok_30, ok_50, ok_180, ok_192, ok_200]
  all_goals ((try clear hgo); (try clear hr); (try clear hs); (try clear hc); (try clear h0); (try clear h1); (try clear h2); (try clear h3); (try clear h4); (try clear h5); (try clear hP); (try clear hZ); (try clear hH); (try clear hT); (try clear hS); grind [ui_ap])
end ZC1
section ZC2
variable {d n t C c : Nat} {K L : Nat → Nat} {I I0 J J0 J1 J2 : Nat → Nat → Int32} {R : Nat → Nat → Nat} {P : Option Value → AH → Prop}
variable {Y Z W : Nat → Nat → Int32} {R' R1 : Nat → Nat → Nat} {K' L' : Nat → Nat}
theorem cu_trip {m : Nat} (hH : cH C c m t K L I R) (hu : cuP C K L I R Y) (hlb : lbP C I Y) {h v : Int32} (hh : 0 ≤ h ∧ h ≤ Y 0 0) (hv : 1 ≤ v ∧ v ≤ 60) (h2 : Y 0 2 < 20) (hTJ : cT C K L J R) (f1 : ∀ x j, ¬ x = C + 3 → J x j = tX C I h v x j) (f3 : (∀ s k : Nat, s < 200 → k < 8 → (bq (J (C + 3) s) k = true ↔ bq (I (C + 3) s) k = true ∨ (h.toNatClampNeg ≤ 8 * s + k ∧ 8 * s + k < (h + v).toNatClampNeg)))) : cuP C K L J R (tpW Y h v) ∧ lbP C J (tpW Y h v) := by
  have hT := hH.1
  have g0 := hT.g_now
  have e6 : I (C + 1) 6 = Y 0 0 := hu.1.1.1
  have e5 : I (C + 1) 5 = Y 0 2 := hu.2.2.1.2.1.1.1
  rw [e6] at g0
  have hhv : 0 ≤ h + v ∧ h + v ≤ 1660 := by clear hu hlb f1 f3; grind
  have g2 := hT.g_trips
  rw [e5] at g2
  have h22 : 0 ≤ Y 0 2 ∧ Y 0 2 < 20 := ⟨g2.1, h2⟩
  have hlb2 : lbP C J (tpW Y h v) := fun s k hs hk => by
    obtain ⟨o1, o2⟩ := cl_on2 (m := 8 * s + k) (by omega)
    rw [f3 s k hs hk, lk_tp h22, hlb s k hs hk]
    have c0 : (0 : Int32).toInt = 0 := rfl
    have c1 : (1 : Int32).toInt = 1 := rfl
    have w0 := Int32.le_iff_toInt_le.mp hh.1
    have w1 := Int32.le_iff_toInt_le.mp hhv.1
    have w2 := Int32.le_iff_toInt_le.mp hhv.2
    rw [c0] at w0 w1
    rw [show (1660 : Int32).toInt = 1660 from rfl] at w2
    have em : (h + v - 1).toInt = (h + v).toInt - 1 := by
      rw [Int32.toInt_sub, c1]
      simp only [Int.bmod_def]
      omega
    have q1 : h ≤ Int32.ofNat (8 * s + k) ↔ h.toNatClampNeg ≤ 8 * s + k := by
      rw [Int32.le_iff_toInt_le, o2]
      show _ ↔ h.toInt.toNat ≤ _
      omega
    have q2 : Int32.ofNat (8 * s + k) ≤ h + v - 1 ↔ 8 * s + k < (h + v).toNatClampNeg := by
      rw [Int32.le_iff_toInt_le, o2, em]
      show _ ↔ _ < (h + v).toInt.toNat
      omega
    rw [q1, q2]
  refine ⟨?_, hlb2⟩
  have hJ0 : ∀ k j, ¬ (3 ≤ k ∧ k ≤ 6) → ¬ (k = 1 ∧ j = 5) → J (C + k) j = I (C + k) j := fun k j hk hk2 => by
    rw [f1 _ _ (by omega)]
    exact tX_ne (by omega) (by omega) (by omega) (by omega)
  have hJ : ∀ k j, ¬ (3 ≤ k ∧ k ≤ 6) ∧ ¬ (k = 1 ∧ j = 5) → J (C + k) j = I (C + k) j := fun k j hk => hJ0 k j hk.1 hk.2
  have hX : ∀ x j, C + 43 < x → J x j = I x j := fun x j hx => by
    rw [f1 _ _ (by omega)]
    exact tX_ne (by omega) (by omega) (by omega) (by omega)
  have hz : ∀ k j, ¬ (k = 0 ∧ j = 2) ∧ ¬ (2 ≤ k ∧ k ≤ 4) → tpW Y h v k j = Y k j := fun k j hk => tp_no (by omega)
  obtain ⟨b1, b2, b3, b4⟩ := tp_at (Y := Y) (h := h) (v := v)
  have eT := (lp_st h22.1 h22.2).2.2.2
  refine cu_gen hT hu ⟨fun k hk => funext (fun j => hz k j (by omega)), fun j hj => hz 0 j (by omega)⟩ (fE_of hH hX ⟨hJ 14 4 (by omega), hJ 14 5 (by omega)⟩ (hJ 7 3 (by omega))) (by rw [hJ 1 6 (by omega), hz 0 0 (by omega)]; exact hu.1.1.1) (fun j => by rw [hJ 2 j (by omega), hz 1 j (by omega)]; exact hu.1.1.2.1 j) (ls_lb hTJ.g_lost hlb2) ⟨by rw [hJ 14 6 (by omega), hz 0 9 (by omega)]; exact hu.1.2.1.2.1, by rw [hz 0 9 (by omega)]; exact hu.1.2.2.2.2.2.2.2.1⟩ (mr_e hu.1.2.2.1.2.1 hu.1.2.2.1.2.2.1 (fun x kx => hX _ _ (by have := (hT.g_ask x kx).1; omega)) (fun k j hk => hz k j (by unfold kK at hk; omega))) (mk_e hu.1.2.2.2.2.2.2.2.2.2.2.2.1 (fun k j hk => hz k j (by unfold kK at hk; omega))) (siM_e hu.2.2.1.1 (fun k j hk => hJ k j (by omega)) (fun k j hk => hz k j (by unfold kM at hk; omega))) ?_ ?_ (fun e => hX _ _ (by have := (hT.g_ask _ (hu.2.2.1.2.2.1.2 e).1).1; omega))
  · obtain ⟨⟨t1, t2⟩, ⟨t3, t4⟩, t5, t6⟩ := hu.2.2.1.2.1
    have c0 : J C 10 = I C 10 := hJ 0 10 (by omega)
    refine ⟨⟨by rw [f1 _ _ (by omega), tX_1, e5, b4], fun j hj => ?_⟩, ⟨by rw [hJ _ _ (by omega), hz _ _ (by omega)]; exact t3, fun j => by rw [hJ _ _ (by omega), hz 27 _ (by omega)]; exact t4 j⟩, by rw [c0, hz 0 79 (by omega)]; exact t5, fun j hj => by rw [hz 0 79 (by omega)] at hj; rw [hJ _ _ (by omega), hz 52 _ (by omega)]; exact t6 j hj⟩
    rw [b4, eT] at hj
    rw [f1 _ _ (by omega), f1 _ _ (by omega), f1 _ _ (by omega), tX_4, tX_5, tX_6, e5, e6]
    by_cases e : j = (Y 0 2).toNatClampNeg
    · rw [if_pos e, if_pos e, if_pos e, e, b1, b2, b3]
      exact ⟨rfl, rfl, rfl⟩
    · rw [if_neg e, if_neg e, if_neg e, tp_no (by omega), tp_no (by omega), tp_no (by omega)]
      exact t2 j (by omega)
  · obtain ⟨y1, y2, y3, y4, y5, y6, y7, y8⟩ := hu.2.2.1.2.2.2
    have zr : ∀ k, (28 ≤ k ∧ k ≤ 29) ∨ (37 ≤ k ∧ k ≤ 38) ∨ k = 47 → tpW Y h v k = Y k := fun k hk => funext (fun j => hz k j (by omega))
    have wt : ∀ x, wtY (tpW Y h v) x = wtY Y x := fun x => by
      unfold wtY
      rw [zr 28 (by omega)]
    unfold siY
    rw [zr 38 (by omega), zr 37 (by omega), zr 47 (by omega), hz 0 0 (by omega), hz 0 17 (by omega), b4, eT]
    refine ⟨y1, y2, y3, y4, fun x hx => ?_, fun j hj => ?_, y7, fun j hj => ?_⟩
    · rw [hz 0 41 (by omega)] at hx
      rw [wt, zr 29 (by omega)]
      exact y5 x hx
    · by_cases e : j = (Y 0 2).toNatClampNeg
      · rw [e, b1, b2]
        exact ⟨⟨hh.1, Int32.le_trans hh.2 g0.2⟩, hv⟩
      · rw [tp_no (by omega), tp_no (by omega)]
        exact y6 j (by omega)
    · by_cases e : j = (Y 0 2).toNatClampNeg
      · rw [e, b3]
        exact Int32.le_refl _
      · rw [tp_no (by omega)]
        exact y8 j (by omega)
theorem ge_trip (hH : cH C c (n + 1) t K L I R) (hu : cuP C K L I R Y) (hlb : lbP C I Y) {h v : Int32} (hP : ∀ w n' t' K' L' J R', cH C c (n' + 1) t' K' L' J R' → cuP C K' L' J R' (tpY Y h v) ∧ lbP C J (tpY Y h v) → P (some (.int w)) (n' + 1, t', K', L', J, R')) : a_does (d + 70) 15 [a_rf C, .int h, .int v] (n + 1, t, K, L, I, R) P := by
  have hT := hH.1
  have hS := hT.s
  have hc := hu.1
  have e6 : I (C + 1) 6 = Y 0 0 := hu.1.1.1
  have e5 : I (C + 1) 5 = Y 0 2 := hu.2.2.1.2.1.1.1
  have g2 := hT.g_trips
  rw [e5] at g2
  have e20 : (20 ≤ Y 0 2) = (Y 0 2 = 20) := propext ⟨fun q => by clear hP hu hc hlb; grind, fun q => by rw [q]; decide⟩
  have hrf : ∀ J, rfQ C c (n + 1) t K L I R J → cuP C K L J R Y ∧ lbP C J Y := fun J z => ⟨cu_re hH hu z, fun s k hs hk => by rw [z.2 _ _ (by omega)]; exact hlb s k hs hk⟩
  unfold tpY at hP
  refine ky_trip hH (fun q J z => ?_) (fun q q2 J z => ?_) (fun q1 q2 J g f f3 => ?_)
  · rw [if_pos (Or.inl q)] at hP
    exact hP _ n t K L J R z.1 (hrf J z)
  · rw [e6, e5, e20] at q2
    rw [if_pos (Or.inr q2)] at hP
    exact hP _ n t K L J R z.1 (hrf J z)
  · rw [e6, e5, e20] at q2
    rw [if_neg (fun q => q.elim q1 q2)] at hP
    refine hP _ n t K L J R g (cu_trip hH hu hlb ⟨Int32.not_lt.mp (fun w => q1 (Or.inl w)), Int32.not_lt.mp (fun w => q2 (Or.inl w))⟩ ⟨Int32.not_lt.mp (fun w => q1 (Or.inr w)), Int32.not_lt.mp (fun w => q2 (Or.inr (Or.inl w)))⟩ ?_ g.1 f f3)
    have := fun w => q2 (Or.inr (Or.inr w))
    clear hP hu hc hlb f f3 q1 q2 hrf g
    grind
end ZC2
section ZC3
variable {d n t M : Nat} {K L : Nat → Nat} {I I0 J J0 J1 J2 : Nat → Nat → Int32} {R : Nat → Nat → Nat} {P : Option Value → AH → Prop} {f : Nat → Int32} {e : Int32}
variable {Y Z W : Nat → Nat → Int32}
theorem xp_trip (hS : m_S M K L R) {I1 : Nat → Nat → Int32} (hm : okY Y) {c : Nat} (hc : c + 130 ≤ 84000) (hF : mF M c I1 I) (hg : gs M I0 I Y) {h v : Int32} (hP : ∀ w J, J M 35 = I M 35 → gs M I0 J (tpY Y h v) → P (some (.int w)) (n, t, K, L, J, R)) : a_does (d + 13) 175 [a_rf M, .int h, .int v] (n, t, K, L, I, R) P := by
  have hy := hm.1
  have h17 := hy.2.2.2.2.1
  have h10 := hy.2.1
  have h6 := hy.2.2.2.2.2.1
  have hl := hy.2.2.1
  have hrf : ∀ k : Nat, mF M (c + 120) I1 (a_ui I (M + 23) k (I (M + 23) k + 1)) ∧ gs M I0 (a_ui I (M + 23) k (I (M + 23) k + 1)) Y := fun k => ⟨mF_le (sF_refused hF) (by omega), gs_ui hg (sR_refused hg.1) (by omega) ⟨by unfold ps1; omega, by omega⟩⟩
  have e17 : I M 17 = Y 0 17 := hg.2.2.1 0 17 (by unfold ps1; omega)
  have e6 : I M 6 = Y 0 6 := hg.2.2.1 0 6 (by unfold ps1; omega)
  have e0 : I M 0 = Y 0 0 := hg.2.2.1 0 0 (by unfold ps1; omega)
  have m17 : ∀ x : Int32, (x ≤ Y 0 17 - 1) = (x < Y 0 17) := fun x => le_m1 h17
  have m6 : ∀ x : Int32, (x ≤ Y 0 6 - 1) = (x < Y 0 6) := fun x => le_m1 ⟨h6.1, Int32.le_trans h6.2 (by decide)⟩
  have m199 : ∀ x : Int32, (x ≤ 199) = (x < 200) := fun x => propext ⟨fun q => Int32.lt_of_le_of_lt q (by decide), fun q => by clear hP hrf hm hg hF; grind⟩
  have e2 : I M 2 = Y 0 2 := hg.2.2.1 0 2 (by unfold ps1; omega)
  have g2 := rg_trips hg.1
  have g2' := g2
  rw [e2] at g2'
  unfold tpY at hP
  refine pe_trip (d := d + 11) hS g2 (fun q => ?_) (fun q1 q2 => ?_) (fun q1 q2 => ?_)
  · rw [if_pos (Or.inl q)] at hP
    exact hP _ _ (by rw [ui_ap, if_neg (by omega)]) (hrf 4).2
  · rw [e0, e2] at q2
    rw [if_pos (Or.inr q2)] at hP
    exact hP _ _ (by rw [ui_ap, if_neg (by omega)]) (hrf 6).2
  · rw [e0, e2] at q2 ⊢
    rw [if_neg (fun q => q.elim q1 q2)] at hP
    refine hP _ _ (by rw [ui_ap, if_neg (by omega), ui_ap, if_neg (by omega), ui_ap, if_neg (by omega), ui_ap, if_neg (by omega)]) ?_
    have h20 : ¬ Y 0 2 = 20 := fun w => q2 (Or.inr (Or.inr w))
    have s1 := gs_up2 hg (k := 2) (j := (Y 0 2).toNatClampNeg) (v := h) (by omega) (by omega) (sR_tHour hg.1)
    have s2 := gs_up2 s1 (k := 3) (j := (Y 0 2).toNatClampNeg) (v := v) (by omega) (by omega) (sR_tMany s1.1)
    have s3 := gs_up2 s2 (k := 4) (j := (Y 0 2).toNatClampNeg) (v := Y 0 0) (by omega) (by omega) (sR_tFound s2.1)
    exact gs_up2 s3 (k := 0) (j := 2) (v := Y 0 2 + 1) (by omega) (by omega) (sR_trips s3.1 (by clear hP hrf hm hy hl hg hF s1 s2 s3; grind))
end ZC3
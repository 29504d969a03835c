section
/-! the class: rings -/
/-- what trying a ring may change -/
def dR (C : Nat) (K L : Nat → Nat) (R : Nat → Nat → Nat) (I J : Nat → Nat → Int32) : Prop := cT C K L J R ∧ ∀ x j, ¬ x = C + 9 → ¬ x = C + 10 → ¬ x = C + 39 → ¬ x = C + 40 → ¬ x = C + 41 → ¬ (C + 96 < x ∧ (K x = 20 ∨ (K x = 1 ∧ (j = 13 ∨ j = 14)))) → J x j = I x j
def rnP (C : Nat) (R : Nat → Nat → Nat) (m : Int32) : Prop := ∀ i : Int32, 0 ≤ i → i < m → ¬ R (C + 38) i.toNatClampNeg = 0
/-- the next one in a ring of m -/
def nxt (m i : Int32) : Int32 := i + 1 - (i + 1) / m * m
def frP (C : Nat) (J : Nat → Nat → Int32) (R : Nat → Nat → Nat) (m : Int32) : Prop := ∀ i : Int32, 0 ≤ i → i < m → fitP (J (R (C + 38) (nxt m i).toNatClampNeg) 14) (J (R (C + 38) (i).toNatClampNeg) 2)
section KG
variable {d n t C c n0 n' n'' t' : Nat} {K L K0 L0 K' L' K'' L'' : Nat → Nat} {I I0 J J0 J1 J2 : Nat → Nat → Int32} {R R0 R' R'' : Nat → Nat → Nat} {P : Option Value → AH → Prop}
theorem nxt_lt {m i : Int32} (hm : m ≤ 5) (h0 : 0 ≤ i) (h : i < m) : 0 ≤ nxt m i ∧ nxt m i < m := by
  have key : ∀ a b : Fin 6, b.val < a.val → 0 ≤ nxt (Int32.ofNat a.val) (Int32.ofNat b.val) ∧ nxt (Int32.ofNat a.val) (Int32.ofNat b.val) < Int32.ofNat a.val := by decide +kernel
  have c0 : (0 : Int32).toInt = 0 := rfl
  have c5 : (5 : Int32).toInt = 5 := rfl
  have e0 := Int32.le_iff_toInt_le.mp h0
  have e1 := Int32.lt_iff_toInt_lt.mp h
  have e2 := Int32.le_iff_toInt_le.mp hm
  have em : m = Int32.ofNat (⟨m.toInt.toNat, by omega⟩ : Fin 6).val := Int32.toInt_inj.mp (by
    rw [Int32.toInt_ofNat', show Int32.size = 4294967296 from rfl]
    simp only [Int.bmod_def]
    show m.toInt = _
    omega)
  have ei : i = Int32.ofNat (⟨i.toInt.toNat, by omega⟩ : Fin 6).val := Int32.toInt_inj.mp (by
    rw [Int32.toInt_ofNat', show Int32.size = 4294967296 from rfl]
    simp only [Int.bmod_def]
    show i.toInt = _
    omega)
  have := key ⟨m.toInt.toNat, by omega⟩ ⟨i.toInt.toNat, by omega⟩ (by show i.toInt.toNat < m.toInt.toNat; omega)
  rw [← em, ← ei] at this
  exact this
theorem ix4 {i c : Int32} (h : 0 ≤ i ∧ i < 5) (hc : 0 ≤ c ∧ c < 4) : 0 ≤ i * 4 + c ∧ i * 4 + c < 20 := by
  have c0 : (0 : Int32).toInt = 0 := rfl
  have c4 : (4 : Int32).toInt = 4 := rfl
  have c5 : (5 : Int32).toInt = 5 := rfl
  have c20 : (20 : Int32).toInt = 20 := rfl
  have e0 := Int32.le_iff_toInt_le.mp h.1
  have e1 := Int32.lt_iff_toInt_lt.mp h.2
  have e2 := Int32.le_iff_toInt_le.mp hc.1
  have e3 := Int32.lt_iff_toInt_lt.mp hc.2
  have em : (i * 4).toInt = i.toInt * 4 := by
    rw [Int32.toInt_mul, c4]
    simp only [Int.bmod_def]
    omega
  have e : (i * 4 + c).toInt = i.toInt * 4 + c.toInt := by rw [ti_add (by omega), em]
  exact ⟨by rw [Int32.le_iff_toInt_le]; omega, by rw [Int32.lt_iff_toInt_lt]; omega⟩
theorem sh_ok {s l j : Int32} (h : fitP s l) (hl : l ≤ 4) (h0 : 0 ≤ j) (h1 : j < l) : 0 ≤ s + j ∧ s + j < 200 := by
  obtain ⟨q1, q2, q3⟩ := h
  have c0 : (0 : Int32).toInt = 0 := rfl
  have c4 : (4 : Int32).toInt = 4 := rfl
  have c199 : (199 : Int32).toInt = 199 := rfl
  have c200 : (200 : Int32).toInt = 200 := rfl
  have e0 := Int32.le_iff_toInt_le.mp h0
  have e1 := Int32.lt_iff_toInt_lt.mp h1
  have e2 := Int32.le_iff_toInt_le.mp hl
  have e3 := Int32.le_iff_toInt_le.mp q1
  have e4 := Int32.le_iff_toInt_le.mp q2
  have e5 := Int32.le_iff_toInt_le.mp q3
  rw [ti_add (by omega)] at e5
  have e : (s + j).toInt = s.toInt + j.toInt := ti_add (by omega)
  exact ⟨by rw [Int32.le_iff_toInt_le]; omega, by rw [Int32.lt_iff_toInt_lt]; omega⟩
theorem dR_refl (h : cT C K L I R) : dR C K L R I I := ⟨h, fun _ _ _ _ _ _ _ _ => rfl⟩
theorem dR_L (h : dR C K L R I0 I) (h2 : dL C K L R I J) : dR C K L R I0 J := ⟨h2.1, fun x j p q r s u v => (h2.2 x j p q v).trans (h.2 x j p q r s u v)⟩
theorem dR_G (h : dR C K L R I J) : dG C K L R I J := ⟨h.1, fun x j p => h.2 x j (by unfold eD at p; omega) (by unfold eD at p; omega) (by unfold eD at p; omega) (by unfold eD at p; omega) (by unfold eD at p; omega) (by unfold eD at p; omega)⟩
theorem dR_sz (h : dR C K L R I J) : J (C + 35) 7 = I (C + 35) 7 := h.2 _ _ (by omega) (by omega) (by omega) (by omega) (by omega) (by omega)
theorem dL_39 (h : dL C K L R I J) (j : Nat) : J (C + 39) j = I (C + 39) j := h.2 _ _ (by omega) (by omega) (by omega)
theorem dL_40 (h : dL C K L R I J) (j : Nat) : J (C + 40) j = I (C + 40) j := h.2 _ _ (by omega) (by omega) (by omega)
theorem ck_memberAt {q : Int32} (hT : cT C K L I R) (hN : rnP C R (I (C + 35) 7)) (hP : ∀ v, P (some (.int v)) (n, t, K, L, I, R)) : a_does (d + 1) 157 [a_rf (C + 35), .int q] (n, t, K, L, I, R) P := by
  have hS := hT.s
  have g := hT.g_circle
  have gr := hT.g_ringR q.toNatClampNeg
  have hn := hN q
  rw [a_enter1 (M := a_m157) rfl (a_cat_rf (a_cat_int a_cat_nil)) (show 2 ≤ 2 by decide)]
  show a_at _ (a_xm a_m157) 0 [some (a_rf (C + 35)), some (.int q)] [] _ _
  repeat' first
    | with_reducible apply And.intro
    | with_reducible assumption
    | with_reducible intro _
    | with_reducible apply hP
    | simp only [q157_0, q157_1, q157_4, q157_5, q157_6, q157_9, q157_12, q157_13, q157_16, q157_17, q157_18, q157_21, q157_24, q157_26, k_35 hS, z_35, r_35_3 hS, k_38 hS, l_38 hS, z_38, as_nil, as_i, as_r, Nat.reduceAdd, Nat.reduceLeDiff, z_eq0, z_eq1, z_or, z_em, Classical.not_not, not_false_eq_true, not_true_eq_false, true_and, and_true, false_and, and_false, and_self, true_implies, false_implies, implies_true, Option.toList_some, Option.toList_none, List.cons_append, List.nil_append, Nat.add_eq_zero_iff, a_nl_i, a_nl_r, a_nl_n, true_or, or_true, eq_self, a_isRA_22, a_isRA_24, a_isRA_32, a_isA_20, ok_4, ok_5, ok_6, ok_7, ok_9, ok_20, ok_21, ok_30, ok_50, ok_180, ok_192, ok_200]
  all_goals ((try clear ih); (try clear hP); (try clear hl); (try clear hq); (try clear a3); grind [ui_ap])
theorem ck_circleTell {q r w : Int32} (hr : 0 ≤ r ∧ r < 30) (hw : w = 0 ∨ w = 1) (hG : dG C K L R I0 I) (hP : ∀ v J, dG C K L R I0 J → P (some (.int v)) (n, t, K, L, J, R)) : a_does (d + 1) 148 [a_rf (C + 35), .int r, .int q, .int w] (n, t, K, L, I, R) P := by
  have hT := hG.1
  have hS := hT.s
  have hw : ∀ k v, dG C K L R I0 (a_ui I (C + 36) k v) := fun k v => dG_36 hG
  rw [a_enter1 (M := a_m148) rfl (a_cat_rf (a_cat_int (a_cat_int (a_cat_int a_cat_nil)))) (show 4 ≤ 5 by decide)]
  show a_at _ (a_xm a_m148) 0 [some (a_rf (C + 35)), some (.int r), some (.int q), some (.int w), none] [] _ _
  repeat' first
    | with_reducible apply And.intro
    | with_reducible assumption
    | with_reducible intro _
    | with_reducible apply hP
    | with_reducible apply hw
    | simp only [q148_0, q148_1, q148_4, q148_5, q148_6, q148_7, q148_8, q148_9, q148_10, q148_13, q148_14, q148_17, q148_18, q148_20, q148_21, q148_24, q148_25, q148_28, q148_29, q148_30, q148_31, q148_32, q148_33, q148_34, q148_35, q148_36, q148_39, q148_40, q148_43, q148_44, q148_45, q148_46, q148_47, q148_48, q148_49, q148_50, q148_51, q148_52, q148_53, q148_55, q148_56, q148_59, q148_60, q148_63, q148_64, k_35 hS, z_35, r_35_1 hS, k_36 hS, l_36 hS, z_36, as_nil, as_i, as_r, Nat.reduceAdd, Nat.reduceLeDiff, z_eq0, z_eq1, z_or, z_em, Classical.not_not, not_false_eq_true, not_true_eq_false, true_and, and_true, false_and, and_false, and_self, true_implies, false_implies, implies_true, Option.toList_some, Option.toList_none, List.cons_append, List.nil_append, Nat.add_eq_zero_iff, a_nl_i, a_nl_r, a_nl_n, true_or, or_true, eq_self, a_isRA_22, a_isRA_24, a_isRA_32, a_isA_20, ok_4, ok_5, ok_6, ok_7, ok_9, ok_20, ok_21, ok_30, ok_50, ok_180, ok_192, ok_200, ui_ap, cc_ne, cc_n0, cc_0n, Nat.reduceEqDiff, reduceIte, if_true, if_false]
  all_goals ((try clear ih); (try clear hP); (try clear hl); (try clear hq); (try clear a3); grind [ui_ap])
theorem lk_soundWishes_31 {q : Int32} (hq3 : 0 ≤ q ∧ q < 30) {a : Nat} (ha : K a = 1) (hT : cT C K L I R) (hP : ∀ v J, dC C K L R I J → P (some (.int v)) (n, t, K, L, J, R)) : ∀ i : Int32, i ≤ 30 → ∀ J o u, 0 ≤ i → dC C K L R I J → a_at (d + 5) (a_xm a_m151) 31 [some (a_rf (C + 35)), some (.int q), some (a_rf a), some (.int o), some (.int i), u] [] (n, t, K, L, J, R) P := by
  have a1 := (hT.g_ask a ha).1
  have a0 : (a = 0) = False := eq_false (by omega)
  refine up_ind 30 (fun i hk ih => ?_)
  intro J o u q0 hJ
  have hT := hJ.1
  have hS := hT.s
  have gA := hT.g_asksR
  have gB := hT.g_benchesR
  have gX := hT.g_textsR
  have gc := hT.g_asks
  have gi := gA i.toNatClampNeg
  rw [q151_31]
  repeat' first
    | with_reducible apply And.intro
    | with_reducible assumption
    | with_reducible intro _
    | with_reducible apply hP
    | with_reducible apply ih
    | with_reducible apply ck_isIn
    | with_reducible apply ck_suits ha hT
    | with_reducible apply dC_C
    | simp only [q151_33, q151_34, q151_37, q151_40, q151_43, q151_44, q151_47, q151_49, q151_52, q151_54, q151_56, q151_59, q151_60, q151_63, q151_64, q151_65, q151_67, q151_70, q151_73, q151_74, q151_77, q151_79, q151_82, q151_85, q151_87, q151_90, q151_91, q151_94, q151_97, q151_98, q151_101, q151_102, q151_104, q151_107, q151_109, q151_112, q151_115, q151_118, q151_119, q151_120, q151_122, q151_123, q151_124, q151_125, q151_128, q151_131, q151_132, k_35 hS, z_35, r_35_0 hS, k_14 hS, z_14, r_35_1 hS, k_36 hS, l_36 hS, z_36, sp_askAt hS gA, sp_mayMove hS, as_nil, as_i, as_r, Nat.reduceAdd, Nat.reduceLeDiff, z_eq0, z_eq1, z_or, z_em, Classical.not_not, not_false_eq_true, not_true_eq_false, true_and, and_true, false_and, and_false, and_self, true_implies, false_implies, implies_true, Option.toList_some, Option.toList_none, List.cons_append, List.nil_append, Nat.add_eq_zero_iff, a_nl_i, a_nl_r, a_nl_n, true_or, or_true, eq_self, a_isRA_22, a_isRA_24, a_isRA_32, a_isA_20, ok_4, ok_5, ok_6, ok_7, ok_9, ok_20, ok_21, ok_30, ok_50, ok_180, ok_192, ok_200, ha, a0]
  all_goals ((try clear ih); (try clear hP); (try clear hl); (try clear hq); (try clear a3); grind [ui_ap])
theorem ck_soundWishes {q : Int32} (hq3 : 0 ≤ q ∧ q < 30) (hT : cT C K L I R) (hP : ∀ v J, dC C K L R I J → P (some (.int v)) (n, t, K, L, J, R)) : a_does (d + 6) 151 [a_rf (C + 35), .int q] (n, t, K, L, I, R) P := by
  have hS := hT.s
  have gA := hT.g_asksR
  have gB := hT.g_benchesR
  have gX := hT.g_textsR
  have gi := gA q.toNatClampNeg
  have hr := dC_refl hT
  have hl := fun (ha : K (R (C + 15) q.toNatClampNeg) = 1) u => lk_soundWishes_31 (d := d) hq3 ha hT hP 0 (by decide) I 0 u (by decide) hr
  rw [a_enter1 (M := a_m151) rfl (a_cat_rf (a_cat_int a_cat_nil)) (show 2 ≤ 6 by decide)]
  show a_at _ (a_xm a_m151) 0 [some (a_rf (C + 35)), some (.int q), none, none, none, none] [] _ _
  repeat' first
    | with_reducible apply And.intro
    | with_reducible assumption
    | with_reducible intro _
    | with_reducible apply hP
    | with_reducible apply hl
    | simp only [q151_0, q151_1, q151_4, q151_5, q151_8, q151_9, q151_10, q151_13, q151_14, q151_17, q151_18, q151_21, q151_24, q151_25, q151_26, q151_27, q151_28, q151_29, k_35 hS, z_35, r_35_0 hS, k_14 hS, z_14, sp_askAt hS gA, sp_mayMove hS, as_nil, as_i, as_r, Nat.reduceAdd, Nat.reduceLeDiff, z_eq0, z_eq1, z_or, z_em, Classical.not_not, not_false_eq_true, not_true_eq_false, true_and, and_true, false_and, and_false, and_self, true_implies, false_implies, implies_true, Option.toList_some, Option.toList_none, List.cons_append, List.nil_append, Nat.add_eq_zero_iff, a_nl_i, a_nl_r, a_nl_n, true_or, or_true, eq_self, a_isRA_22, a_isRA_24, a_isRA_32, a_isA_20, ok_4, ok_5, ok_6, ok_7, ok_9, ok_20, ok_21, ok_30, ok_50, ok_180, ok_192, ok_200]
  all_goals ((try clear ih); (try clear hP); (try clear hl); (try clear hq); (try clear a3); grind [ui_ap])
theorem lk_isNewGroup_2 {g m : Int32} (hm : m ≤ 5) (hN : rnP C R m) (hT : cT C K L I R) (hP : ∀ v, P (some (.int v)) (n, t, K, L, I, R)) : ∀ i : Int32, i ≤ 5 → 0 ≤ i → a_at d (a_xm a_m156) 2 [some (a_rf (C + 35)), some (.int g), some (.int m), some (.int i)] [] (n, t, K, L, I, R) P := by
  have hS := hT.s
  refine up_ind 5 (fun i hk ih => ?_)
  intro q0
  have gr := hT.g_ringR i.toNatClampNeg
  have hn := hN i q0
  rw [q156_2]
  repeat' first
    | with_reducible apply And.intro
    | with_reducible assumption
    | with_reducible intro _
    | with_reducible apply hP
    | with_reducible apply ih
    | simp only [q156_3, q156_4, q156_7, q156_8, q156_11, q156_12, q156_13, q156_16, q156_17, q156_20, q156_21, q156_22, q156_25, q156_28, q156_29, k_35 hS, z_35, r_35_3 hS, k_38 hS, l_38 hS, z_38, as_nil, as_i, as_r, Nat.reduceAdd, Nat.reduceLeDiff, z_eq0, z_eq1, z_or, z_em, Classical.not_not, not_false_eq_true, not_true_eq_false, true_and, and_true, false_and, and_false, and_self, true_implies, false_implies, implies_true, Option.toList_some, Option.toList_none, List.cons_append, List.nil_append, Nat.add_eq_zero_iff, a_nl_i, a_nl_r, a_nl_n, true_or, or_true, eq_self, a_isRA_22, a_isRA_24, a_isRA_32, a_isA_20, ok_4, ok_5, ok_6, ok_7, ok_9, ok_20, ok_21, ok_30, ok_50, ok_180, ok_192, ok_200]
  all_goals ((try clear ih); (try clear hP); (try clear hl); (try clear hq); (try clear a3); grind [ui_ap])
theorem ck_isNewGroup {g m : Int32} (hm : m ≤ 5) (hN : rnP C R m) (hT : cT C K L I R) (hP : ∀ v, P (some (.int v)) (n, t, K, L, I, R)) : a_does (d + 1) 156 [a_rf (C + 35), .int g, .int m] (n, t, K, L, I, R) P := by
  have hS := hT.s
  have hl := lk_isNewGroup_2 (d := d) (g := g) hm hN hT hP 0 (by decide) (by decide)
  rw [a_enter1 (M := a_m156) rfl (a_cat_rf (a_cat_int (a_cat_int a_cat_nil))) (show 3 ≤ 4 by decide)]
  show a_at _ (a_xm a_m156) 0 [some (a_rf (C + 35)), some (.int g), some (.int m), none] [] _ _
  repeat' first
    | with_reducible apply And.intro
    | with_reducible assumption
    | with_reducible intro _
    | with_reducible apply hl
    | simp only [q156_0, q156_1, as_nil, as_i, as_r, Nat.reduceAdd, Nat.reduceLeDiff, z_eq0, z_eq1, z_or, z_em, Classical.not_not, not_false_eq_true, not_true_eq_false, true_and, and_true, false_and, and_false, and_self, true_implies, false_implies, implies_true, Option.toList_some, Option.toList_none, List.cons_append, List.nil_append, Nat.add_eq_zero_iff, a_nl_i, a_nl_r, a_nl_n, true_or, or_true, eq_self, a_isRA_22, a_isRA_24, a_isRA_32, a_isA_20, ok_4, ok_5, ok_6, ok_7, ok_9, ok_20, ok_21, ok_30, ok_50, ok_180, ok_192, ok_200]
  all_goals ((try clear ih); (try clear hP); (try clear hl); (try clear hq); (try clear a3); grind [ui_ap])
theorem lk_keep_52 {i : Int32} (hi : 0 ≤ i ∧ i < 5) (hn : ¬ (R (C + 38) (i).toNatClampNeg) = 0) {x : Nat} (hx : x = 0 ∨ (K x = 3 ∧ 0 ≤ I (R (C + 38) (i).toNatClampNeg) 13)) (hT0 : cT C K L I R) (hP : ∀ J2, cT C K L J2 R → (∀ x j, ¬ x = C + 41 → J2 x j = J x j) → ∀ u, a_at d (a_xm a_m154) 94 [some (a_rf (C + 35)), some (.int i), some (a_rf (R (C + 38) (i).toNatClampNeg)), some (a_rf x), u] [] (n, t, K, L, J2, R) P) (hJ : cT C K L J R) (hF : (∀ x j, ¬ x = C + 39 → ¬ x = C + 40 → ¬ x = C + 41 → J x j = I x j)) : ∀ j : Int32, j ≤ 4 → ∀ J2, 0 ≤ j → cT C K L J2 R → (∀ x j, ¬ x = C + 41 → J2 x j = J x j) → a_at d (a_xm a_m154) 52 [some (a_rf (C + 35)), some (.int i), some (a_rf (R (C + 38) (i).toNatClampNeg)), some (a_rf x), some (.int j)] [] (n, t, K, L, J2, R) P := by
  have ha := (hT0.g_ringR i.toNatClampNeg).resolve_left hn
  obtain ⟨a1, a2, a4, a3⟩ := hT0.g_ask _ ha
  refine up_ind 4 (fun j hk ih => ?_)
  intro J2 q0 hT hF2
  have hS := hT.s
  have e2 : J2 (R (C + 38) (i).toNatClampNeg) 2 = I (R (C + 38) (i).toNatClampNeg) 2 := by rw [hF2 _ _ (by omega), hF _ _ (by omega) (by omega) (by omega)]
  have e14 : J2 (R (C + 38) (i).toNatClampNeg) 14 = I (R (C + 38) (i).toNatClampNeg) 14 := by rw [hF2 _ _ (by omega), hF _ _ (by omega) (by omega) (by omega)]
  have hend := hP J2 hT hF2
  rw [q154_52]
  simp only [q154_54, q154_55, q154_58, q154_61, q154_62, k_35 hS, z_35, as_nil, as_i, as_r, Nat.reduceAdd, Nat.reduceLeDiff, z_eq0, z_eq1, z_or, z_em, Classical.not_not, not_false_eq_true, not_true_eq_false, true_and, and_true, false_and, and_false, and_self, true_implies, false_implies, implies_true, Option.toList_some, Option.toList_none, List.cons_append, List.nil_append, Nat.add_eq_zero_iff, a_nl_i, a_nl_r, a_nl_n, true_or, or_true, eq_self, a_isRA_22, a_isRA_24, a_isRA_32, a_isA_20, ok_4, ok_5, ok_6, ok_7, ok_9, ok_20, ok_21, ok_30, ok_50, ok_180, ok_192, ok_200, ha, hn, e2]
  refine ⟨fun _ => hend _, fun h1 => ⟨fun _ => hend _, fun h2 => ?_⟩⟩
  obtain ⟨hb, hp⟩ := hx.resolve_left h2
  have hs := sh_ok (a3 hp) a2.2 q0 (Int32.not_le.mp h1)
  have hj4 : 0 ≤ j ∧ j < 4 := by clear hP ih hT0 hT hJ hF hF2; grind
  have h20 := ix4 hi hj4
  obtain ⟨b1, -, ⟨s1, s2, s3⟩, -⟩ := hT.g_bnc x hb
  have s0 : (R x 3 = 0) = False := eq_false (by omega)
  have ih := fun v => ih hj4.2 (a_ui J2 (C + 41) (i * 4 + j).toNatClampNeg v) (by clear hP ih hT0 hT hJ hF hF2; grind) (sT_Circle_stood hT) (fun y k e => by rw [ui_ap, if_neg (fun e2 => e e2.1)]; exact hF2 y k e)
  simp only [q154_65, q154_66, q154_69, q154_70, q154_71, q154_72, q154_74, q154_75, q154_76, q154_79, q154_80, q154_83, q154_85, q154_86, q154_87, q154_88, q154_91, k_35 hS, z_35, r_35_6 hS, k_41 hS, l_41 hS, z_41, as_nil, as_i, as_r, Nat.reduceAdd, Nat.reduceLeDiff, z_eq0, z_eq1, z_or, z_em, Classical.not_not, not_false_eq_true, not_true_eq_false, true_and, and_true, false_and, and_false, and_self, true_implies, false_implies, implies_true, Option.toList_some, Option.toList_none, List.cons_append, List.nil_append, Nat.add_eq_zero_iff, a_nl_i, a_nl_r, a_nl_n, true_or, or_true, eq_self, a_isRA_22, a_isRA_24, a_isRA_32, a_isA_20, ok_4, ok_5, ok_6, ok_7, ok_9, ok_20, ok_21, ok_30, ok_50, ok_180, ok_192, ok_200, ui_ap, cc_ne, cc_n0, cc_0n, Nat.reduceEqDiff, reduceIte, if_true, if_false, ha, hn, hb, h2, s0, s2, s3, e14]
  repeat' first
    | with_reducible apply And.intro
    | exact hs.1
    | exact hs.2
    | exact h20.1
    | exact h20.2
    | exact ih _
theorem lk_keep_2 (hT0 : cT C K L I R) (hN : rnP C R (I (C + 35) 7)) (hP : ∀ J, cT C K L J R → (∀ x j, ¬ x = C + 39 → ¬ x = C + 40 → ¬ x = C + 41 → J x j = I x j) → (∀ k : Int32, 0 ≤ k → k < I (C + 35) 7 → J (C + 39) k.toNatClampNeg = I (R (C + 38) (k).toNatClampNeg) 13 ∧ J (C + 40) k.toNatClampNeg = I (R (C + 38) (k).toNatClampNeg) 14) → P none (n, t, K, L, J, R)) : ∀ i : Int32, i ≤ 5 → ∀ J u w v, 0 ≤ i → cT C K L J R → (∀ x j, ¬ x = C + 39 → ¬ x = C + 40 → ¬ x = C + 41 → J x j = I x j) → (∀ k : Int32, 0 ≤ k → k < i → J (C + 39) k.toNatClampNeg = I (R (C + 38) (k).toNatClampNeg) 13 ∧ J (C + 40) k.toNatClampNeg = I (R (C + 38) (k).toNatClampNeg) 14) → a_at (d + 1) (a_xm a_m154) 2 [some (a_rf (C + 35)), some (.int i), u, w, v] [] (n, t, K, L, J, R) P := by
  refine up_ind 5 (fun i hk ih => ?_)
  intro J u w v q0 hT hF hK
  have hS := hT.s
  have gA := hT.g_asksR
  have gB := hT.g_benchesR
  have gX := hT.g_textsR
  have gs := hT.g_circle
  have es : J (C + 35) 7 = I (C + 35) 7 := hF _ _ (by omega) (by omega) (by omega)
  rw [q154_2]
  simp only [q154_3, q154_4, q154_7, q154_10, q154_11, q154_14, q154_15, k_35 hS, z_35, r_35_3 hS, k_38 hS, l_38 hS, z_38, as_nil, as_i, as_r, Nat.reduceAdd, Nat.reduceLeDiff, z_eq0, z_eq1, z_or, z_em, Classical.not_not, not_false_eq_true, not_true_eq_false, true_and, and_true, false_and, and_false, and_self, true_implies, false_implies, implies_true, Option.toList_some, Option.toList_none, List.cons_append, List.nil_append, Nat.add_eq_zero_iff, a_nl_i, a_nl_r, a_nl_n, true_or, or_true, eq_self, a_isRA_22, a_isRA_24, a_isRA_32, a_isA_20, ok_4, ok_5, ok_6, ok_7, ok_9, ok_20, ok_21, ok_30, ok_50, ok_180, ok_192, ok_200]
  refine ⟨fun h1 => ?_, fun h1 => ?_⟩
  · simp only [q154_100, as_nil, as_i, as_r, Nat.reduceAdd, Nat.reduceLeDiff, z_eq0, z_eq1, z_or, z_em, Classical.not_not, not_false_eq_true, not_true_eq_false, true_and, and_true, false_and, and_false, and_self, true_implies, false_implies, implies_true, Option.toList_some, Option.toList_none, List.cons_append, List.nil_append, Nat.add_eq_zero_iff, a_nl_i, a_nl_r, a_nl_n, true_or, or_true, eq_self, a_isRA_22, a_isRA_24, a_isRA_32, a_isA_20, ok_4, ok_5, ok_6, ok_7, ok_9, ok_20, ok_21, ok_30, ok_50, ok_180, ok_192, ok_200]
    exact hP J hT hF (fun k k0 k1 => hK k k0 (by rw [← es] at k1; clear hP ih hK hF hT hN; grind))
  · have hi : 0 ≤ i ∧ i < 5 := by clear hP ih hK hF hT hN; grind
    have hn := hN i q0 (by rw [← es]; exact Int32.not_le.mp h1)
    have ha := (hT0.g_ringR i.toNatClampNeg).resolve_left hn
    obtain ⟨a1, a2, a4, a3⟩ := hT0.g_ask _ ha
    have e13 : J (R (C + 38) (i).toNatClampNeg) 13 = I (R (C + 38) (i).toNatClampNeg) 13 := hF _ _ (by omega) (by omega) (by omega)
    have e14 : J (R (C + 38) (i).toNatClampNeg) 14 = I (R (C + 38) (i).toNatClampNeg) 14 := hF _ _ (by omega) (by omega) (by omega)
    have n39 : ((R (C + 38) (i).toNatClampNeg) = C + 39) = False := eq_false (by omega)
    have n40 : ((R (C + 38) (i).toNatClampNeg) = C + 40) = False := eq_false (by omega)
    have gb := gB (I (R (C + 38) (i).toNatClampNeg) 13).toNatClampNeg
    have hT2 : cT C K L (a_ui (a_ui J (C + 39) i.toNatClampNeg (I (R (C + 38) (i).toNatClampNeg) 13)) (C + 40) i.toNatClampNeg (I (R (C + 38) (i).toNatClampNeg) 14)) R := sT_Circle_shift (sT_Circle_bench hT)
    have hF2 : ∀ x j, ¬ x = C + 39 → ¬ x = C + 40 → ¬ x = C + 41 → a_ui (a_ui J (C + 39) i.toNatClampNeg (I (R (C + 38) (i).toNatClampNeg) 13)) (C + 40) i.toNatClampNeg (I (R (C + 38) (i).toNatClampNeg) 14) x j = I x j := fun x j p q r => by rw [ui_ap, if_neg (fun e => q e.1), ui_ap, if_neg (fun e => p e.1)]; exact hF x j p q r
    have hmain : ∀ x, x = 0 ∨ (K x = 3 ∧ 0 ≤ I (R (C + 38) (i).toNatClampNeg) 13) → a_at (d + 1) (a_xm a_m154) 52 [some (a_rf (C + 35)), some (.int i), some (a_rf (R (C + 38) (i).toNatClampNeg)), some (a_rf x), some (.int 0)] [] (n, t, K, L, (a_ui (a_ui J (C + 39) i.toNatClampNeg (I (R (C + 38) (i).toNatClampNeg) 13)) (C + 40) i.toNatClampNeg (I (R (C + 38) (i).toNatClampNeg) 14)), R) P := fun x hx => by
      refine lk_keep_52 hi hn hx hT0 (fun J2 t2 f2 u2 => ?_) hT2 hF2 0 (by decide) _ (by decide) hT2 (fun _ _ _ => rfl)
      simp only [q154_94, q154_97, as_nil, as_i, as_r, Nat.reduceAdd, Nat.reduceLeDiff, z_eq0, z_eq1, z_or, z_em, Classical.not_not, not_false_eq_true, not_true_eq_false, true_and, and_true, false_and, and_false, and_self, true_implies, false_implies, implies_true, Option.toList_some, Option.toList_none, List.cons_append, List.nil_append, Nat.add_eq_zero_iff, a_nl_i, a_nl_r, a_nl_n, true_or, or_true, eq_self, a_isRA_22, a_isRA_24, a_isRA_32, a_isA_20, ok_4, ok_5, ok_6, ok_7, ok_9, ok_20, ok_21, ok_30, ok_50, ok_180, ok_192, ok_200]
      refine ih hi.2 J2 _ _ _ (by clear hP ih hK hF hT hN; grind) t2 (fun y k p q r => by rw [f2 y k r]; exact hF2 y k p q r) (fun k k0 k1 => ?_)
      rw [f2 _ _ (by omega), f2 _ _ (by omega)]
      by_cases e : k = i
      · subst e
        rw [ui_ap, if_neg (by omega), ui_ap, if_pos ⟨rfl, rfl⟩, ui_ap, if_pos ⟨rfl, rfl⟩]
        exact ⟨rfl, rfl⟩
      · have ne : ¬ k.toNatClampNeg = i.toNatClampNeg := fun q => e (cl_inj k0 q0 q)
        rw [ui_ap, if_neg (by omega), ui_ap, if_neg (fun q => ne q.2), ui_ap, if_neg (fun q => ne q.2), ui_ap, if_neg (by omega)]
        exact hK k k0 (by clear hP ih hK hF hT hN; grind)
    refine ⟨hi, ?_⟩
    simp only [q154_16, q154_17, q154_18, q154_21, q154_22, q154_25, q154_28, q154_29, q154_30, q154_33, q154_34, q154_35, q154_38, q154_39, q154_40, q154_43, q154_44, q154_45, q154_48, q154_49, q154_50, k_35 hS, z_35, r_35_0 hS, k_14 hS, z_14, r_35_4 hS, k_39 hS, l_39 hS, z_39, r_35_5 hS, k_40 hS, l_40 hS, z_40, sp_benchAt hS gB, as_nil, as_i, as_r, Nat.reduceAdd, Nat.reduceLeDiff, z_eq0, z_eq1, z_or, z_em, Classical.not_not, not_false_eq_true, not_true_eq_false, true_and, and_true, false_and, and_false, and_self, true_implies, false_implies, implies_true, Option.toList_some, Option.toList_none, List.cons_append, List.nil_append, Nat.add_eq_zero_iff, a_nl_i, a_nl_r, a_nl_n, true_or, or_true, eq_self, a_isRA_22, a_isRA_24, a_isRA_32, a_isA_20, ok_4, ok_5, ok_6, ok_7, ok_9, ok_20, ok_21, ok_30, ok_50, ok_180, ok_192, ok_200, ui_ap, cc_ne, cc_n0, cc_0n, Nat.reduceEqDiff, reduceIte, if_true, if_false, ha, hn, e13, e14, n39, n40]
    repeat' first
      | with_reducible apply And.intro
      | with_reducible intro _
      | exact hi.1
      | exact hi.2
      | exact hmain _ (Or.inl rfl)
      | (refine hmain _ (gb.imp id (fun hk3 => ⟨hk3, ?_⟩)); rename_i h8; exact h8.1)
    all_goals skip
theorem ck_keepPlaces (hT0 : cT C K L I R) (hN : rnP C R (I (C + 35) 7)) (hP : ∀ J, cT C K L J R → (∀ x j, ¬ x = C + 39 → ¬ x = C + 40 → ¬ x = C + 41 → J x j = I x j) → (∀ k : Int32, 0 ≤ k → k < I (C + 35) 7 → J (C + 39) k.toNatClampNeg = I (R (C + 38) (k).toNatClampNeg) 13 ∧ J (C + 40) k.toNatClampNeg = I (R (C + 38) (k).toNatClampNeg) 14) → P none (n, t, K, L, J, R)) : a_does (d + 2) 154 [a_rf (C + 35)] (n, t, K, L, I, R) P := by
  have hS := hT0.s
  have hl := fun u w v => lk_keep_2 (d := d) hT0 hN hP 0 (by decide) I u w v (by decide) hT0 (fun _ _ _ _ _ => rfl) (fun k k0 k1 => absurd k1 (Int32.not_lt.mpr k0))
  rw [a_enter1 (M := a_m154) rfl (a_cat_rf a_cat_nil) (show 1 ≤ 5 by decide)]
  show a_at _ (a_xm a_m154) 0 [some (a_rf (C + 35)), none, none, none, none] [] _ _
  repeat' first
    | with_reducible apply And.intro
    | with_reducible assumption
    | with_reducible intro _
    | with_reducible apply hl
    | simp only [q154_0, q154_1, as_nil, as_i, as_r, Nat.reduceAdd, Nat.reduceLeDiff, z_eq0, z_eq1, z_or, z_em, Classical.not_not, not_false_eq_true, not_true_eq_false, true_and, and_true, false_and, and_false, and_self, true_implies, false_implies, implies_true, Option.toList_some, Option.toList_none, List.cons_append, List.nil_append, Nat.add_eq_zero_iff, a_nl_i, a_nl_r, a_nl_n, true_or, or_true, eq_self, a_isRA_22, a_isRA_24, a_isRA_32, a_isA_20, ok_4, ok_5, ok_6, ok_7, ok_9, ok_20, ok_21, ok_30, ok_50, ok_180, ok_192, ok_200]
  all_goals ((try clear ih); (try clear hP); (try clear hl); (try clear hq); (try clear a3); grind [ui_ap])
theorem lk_restore_44 {i : Int32} (hi : 0 ≤ i ∧ i < 5) {a : Nat} (ha : K a = 1) {x : Nat} (hx : x = 0 ∨ (K x = 3 ∧ fitP (I (C + 40) i.toNatClampNeg) (I a 2))) (hP : ∀ J, dL C K L R I J → (∀ b, K b = 1 → J b 13 = I b 13 ∧ J b 14 = I b 14) → P none (n, t, K, L, J, R)) (hT0 : cT C K L I R) : ∀ j : Int32, j ≤ 4 → ∀ J, 0 ≤ j → dL C K L R I J → (∀ b, K b = 1 → J b 13 = I b 13 ∧ J b 14 = I b 14) → a_at (d + 1) (a_xm a_m155) 44 [some (a_rf (C + 35)), some (.int i), some (a_rf a), some (a_rf x), some (.int j)] [] (n, t, K, L, J, R) P := by
  have a1 := (hT0.g_ask a ha).1
  have a2 := (hT0.g_ask a ha).2.1
  have a0 : (a = 0) = False := eq_false (by omega)
  refine up_ind 4 (fun j hk ih => ?_)
  intro J q0 hL hA
  have hT := hL.1
  have hS := hT.s
  have e2 := dL_at hL hT0 ha 2 (by decide) (by decide)
  have hend := hP J hL hA
  rw [q155_44]
  simp only [q155_46, q155_47, q155_50, q155_53, q155_54, k_35 hS, z_35, as_nil, as_i, as_r, Nat.reduceAdd, Nat.reduceLeDiff, z_eq0, z_eq1, z_or, z_em, Classical.not_not, not_false_eq_true, not_true_eq_false, true_and, and_true, false_and, and_false, and_self, true_implies, false_implies, implies_true, Option.toList_some, Option.toList_none, List.cons_append, List.nil_append, Nat.add_eq_zero_iff, a_nl_i, a_nl_r, a_nl_n, true_or, or_true, eq_self, a_isRA_22, a_isRA_24, a_isRA_32, a_isA_20, ok_4, ok_5, ok_6, ok_7, ok_9, ok_20, ok_21, ok_30, ok_50, ok_180, ok_192, ok_200, ha, a0, e2]
  have hend2 : a_at (d + 1) (a_xm a_m155) 91 [some (a_rf (C + 35)), some (.int i), some (a_rf a), some (a_rf x), some (.int j)] [] (n, t, K, L, J, R) P := by
    simp only [q155_91, as_nil, as_i, as_r, Nat.reduceAdd, Nat.reduceLeDiff, z_eq0, z_eq1, z_or, z_em, Classical.not_not, not_false_eq_true, not_true_eq_false, true_and, and_true, false_and, and_false, and_self, true_implies, false_implies, implies_true, Option.toList_some, Option.toList_none, List.cons_append, List.nil_append, Nat.add_eq_zero_iff, a_nl_i, a_nl_r, a_nl_n, true_or, or_true, eq_self, a_isRA_22, a_isRA_24, a_isRA_32, a_isA_20, ok_4, ok_5, ok_6, ok_7, ok_9, ok_20, ok_21, ok_30, ok_50, ok_180, ok_192, ok_200]
    exact hend
  refine ⟨fun _ => hend2, fun h1 => ⟨fun _ => hend2, fun h2 => ?_⟩⟩
  obtain ⟨hb, hf⟩ := hx.resolve_left h2
  have e40 := dL_40 hL i.toNatClampNeg
  have hs := sh_ok hf a2.2 q0 (Int32.not_le.mp h1)
  have hj4 : 0 ≤ j ∧ j < 4 := by clear hP ih hT0 hT hL hA; grind
  have h20 := ix4 hi hj4
  obtain ⟨b1, ⟨w1, w2, w3⟩, ⟨s1, s2, s3⟩, -⟩ := hT.g_bnc x hb
  have ih := ih hj4.2
  simp only [q155_57, q155_58, q155_59, q155_62, q155_63, q155_64, q155_66, q155_67, q155_68, q155_71, q155_72, q155_75, q155_76, q155_77, q155_78, q155_80, q155_81, q155_82, k_35 hS, z_35, r_35_5 hS, k_40 hS, l_40 hS, z_40, r_35_6 hS, k_41 hS, l_41 hS, z_41, as_nil, as_i, as_r, Nat.reduceAdd, Nat.reduceLeDiff, z_eq0, z_eq1, z_or, z_em, Classical.not_not, not_false_eq_true, not_true_eq_false, true_and, and_true, false_and, and_false, and_self, true_implies, false_implies, implies_true, Option.toList_some, Option.toList_none, List.cons_append, List.nil_append, Nat.add_eq_zero_iff, a_nl_i, a_nl_r, a_nl_n, true_or, or_true, eq_self, a_isRA_22, a_isRA_24, a_isRA_32, a_isA_20, ok_4, ok_5, ok_6, ok_7, ok_9, ok_20, ok_21, ok_30, ok_50, ok_180, ok_192, ok_200, ui_ap, cc_ne, cc_n0, cc_0n, Nat.reduceEqDiff, reduceIte, if_true, if_false, ha, a0, hb, h2, e40]
  refine ⟨hi, h20, ?_⟩
  refine cp_settle hb hT hs ?_
  simp only [q155_85, q155_88, as_nil, as_i, as_r, Nat.reduceAdd, Nat.reduceLeDiff, z_eq0, z_eq1, z_or, z_em, Classical.not_not, not_false_eq_true, not_true_eq_false, true_and, and_true, false_and, and_false, and_self, true_implies, false_implies, implies_true, Option.toList_some, Option.toList_none, List.cons_append, List.nil_append, Nat.add_eq_zero_iff, a_nl_i, a_nl_r, a_nl_n, true_or, or_true, eq_self, a_isRA_22, a_isRA_24, a_isRA_32, a_isA_20, ok_4, ok_5, ok_6, ok_7, ok_9, ok_20, ok_21, ok_30, ok_50, ok_180, ok_192, ok_200]
  refine ih _ (by clear hP ih hT0 hT hL hA; grind) (dL_arr (dL_arr hL w1 w2) s1 s2) (fun b hb1 => ?_)
  have n1 : ¬ b = R x 3 := fun e => by rw [e, s2] at hb1; cases hb1
  have n2 : ¬ b = R x 2 := fun e => by rw [e, w2] at hb1; cases hb1
  rw [ui_ap, if_neg (fun e => n1 e.1), ui_ap, if_neg (fun e => n2 e.1), ui_ap, if_neg (fun e => n1 e.1), ui_ap, if_neg (fun e => n2 e.1)]
  exact hA b hb1
theorem ck_restore {i : Int32} (hi : 0 ≤ i ∧ i < 5) {a : Nat} (ea : R (C + 38) i.toNatClampNeg = a) (ha : K a = 1) (hT : cT C K L I R) (hp : (0 ≤ I (C + 39) i.toNatClampNeg → fitP (I (C + 40) i.toNatClampNeg) (I a 2))) (hP : ∀ J, dL C K L R I J → J a 13 = I (C + 39) i.toNatClampNeg → J a 14 = I (C + 40) i.toNatClampNeg → (∀ b, K b = 1 → ¬ b = a → J b 14 = I b 14) → P none (n, t, K, L, J, R)) : a_does (d + 3) 155 [a_rf (C + 35), .int i] (n, t, K, L, I, R) P := by
  have hS := hT.s
  have gA := hT.g_asksR
  have gB := hT.g_benchesR
  have gX := hT.g_textsR
  obtain ⟨a1, a2, a4, a3⟩ := hT.g_ask a ha
  have a0 : (a = 0) = False := eq_false (by omega)
  have gi := gB (I (C + 39) i.toNatClampNeg).toNatClampNeg
  have n39 : (a = C + 39) = False := eq_false (by omega)
  have n40 : (a = C + 40) = False := eq_false (by omega)
  have n14 : (a = C + 14) = False := eq_false (by omega)
  have m39 : (C + 39 = a) = False := eq_false (by omega)
  have m40 : (C + 40 = a) = False := eq_false (by omega)
  have hL : dL C K L R I (a_ui (a_ui I a 13 (I (C + 39) i.toNatClampNeg)) a 14 (I (C + 40) i.toNatClampNeg)) := dL_place (dL_refl hT) a1 ha (fun h => hp h)
  have f13 : a_ui (a_ui I a 13 (I (C + 39) i.toNatClampNeg)) a 14 (I (C + 40) i.toNatClampNeg) a 13 = I (C + 39) i.toNatClampNeg := by rw [ui_ap, if_neg (by omega), ui_ap, if_pos ⟨rfl, rfl⟩]
  have f14 : a_ui (a_ui I a 13 (I (C + 39) i.toNatClampNeg)) a 14 (I (C + 40) i.toNatClampNeg) a 14 = I (C + 40) i.toNatClampNeg := by rw [ui_ap, if_pos ⟨rfl, rfl⟩]
  have f2 : a_ui (a_ui I a 13 (I (C + 39) i.toNatClampNeg)) a 14 (I (C + 40) i.toNatClampNeg) a 2 = I a 2 := by rw [ui_ap, if_neg (by omega), ui_ap, if_neg (by omega)]
  have f40 : a_ui (a_ui I a 13 (I (C + 39) i.toNatClampNeg)) a 14 (I (C + 40) i.toNatClampNeg) (C + 40) i.toNatClampNeg = I (C + 40) i.toNatClampNeg := by rw [ui_ap, if_neg (by omega), ui_ap, if_neg (by omega)]
  have hmain : ∀ x, x = 0 ∨ (K x = 3 ∧ 0 ≤ I (C + 39) i.toNatClampNeg) → a_at (d + 2) (a_xm a_m155) 44 [some (a_rf (C + 35)), some (.int i), some (a_rf a), some (a_rf x), some (.int 0)] [] (n, t, K, L, (a_ui (a_ui I a 13 (I (C + 39) i.toNatClampNeg)) a 14 (I (C + 40) i.toNatClampNeg)), R) P := fun x hx => by
    have hx2 : x = 0 ∨ (K x = 3 ∧ fitP (a_ui (a_ui I a 13 (I (C + 39) i.toNatClampNeg)) a 14 (I (C + 40) i.toNatClampNeg) (C + 40) i.toNatClampNeg) (a_ui (a_ui I a 13 (I (C + 39) i.toNatClampNeg)) a 14 (I (C + 40) i.toNatClampNeg) a 2)) := by
      rw [f40, f2]
      exact hx.imp id (fun h => ⟨h.1, hp h.2⟩)
    refine lk_restore_44 (d := d + 1) hi ha hx2 (fun J j1 jA => ?_) hL.1 0 (by decide) _ (by decide) (dL_refl hL.1) (fun _ _ => ⟨rfl, rfl⟩)
    have q := jA a ha
    rw [f13, f14] at q
    refine hP J (dL_L hL j1) q.1 q.2 (fun b hb hne => ?_)
    rw [(jA b hb).2, ui_ap, if_neg (fun e => hne e.1), ui_ap, if_neg (fun e => hne e.1)]
  rw [a_enter1 (M := a_m155) rfl (a_cat_rf (a_cat_int a_cat_nil)) (show 2 ≤ 5 by decide)]
  show a_at _ (a_xm a_m155) 0 [some (a_rf (C + 35)), some (.int i), none, none, none] [] _ _
  simp only [q155_0, q155_1, q155_4, q155_5, q155_6, q155_7, q155_8, q155_11, q155_12, q155_15, q155_16, q155_17, q155_20, q155_21, q155_22, q155_23, q155_26, q155_27, q155_28, q155_31, q155_32, q155_33, q155_36, q155_37, q155_38, q155_41, q155_42, k_35 hS, z_35, r_35_3 hS, k_38 hS, l_38 hS, z_38, r_35_0 hS, k_14 hS, z_14, r_35_4 hS, k_39 hS, l_39 hS, z_39, r_35_5 hS, k_40 hS, l_40 hS, z_40, sp_benchAt hS gB, as_nil, as_i, as_r, Nat.reduceAdd, Nat.reduceLeDiff, z_eq0, z_eq1, z_or, z_em, Classical.not_not, not_false_eq_true, not_true_eq_false, true_and, and_true, false_and, and_false, and_self, true_implies, false_implies, implies_true, Option.toList_some, Option.toList_none, List.cons_append, List.nil_append, Nat.add_eq_zero_iff, a_nl_i, a_nl_r, a_nl_n, true_or, or_true, eq_self, a_isRA_22, a_isRA_24, a_isRA_32, a_isA_20, ok_4, ok_5, ok_6, ok_7, ok_9, ok_20, ok_21, ok_30, ok_50, ok_180, ok_192, ok_200, ui_ap, cc_ne, cc_n0, cc_0n, Nat.reduceEqDiff, reduceIte, if_true, if_false, ea, ha, a0, n39, n40, n14, m39, m40]
  repeat' first
    | with_reducible apply And.intro
    | with_reducible intro _
    | exact hi.1
    | exact hi.2
    | exact hmain _ (Or.inl rfl)
    | (refine hmain _ (gi.imp id (fun hk3 => ⟨hk3, ?_⟩)); rename_i h8; exact h8.1)
theorem rn_ask (h : cT C K L I R) {m i : Int32} (hN : rnP C R m) (h0 : 0 ≤ i) (h1 : i < m) : K (R (C + 38) (i).toNatClampNeg) = 1 := (h.g_ringR i.toNatClampNeg).resolve_left (hN i h0 h1)
def kE (C : Nat) (K : Nat → Nat) (m : Int32) (I J : Nat → Nat → Int32) : Prop := (J (C + 35) 7 = m ∧ (∀ k, J (C + 39) k = I (C + 39) k) ∧ (∀ k, J (C + 40) k = I (C + 40) k) ∧ (∀ b, K b = 1 → J b 2 = I b 2))
theorem kE_L (hT : cT C K L J R) {m : Int32} (h : kE C K m I J) (h2 : dL C K L R J J0) : kE C K m I J0 := ⟨(h2.2 _ _ (by omega) (by omega) (by omega)).trans h.1, fun k => (dL_39 h2 k).trans (h.2.1 k), fun k => (dL_40 h2 k).trans (h.2.2.1 k), fun b hb => (dL_at h2 hT hb 2 (by decide) (by decide)).trans (h.2.2.2 b hb)⟩
theorem kE_C (hT : cT C K L J R) {m : Int32} (h : kE C K m I J) (h2 : dC C K L R J J0) : kE C K m I J0 := kE_L hT h (dL_C (dL_refl hT) h2)
theorem lk_turn_lift_6 {m : Int32} (hm : m ≤ 5) (hN : rnP C R m) (hP : ∀ J, dL C K L R I J → kE C K m I J → ∀ u v w q r, a_at (d + 5) (a_xm a_m153) 33 [some (a_rf (C + 35)), u, v, w, q, r] [] (n, t, K, L, J, R) P) : ∀ i : Int32, i ≤ 5 → ∀ J v w q r, 0 ≤ i → dL C K L R I J → kE C K m I J → a_at (d + 5) (a_xm a_m153) 6 [some (a_rf (C + 35)), some (.int i), v, w, q, r] [] (n, t, K, L, J, R) P := by
  refine up_ind 5 (fun i hk ih => ?_)
  intro J v w q r q0 hL hE
  have hT := hL.1
  have hS := hT.s
  have es := hE.1
  rw [q153_6]
  simp only [q153_7, q153_8, q153_11, q153_14, q153_15, q153_18, q153_19, q153_22, q153_23, q153_24, k_35 hS, z_35, r_35_0 hS, k_14 hS, z_14, r_35_3 hS, k_38 hS, l_38 hS, z_38, as_nil, as_i, as_r, Nat.reduceAdd, Nat.reduceLeDiff, z_eq0, z_eq1, z_or, z_em, Classical.not_not, not_false_eq_true, not_true_eq_false, true_and, and_true, false_and, and_false, and_self, true_implies, false_implies, implies_true, Option.toList_some, Option.toList_none, List.cons_append, List.nil_append, Nat.add_eq_zero_iff, a_nl_i, a_nl_r, a_nl_n, true_or, or_true, eq_self, a_isRA_22, a_isRA_24, a_isRA_32, a_isA_20, ok_4, ok_5, ok_6, ok_7, ok_9, ok_20, ok_21, ok_30, ok_50, ok_180, ok_192, ok_200, es]
  refine ⟨fun h1 => hP J hL hE _ _ _ _ _, fun h1 => ?_⟩
  have h1 := Int32.not_le.mp h1
  have hi : 0 ≤ i ∧ i < 5 := by clear hP ih hN hL hE hT; grind
  have ha := rn_ask hT hN q0 h1
  refine ⟨hi, ?_⟩
  refine ck_lift ha hT (fun J2 j2 => ?_)
  simp only [q153_27, q153_30, as_nil, as_i, as_r, Nat.reduceAdd, Nat.reduceLeDiff, z_eq0, z_eq1, z_or, z_em, Classical.not_not, not_false_eq_true, not_true_eq_false, true_and, and_true, false_and, and_false, and_self, true_implies, false_implies, implies_true, Option.toList_some, Option.toList_none, List.cons_append, List.nil_append, Nat.add_eq_zero_iff, a_nl_i, a_nl_r, a_nl_n, true_or, or_true, eq_self, a_isRA_22, a_isRA_24, a_isRA_32, a_isA_20, ok_4, ok_5, ok_6, ok_7, ok_9, ok_20, ok_21, ok_30, ok_50, ok_180, ok_192, ok_200]
  exact ih hi.2 J2 _ _ _ _ (by clear hP ih hN hL hE hT j2; grind) (dL_L hL j2) (kE_L hT hE j2)
theorem lk_turn_lay_37 {m : Int32} (h1m : 1 ≤ m) (hm : m ≤ 5) (hN : rnP C R m) (hP : ∀ J (o : Int32), dL C K L R I J → kE C K m I J → (o = m → ∀ k : Int32, 0 ≤ k → k < m → fitP (I (C + 40) (nxt m k).toNatClampNeg) (I (R (C + 38) (k).toNatClampNeg) 2)) → ∀ v w q r, a_at (d + 5) (a_xm a_m153) 166 [some (a_rf (C + 35)), some (.int o), v, w, q, r] [] (n, t, K, L, J, R) P) : ∀ i : Int32, i ≤ 5 → ∀ J (o : Int32) w q r, 0 ≤ i → i ≤ m → o ≤ i → (o = i → ∀ k : Int32, 0 ≤ k → k < i → fitP (I (C + 40) (nxt m k).toNatClampNeg) (I (R (C + 38) (k).toNatClampNeg) 2)) → dL C K L R I J → kE C K m I J → a_at (d + 5) (a_xm a_m153) 37 [some (a_rf (C + 35)), some (.int o), some (.int i), w, q, r] [] (n, t, K, L, J, R) P := by
  refine up_ind 5 (fun i hk ih => ?_)
  intro J o w q r q0 qm qo hF hL hE
  have hT := hL.1
  have hS := hT.s
  have es := hE.1
  have hm0 : ¬ m = 0 := by clear hP ih hN hL hE hT hF; grind
  have hend : (o = m → ∀ k : Int32, 0 ≤ k → k < m → fitP (I (C + 40) (nxt m k).toNatClampNeg) (I (R (C + 38) (k).toNatClampNeg) 2)) → ∀ v w q r, a_at (d + 5) (a_xm a_m153) 166 [some (a_rf (C + 35)), some (.int o), v, w, q, r] [] (n, t, K, L, J, R) P := fun h => hP J o hL hE h
  rw [q153_37]
  simp only [q153_38, q153_39, q153_42, q153_45, q153_46, q153_47, q153_50, q153_51, q153_52, q153_53, q153_54, q153_57, q153_58, q153_59, q153_60, q153_63, q153_64, q153_65, q153_67, q153_68, q153_71, q153_73, q153_74, q153_77, q153_78, q153_79, q153_80, q153_83, q153_84, q153_85, k_35 hS, z_35, r_35_3 hS, k_38 hS, l_38 hS, z_38, r_35_0 hS, k_14 hS, z_14, r_35_4 hS, k_39 hS, l_39 hS, z_39, r_35_5 hS, k_40 hS, l_40 hS, z_40, as_nil, as_i, as_r, Nat.reduceAdd, Nat.reduceLeDiff, z_eq0, z_eq1, z_or, z_em, Classical.not_not, not_false_eq_true, not_true_eq_false, true_and, and_true, false_and, and_false, and_self, true_implies, false_implies, implies_true, Option.toList_some, Option.toList_none, List.cons_append, List.nil_append, Nat.add_eq_zero_iff, a_nl_i, a_nl_r, a_nl_n, true_or, or_true, eq_self, a_isRA_22, a_isRA_24, a_isRA_32, a_isA_20, ok_4, ok_5, ok_6, ok_7, ok_9, ok_20, ok_21, ok_30, ok_50, ok_180, ok_192, ok_200, es, hm0]
  refine ⟨fun h1 => ?_, fun h1 => ⟨fun h2 => ?_, fun h2 => ?_⟩⟩
  · have e : i = m := by clear hP ih hN hL hE hT hF hend; grind
    refine hend (fun h => ?_) _ _ _ _
    rw [e] at hF
    exact hF h
  · refine hend (fun h => ?_) _ _ _ _
    exfalso
    clear hP ih hN hL hE hT hF hend
    grind
  · have h1 := Int32.not_le.mp h1
    have hi : 0 ≤ i ∧ i < 5 := by clear hP ih hN hL hE hT hF hend; grind
    have hx := nxt_lt hm q0 h1
    have hx5 : 0 ≤ nxt m i ∧ nxt m i < 5 := ⟨hx.1, by clear hP ih hN hL hE hT hF hend; grind⟩
    have hn := hN i q0 h1
    have ha := rn_ask hT hN q0 h1
    have ih := ih hi.2
    have e40 := hE.2.2.1 (nxt m i).toNatClampNeg
    have e39 := hE.2.1 (nxt m i).toNatClampNeg
    have e2 := hE.2.2.2 _ ha
    show (0 ≤ i ∧ i < 5) ∧ (0 ≤ nxt m i ∧ nxt m i < 5) ∧ (0 ≤ nxt m i ∧ nxt m i < 5) ∧ _
    refine ⟨hi, hx5, hx5, ?_⟩
    refine ck_watchOf ha hT (fun v J2 j2 => ?_)
    have hT2 := j2.1
    have hL2 := dL_C hL j2
    have hE2 := kE_C hT hE j2
    have e40 := hE2.2.2.1 (nxt m i).toNatClampNeg
    have e39 := hE2.2.1 (nxt m i).toNatClampNeg
    have e2 := hE2.2.2.2 _ ha
    have o2 : ¬ o + 1 = i → o + 1 ≤ i + 1 := by clear hP ih hN hL hE hT hF hend hT2 hL2 hE2; grind
    have hfail : ∀ w q r, a_at (d + 5) (a_xm a_m153) 160 [some (a_rf (C + 35)), some (.int o), some (.int i), w, q, r] [] (n, t, K, L, J2, R) P := fun w q r => by
      simp only [q153_160, q153_163, as_nil, as_i, as_r, Nat.reduceAdd, Nat.reduceLeDiff, z_eq0, z_eq1, z_or, z_em, Classical.not_not, not_false_eq_true, not_true_eq_false, true_and, and_true, false_and, and_false, and_self, true_implies, false_implies, implies_true, Option.toList_some, Option.toList_none, List.cons_append, List.nil_append, Nat.add_eq_zero_iff, a_nl_i, a_nl_r, a_nl_n, true_or, or_true, eq_self, a_isRA_22, a_isRA_24, a_isRA_32, a_isA_20, ok_4, ok_5, ok_6, ok_7, ok_9, ok_20, ok_21, ok_30, ok_50, ok_180, ok_192, ok_200]
      refine ih J2 o w q r ?_ ?_ ?_ (fun h => ?_) hL2 hE2
      · clear hP ih hN hL hE hT hF hend hT2 hL2 hE2; grind
      · clear hP ih hN hL hE hT hF hend hT2 hL2 hE2; grind
      · clear hP ih hN hL hE hT hF hend hT2 hL2 hE2; grind
      · exfalso
        clear hP ih hN hL hE hT hF hend hT2 hL2 hE2
        grind
    simp only [q153_88, q153_90, q153_91, q153_94, q153_96, q153_97, q153_100, q153_101, q153_102, k_35 hS, z_35, r_35_0 hS, k_14 hS, z_14, r_35_5 hS, k_40 hS, l_40 hS, z_40, as_nil, as_i, as_r, Nat.reduceAdd, Nat.reduceLeDiff, z_eq0, z_eq1, z_or, z_em, Classical.not_not, not_false_eq_true, not_true_eq_false, true_and, and_true, false_and, and_false, and_self, true_implies, false_implies, implies_true, Option.toList_some, Option.toList_none, List.cons_append, List.nil_append, Nat.add_eq_zero_iff, a_nl_i, a_nl_r, a_nl_n, true_or, or_true, eq_self, a_isRA_22, a_isRA_24, a_isRA_32, a_isA_20, ok_4, ok_5, ok_6, ok_7, ok_9, ok_20, ok_21, ok_30, ok_50, ok_180, ok_192, ok_200, ha, hn]
    refine ⟨hx5, ?_⟩
    refine ck_isTooNear ha hT2 (fun v2 => ?_)
    simp only [q153_105, q153_108, q153_109, q153_112, q153_114, q153_115, q153_118, q153_119, q153_120, q153_121, q153_124, q153_125, q153_126, q153_128, k_35 hS, z_35, r_35_0 hS, k_14 hS, z_14, r_35_4 hS, k_39 hS, l_39 hS, z_39, r_35_5 hS, k_40 hS, l_40 hS, z_40, as_nil, as_i, as_r, Nat.reduceAdd, Nat.reduceLeDiff, z_eq0, z_eq1, z_or, z_em, Classical.not_not, not_false_eq_true, not_true_eq_false, true_and, and_true, false_and, and_false, and_self, true_implies, false_implies, implies_true, Option.toList_some, Option.toList_none, List.cons_append, List.nil_append, Nat.add_eq_zero_iff, a_nl_i, a_nl_r, a_nl_n, true_or, or_true, eq_self, a_isRA_22, a_isRA_24, a_isRA_32, a_isA_20, ok_4, ok_5, ok_6, ok_7, ok_9, ok_20, ok_21, ok_30, ok_50, ok_180, ok_192, ok_200, ha, hn]
    refine ⟨fun _ => hfail _ _ _, fun _ => ⟨hx5, hx5, ?_⟩⟩
    refine ck_isOpen ha hT2 (fun v3 hf => ?_)
    simp only [q153_131, q153_134, q153_135, q153_138, q153_140, q153_141, q153_144, q153_145, q153_146, q153_147, q153_150, q153_151, q153_152, q153_154, k_35 hS, z_35, r_35_0 hS, k_14 hS, z_14, r_35_4 hS, k_39 hS, l_39 hS, z_39, r_35_5 hS, k_40 hS, l_40 hS, z_40, as_nil, as_i, as_r, Nat.reduceAdd, Nat.reduceLeDiff, z_eq0, z_eq1, z_or, z_em, Classical.not_not, not_false_eq_true, not_true_eq_false, true_and, and_true, false_and, and_false, and_self, true_implies, false_implies, implies_true, Option.toList_some, Option.toList_none, List.cons_append, List.nil_append, Nat.add_eq_zero_iff, a_nl_i, a_nl_r, a_nl_n, true_or, or_true, eq_self, a_isRA_22, a_isRA_24, a_isRA_32, a_isA_20, ok_4, ok_5, ok_6, ok_7, ok_9, ok_20, ok_21, ok_30, ok_50, ok_180, ok_192, ok_200, ha, hn]
    refine ⟨fun _ => hfail _ _ _, fun h3 => ⟨hx5, hx5, ?_⟩⟩
    have hf : fitP (J2 (C + 40) (nxt m i).toNatClampNeg) (J2 (R (C + 38) (i).toNatClampNeg) 2) := hf h3
    refine ck_lay ha hT2 hf (fun J3 j3 => ?_)
    simp only [q153_157, q153_160, q153_163, as_nil, as_i, as_r, Nat.reduceAdd, Nat.reduceLeDiff, z_eq0, z_eq1, z_or, z_em, Classical.not_not, not_false_eq_true, not_true_eq_false, true_and, and_true, false_and, and_false, and_self, true_implies, false_implies, implies_true, Option.toList_some, Option.toList_none, List.cons_append, List.nil_append, Nat.add_eq_zero_iff, a_nl_i, a_nl_r, a_nl_n, true_or, or_true, eq_self, a_isRA_22, a_isRA_24, a_isRA_32, a_isA_20, ok_4, ok_5, ok_6, ok_7, ok_9, ok_20, ok_21, ok_30, ok_50, ok_180, ok_192, ok_200]
    refine ih J3 _ _ _ _ ?_ ?_ ?_ (fun h k k0 k1 => ?_) (dL_L hL2 j3) (kE_L hT2 hE2 j3)
    · clear hP ih hN hL hE hT hF hend hT2 hL2 hE2 hfail; grind
    · clear hP ih hN hL hE hT hF hend hT2 hL2 hE2 hfail; grind
    · clear hP ih hN hL hE hT hF hend hT2 hL2 hE2 hfail; grind
    · by_cases e : k = i
      · subst e
        rw [e40, e2] at hf
        exact hf
      · refine hF ?_ k k0 ?_
        · clear hP ih hN hL hE hT hF hend hT2 hL2 hE2 hfail; grind
        · clear hP ih hN hL hE hT hF hend hT2 hL2 hE2 hfail; grind
theorem lk_turn_back_168 {m o : Int32} (hm : m ≤ 5) (hN : rnP C R m) (hp : ∀ k : Int32, 0 ≤ k → k < m → 0 ≤ I (C + 39) k.toNatClampNeg → fitP (I (C + 40) k.toNatClampNeg) (I (R (C + 38) (k).toNatClampNeg) 2)) (hs : ∀ k j : Int32, 0 ≤ k → k < m → 0 ≤ j → j < m → (R (C + 38) (k).toNatClampNeg) = (R (C + 38) (j).toNatClampNeg) → I (C + 40) k.toNatClampNeg = I (C + 40) j.toNatClampNeg) (hP : ∀ (v : Int32) J, dL C K L R I J → kE C K m I J → (v = 0 ∨ v = 1) → (¬ v = 0 → o = m) → (∀ k : Int32, 0 ≤ k → k < m → J (R (C + 38) (k).toNatClampNeg) 14 = I (C + 40) k.toNatClampNeg) → P (some (.int v)) (n, t, K, L, J, R)) : ∀ i : Int32, i ≤ 5 → ∀ J w q r, 0 ≤ i → i ≤ m → dL C K L R I J → kE C K m I J → (∀ k : Int32, 0 ≤ k → k < i → J (R (C + 38) (k).toNatClampNeg) 14 = I (C + 40) k.toNatClampNeg) → a_at (d + 5) (a_xm a_m153) 168 [some (a_rf (C + 35)), some (.int o), some (.int i), w, q, r] [] (n, t, K, L, J, R) P := by
  refine up_ind 5 (fun i hk ih => ?_)
  intro J w q r q0 qm hL hE hA
  have hT := hL.1
  have hS := hT.s
  have es := hE.1
  rw [q153_168]
  simp only [q153_169, q153_170, q153_173, q153_176, q153_177, q153_178, k_35 hS, z_35, as_nil, as_i, as_r, Nat.reduceAdd, Nat.reduceLeDiff, z_eq0, z_eq1, z_or, z_em, Classical.not_not, not_false_eq_true, not_true_eq_false, true_and, and_true, false_and, and_false, and_self, true_implies, false_implies, implies_true, Option.toList_some, Option.toList_none, List.cons_append, List.nil_append, Nat.add_eq_zero_iff, a_nl_i, a_nl_r, a_nl_n, true_or, or_true, eq_self, a_isRA_22, a_isRA_24, a_isRA_32, a_isA_20, ok_4, ok_5, ok_6, ok_7, ok_9, ok_20, ok_21, ok_30, ok_50, ok_180, ok_192, ok_200, es]
  refine ⟨fun h1 => ?_, fun h1 => ?_⟩
  · have e : i = m := by clear hP ih hN hL hE hT hA hp hs; grind
    subst e
    simp only [q153_187, q153_188, q153_189, q153_192, q153_195, q153_196, q153_199, q153_200, k_35 hS, z_35, as_nil, as_i, as_r, Nat.reduceAdd, Nat.reduceLeDiff, z_eq0, z_eq1, z_or, z_em, Classical.not_not, not_false_eq_true, not_true_eq_false, true_and, and_true, false_and, and_false, and_self, true_implies, false_implies, implies_true, Option.toList_some, Option.toList_none, List.cons_append, List.nil_append, Nat.add_eq_zero_iff, a_nl_i, a_nl_r, a_nl_n, true_or, or_true, eq_self, a_isRA_22, a_isRA_24, a_isRA_32, a_isA_20, ok_4, ok_5, ok_6, ok_7, ok_9, ok_20, ok_21, ok_30, ok_50, ok_180, ok_192, ok_200, es]
    have h1 := hP 1 J hL hE (Or.inr rfl)
    have h0 := hP 0 J hL hE (Or.inl rfl) (fun h => absurd rfl h) hA
    repeat' first
      | with_reducible apply And.intro
      | with_reducible intro _
      | exact h0
      | (refine h1 (fun _ => ?_) hA; assumption)
      | decide
  · have h1 := Int32.not_le.mp h1
    have hi : 0 ≤ i ∧ i < 5 := by clear hP ih hN hL hE hT hA hp hs; grind
    have ha := rn_ask hT hN q0 h1
    have e40 := hE.2.2.1 i.toNatClampNeg
    have e39 := hE.2.1 i.toNatClampNeg
    have e2 := hE.2.2.2 _ ha
    refine ck_restore hi rfl ha hT (by rw [e39, e40, e2]; exact hp i q0 h1) (fun J2 j2 x1 x2 x3 => ?_)
    simp only [q153_181, q153_184, as_nil, as_i, as_r, Nat.reduceAdd, Nat.reduceLeDiff, z_eq0, z_eq1, z_or, z_em, Classical.not_not, not_false_eq_true, not_true_eq_false, true_and, and_true, false_and, and_false, and_self, true_implies, false_implies, implies_true, Option.toList_some, Option.toList_none, List.cons_append, List.nil_append, Nat.add_eq_zero_iff, a_nl_i, a_nl_r, a_nl_n, true_or, or_true, eq_self, a_isRA_22, a_isRA_24, a_isRA_32, a_isA_20, ok_4, ok_5, ok_6, ok_7, ok_9, ok_20, ok_21, ok_30, ok_50, ok_180, ok_192, ok_200]
    refine ih hi.2 J2 _ _ _ (by clear hP ih hN hL hE hT hA hp hs j2 x3; grind) (by clear hP ih hN hL hE hT hA hp hs j2 x3; grind) (dL_L hL j2) (kE_L hT hE j2) (fun k k0 k1 => ?_)
    have km : k < m := by clear hP ih hN hL hE hT hA hp hs j2 x3; grind
    by_cases e : (R (C + 38) (k).toNatClampNeg) = (R (C + 38) (i).toNatClampNeg)
    · rw [e, x2, e40]
      exact (hs k i k0 km q0 h1 e).symm
    · rw [x3 _ (rn_ask hT hN k0 km) e]
      refine hA k k0 ?_
      have : ¬ k = i := fun h => e (by rw [h])
      clear hP ih hN hL hE hT hA hp hs j2 x3
      grind
theorem ck_canTurn {m : Int32} (h1m : 1 ≤ m) (hm : m ≤ 5) (hN : rnP C R m) (es : I (C + 35) 7 = m) (hT : cT C K L I R) (hP : ∀ (v : Int32) J, dR C K L R I J → (v = 0 ∨ v = 1) → (¬ v = 0 → frP C J R m) → P (some (.int v)) (n, t, K, L, J, R)) : a_does (d + 6) 153 [a_rf (C + 35)] (n, t, K, L, I, R) P := by
  have hS := hT.s
  rw [a_enter1 (M := a_m153) rfl (a_cat_rf a_cat_nil) (show 1 ≤ 6 by decide)]
  show a_at _ (a_xm a_m153) 0 [some (a_rf (C + 35)), none, none, none, none, none] [] _ _
  simp only [q153_0, q153_1, k_35 hS, z_35, as_nil, as_i, as_r, Nat.reduceAdd, Nat.reduceLeDiff, z_eq0, z_eq1, z_or, z_em, Classical.not_not, not_false_eq_true, not_true_eq_false, true_and, and_true, false_and, and_false, and_self, true_implies, false_implies, implies_true, Option.toList_some, Option.toList_none, List.cons_append, List.nil_append, Nat.add_eq_zero_iff, a_nl_i, a_nl_r, a_nl_n, true_or, or_true, eq_self, a_isRA_22, a_isRA_24, a_isRA_32, a_isA_20, ok_4, ok_5, ok_6, ok_7, ok_9, ok_20, ok_21, ok_30, ok_50, ok_180, ok_192, ok_200]
  refine ck_keepPlaces hT (by rw [es]; exact hN) (fun J1 t1 f1 k1 => ?_)
  rw [es] at k1
  simp only [q153_4, q153_5, as_nil, as_i, as_r, Nat.reduceAdd, Nat.reduceLeDiff, z_eq0, z_eq1, z_or, z_em, Classical.not_not, not_false_eq_true, not_true_eq_false, true_and, and_true, false_and, and_false, and_self, true_implies, false_implies, implies_true, Option.toList_some, Option.toList_none, List.cons_append, List.nil_append, Nat.add_eq_zero_iff, a_nl_i, a_nl_r, a_nl_n, true_or, or_true, eq_self, a_isRA_22, a_isRA_24, a_isRA_32, a_isA_20, ok_4, ok_5, ok_6, ok_7, ok_9, ok_20, ok_21, ok_30, ok_50, ok_180, ok_192, ok_200]
  have r1 : dR C K L R I J1 := ⟨t1, fun x j _ _ p q r _ => f1 x j p q r⟩
  have m5 : ∀ k : Int32, k < m → 0 ≤ k → True := fun _ _ _ => trivial
  have ask14 : ∀ k : Int32, 0 ≤ k → k < m → ∀ j, J1 (R (C + 38) (k).toNatClampNeg) j = I (R (C + 38) (k).toNatClampNeg) j := fun k k0 kk j => by
    have := (hT.g_ask _ (rn_ask hT hN k0 kk)).1
    exact f1 _ _ (by omega) (by omega) (by omega)
  have e1 : kE C K m J1 J1 := ⟨by rw [f1 _ _ (by omega) (by omega) (by omega)]; exact es, fun _ => rfl, fun _ => rfl, fun _ _ => rfl⟩
  refine lk_turn_lift_6 hm hN (fun J2 l2 e2 u v w q r => ?_) 0 (by decide) J1 _ _ _ _ (by decide) (dL_refl t1) e1
  simp only [q153_33, q153_34, q153_35, q153_36, as_nil, as_i, as_r, Nat.reduceAdd, Nat.reduceLeDiff, z_eq0, z_eq1, z_or, z_em, Classical.not_not, not_false_eq_true, not_true_eq_false, true_and, and_true, false_and, and_false, and_self, true_implies, false_implies, implies_true, Option.toList_some, Option.toList_none, List.cons_append, List.nil_append, Nat.add_eq_zero_iff, a_nl_i, a_nl_r, a_nl_n, true_or, or_true, eq_self, a_isRA_22, a_isRA_24, a_isRA_32, a_isA_20, ok_4, ok_5, ok_6, ok_7, ok_9, ok_20, ok_21, ok_30, ok_50, ok_180, ok_192, ok_200]
  have fitI : ∀ k : Int32, 0 ≤ k → k < m → 0 ≤ I (R (C + 38) (k).toNatClampNeg) 13 → fitP (I (R (C + 38) (k).toNatClampNeg) 14) (I (R (C + 38) (k).toNatClampNeg) 2) := fun k k0 kk h => (hT.g_ask _ (rn_ask hT hN k0 kk)).2.2.2 h
  have x40 : ∀ J, kE C K m J1 J → ∀ k : Int32, 0 ≤ k → k < m → J (C + 40) k.toNatClampNeg = I (R (C + 38) (k).toNatClampNeg) 14 := fun J h k k0 kk => (h.2.2.1 _).trans (k1 k k0 kk).2
  have x39 : ∀ J, kE C K m J1 J → ∀ k : Int32, 0 ≤ k → k < m → J (C + 39) k.toNatClampNeg = I (R (C + 38) (k).toNatClampNeg) 13 := fun J h k k0 kk => (h.2.1 _).trans (k1 k k0 kk).1
  have x2 : ∀ J, kE C K m J1 J → ∀ k : Int32, 0 ≤ k → k < m → J (R (C + 38) (k).toNatClampNeg) 2 = I (R (C + 38) (k).toNatClampNeg) 2 := fun J h k k0 kk => (h.2.2.2 _ (rn_ask hT hN k0 kk)).trans (ask14 k k0 kk 2)
  have kEr : ∀ J, kE C K m J1 J → kE C K m J J := fun J h => ⟨h.1, fun _ => rfl, fun _ => rfl, fun _ _ => rfl⟩
  have kEt : ∀ J J0, kE C K m J1 J → kE C K m J J0 → kE C K m J1 J0 := fun J J0 h g => ⟨g.1, fun k => (g.2.1 k).trans (h.2.1 k), fun k => (g.2.2.1 k).trans (h.2.2.1 k), fun b hb => (g.2.2.2 b hb).trans (h.2.2.2 b hb)⟩
  refine lk_turn_lay_37 h1m hm hN (fun J3 o l3 e3 g3 v w q r => ?_) 0 (by decide) J2 0 _ _ _ (by decide) (by clear hP k1 m5 ask14 fitI x40 x39 x2 kEr kEt; grind) (by decide) (fun _ k k0 kk => absurd kk (Int32.not_lt.mpr k0)) (dL_refl l2.1) (kEr J2 e2)
  simp only [q153_166, q153_167, as_nil, as_i, as_r, Nat.reduceAdd, Nat.reduceLeDiff, z_eq0, z_eq1, z_or, z_em, Classical.not_not, not_false_eq_true, not_true_eq_false, true_and, and_true, false_and, and_false, and_self, true_implies, false_implies, implies_true, Option.toList_some, Option.toList_none, List.cons_append, List.nil_append, Nat.add_eq_zero_iff, a_nl_i, a_nl_r, a_nl_n, true_or, or_true, eq_self, a_isRA_22, a_isRA_24, a_isRA_32, a_isA_20, ok_4, ok_5, ok_6, ok_7, ok_9, ok_20, ok_21, ok_30, ok_50, ok_180, ok_192, ok_200]
  have e3 := kEt _ _ e2 e3
  refine lk_turn_back_168 (I := J3) hm hN (fun k k0 kk h => ?_) (fun k j k0 kk j0 jj h => ?_) (fun v J4 l4 e4 b4 o4 a4 => ?_) 0 (by decide) J3 _ _ _ (by decide) (by clear hP k1 m5 ask14 fitI x40 x39 x2 kEr kEt; grind) (dL_refl l3.1) (kEr J3 e3) (fun k k0 kk => absurd kk (Int32.not_lt.mpr k0))
  · rw [x39 J3 e3 k k0 kk] at h
    rw [x40 J3 e3 k k0 kk, x2 J3 e3 k k0 kk]
    exact fitI k k0 kk h
  · rw [x40 J3 e3 k k0 kk, x40 J3 e3 j j0 jj, h]
  · have e4 := kEt _ _ e3 e4
    refine hP v J4 (dR_L (dR_L (dR_L r1 l2) l3) l4) b4 (fun hv k k0 kk => ?_)
    obtain ⟨n0, n1⟩ := nxt_lt hm k0 kk
    have g := g3 (o4 hv) k k0 kk
    rw [x40 J2 e2 _ n0 n1, x2 J2 e2 k k0 kk] at g
    rw [a4 _ n0 n1, x40 J3 e3 _ n0 n1, x2 J4 e4 k k0 kk]
    exact g
end KG
end
section
/-! the class: rings, whole -/
section KH
variable {d n t C c n0 n' n'' t' : Nat} {K L K0 L0 K' L' K'' L'' : Nat → Nat} {I I0 J J0 J1 J2 : Nat → Nat → Int32} {R R0 R' R'' : Nat → Nat → Nat} {P : Option Value → AH → Prop}
theorem rn_put1 {m : Int32} {v : Nat} (h : rnP C R m) (h0 : 0 ≤ m) (hm : m ≤ 5) (hv : ¬ v = 0) : rnP C (a_ur R (C + 38) m.toNatClampNeg v) (m + 1) := by
  intro i p1 p2
  rw [ur_ap]
  by_cases e : i = m
  · rw [if_pos ⟨rfl, by rw [e]⟩]
    exact hv
  · rw [if_neg (fun r => e (cl_inj p1 h0 r.2))]
    exact h i p1 (by clear h; grind)
theorem rn_le {m q : Int32} (h : rnP C R m) (hq : q ≤ m) : rnP C R q := fun i p1 p2 => h i p1 (by clear h; grind)
def kCL (C c n0 : Nat) (K0 L0 : Nat → Nat) (I0 : Nat → Nat → Int32) (R0 : Nat → Nat → Nat) (n t : Nat) (K L : Nat → Nat) (m : Int32) (z : Nat) : Prop := ∀ (at_ : Int32) (I : Nat → Nat → Int32) (R : Nat → Nat → Nat) (D : Nat) (P : Option Value → AH → Prop), 1 ≤ at_ → at_.toInt + z = m.toInt → z + 20 ≤ D → cZ C c n0 K0 L0 I0 R0 n t K L I R → I (C + 35) 7 = m → rnP C R at_ → (∀ v J R2, cZ C c n0 K0 L0 I0 R0 n t K L J R2 → J (C + 35) 7 = m → rnP C R2 at_ → (v = 0 ∨ v = 1) → (¬ v = 0 → rnP C R2 m ∧ frP C J R2 m) → P (some (.int v)) (n, t, K, L, J, R2)) → a_does D 152 [a_rf (C + 35), .int at_] (n, t, K, L, I, R) P
theorem lk_closes_66 {E : Nat} {m a l f : Int32} (hm : 2 ≤ m ∧ m ≤ 5) (h1a : 1 ≤ a) (ham : a < m) (hf : 0 ≤ f ∧ f < 30) (hl : 0 ≤ l) (hr : ∀ (I : Nat → Nat → Int32) (R : Nat → Nat → Nat) (P : Option Value → AH → Prop), cZ C c n0 K0 L0 I0 R0 n t K L I R → I (C + 35) 7 = m → rnP C R (a + 1) → (∀ v J R2, cZ C c n0 K0 L0 I0 R0 n t K L J R2 → J (C + 35) 7 = m → rnP C R2 (a + 1) → (v = 0 ∨ v = 1) → (¬ v = 0 → rnP C R2 m ∧ frP C J R2 m) → P (some (.int v)) (n, t, K, L, J, R2)) → a_does (E + 19) 152 [a_rf (C + 35), .int (a + 1)] (n, t, K, L, I, R) P) (hP : (∀ v J R2, cZ C c n0 K0 L0 I0 R0 n t K L J R2 → J (C + 35) 7 = m → rnP C R2 a → (v = 0 ∨ v = 1) → (¬ v = 0 → rnP C R2 m ∧ frP C J R2 m) → P (some (.int v)) (n, t, K, L, J, R2))) : ∀ i : Int32, i ≤ 30 → ∀ J R u, 0 ≤ i → cZ C c n0 K0 L0 I0 R0 n t K L J R → J (C + 35) 7 = m → rnP C R a → a_at (E + 19) (a_xm a_m152) 66 [some (a_rf (C + 35)), some (.int a), some (.int l), some (.int f), some (.int i), u] [] (n, t, K, L, J, R) P := by
  refine up_ind 30 (fun i hk ih => ?_)
  intro J R u q0 hZ es hN
  have hT := hZ.2.1.1
  have hS := hT.s
  have gA := hT.g_asksR
  have gB := hT.g_benchesR
  have gX := hT.g_textsR
  have gc := hT.g_asks
  have gi := gA i.toNatClampNeg
  have a5 : 0 ≤ a ∧ a < 5 := by clear hP hr ih hZ hT hN gA gB gX; grind
  have a5' : a ≤ 5 := by clear hP hr ih hZ hT hN gA gB gX; grind
  have a50 : 0 ≤ a := a5.1
  have aa1 : a ≤ a + 1 := by clear hP hr ih hZ hT hN gA gB gX; grind
  have h0 := hP 0 J R hZ es hN (Or.inl rfl) (fun h => absurd rfl h)
  have hnext : i < 30 → ∀ J R u, cZ C c n0 K0 L0 I0 R0 n t K L J R → J (C + 35) 7 = m → rnP C R a → a_at (E + 19) (a_xm a_m152) 141 [some (a_rf (C + 35)), some (.int a), some (.int l), some (.int f), some (.int i), u] [] (n, t, K, L, J, R) P := fun hi J R u z e b => by
    simp only [q152_141, q152_144, as_nil, as_i, as_r, Nat.reduceAdd, Nat.reduceLeDiff, z_eq0, z_eq1, z_or, z_em, Classical.not_not, not_false_eq_true, not_true_eq_false, true_and, and_true, false_and, and_false, and_self, true_implies, false_implies, implies_true, Option.toList_some, Option.toList_none, List.cons_append, List.nil_append, Nat.add_eq_zero_iff, a_nl_i, a_nl_r, a_nl_n, true_or, or_true, eq_self, a_isRA_22, a_isRA_24, a_isRA_32, a_isA_20, ok_4, ok_5, ok_6, ok_7, ok_9, ok_20, ok_21, ok_30, ok_50, ok_180, ok_192, ok_200]
    exact ih hi J R u (by clear hP hr ih hZ hT hN gA gB gX h0; grind) z e b
  rw [q152_66]
  simp only [q152_68, q152_69, q152_72, q152_75, q152_78, q152_79, q152_82, q152_84, k_35 hS, z_35, r_35_0 hS, k_14 hS, z_14, sp_askAt hS gA, as_nil, as_i, as_r, Nat.reduceAdd, Nat.reduceLeDiff, z_eq0, z_eq1, z_or, z_em, Classical.not_not, not_false_eq_true, not_true_eq_false, true_and, and_true, false_and, and_false, and_self, true_implies, false_implies, implies_true, Option.toList_some, Option.toList_none, List.cons_append, List.nil_append, Nat.add_eq_zero_iff, a_nl_i, a_nl_r, a_nl_n, true_or, or_true, eq_self, a_isRA_22, a_isRA_24, a_isRA_32, a_isA_20, ok_4, ok_5, ok_6, ok_7, ok_9, ok_20, ok_21, ok_30, ok_50, ok_180, ok_192, ok_200]
  refine ⟨fun h1 => ?_, fun h1 => ?_⟩
  · simp only [q152_147, q152_148, as_nil, as_i, as_r, Nat.reduceAdd, Nat.reduceLeDiff, z_eq0, z_eq1, z_or, z_em, Classical.not_not, not_false_eq_true, not_true_eq_false, true_and, and_true, false_and, and_false, and_self, true_implies, false_implies, implies_true, Option.toList_some, Option.toList_none, List.cons_append, List.nil_append, Nat.add_eq_zero_iff, a_nl_i, a_nl_r, a_nl_n, true_or, or_true, eq_self, a_isRA_22, a_isRA_24, a_isRA_32, a_isA_20, ok_4, ok_5, ok_6, ok_7, ok_9, ok_20, ok_21, ok_30, ok_50, ok_180, ok_192, ok_200]
    first
      | exact h0
      | exact ⟨by decide, h0⟩
  · have hi : i < 30 := by clear hP hr ih hZ hT hN gA gB gX h0 hnext; grind
    have hsame := fun u => hnext hi J R u hZ es hN
    refine ⟨fun h2 => ?_, fun h2 => ?_⟩
    · simp only [q152_87, q152_89, q152_91, as_nil, as_i, as_r, Nat.reduceAdd, Nat.reduceLeDiff, z_eq0, z_eq1, z_or, z_em, Classical.not_not, not_false_eq_true, not_true_eq_false, true_and, and_true, false_and, and_false, and_self, true_implies, false_implies, implies_true, Option.toList_some, Option.toList_none, List.cons_append, List.nil_append, Nat.add_eq_zero_iff, a_nl_i, a_nl_r, a_nl_n, true_or, or_true, eq_self, a_isRA_22, a_isRA_24, a_isRA_32, a_isA_20, ok_4, ok_5, ok_6, ok_7, ok_9, ok_20, ok_21, ok_30, ok_50, ok_180, ok_192, ok_200]
      refine ⟨fun h3 => hsame _, fun h3 => ?_⟩
      have ha := gi.resolve_left h3
      simp only [q152_94, q152_95, q152_98, q152_99, q152_100, q152_102, k_35 hS, z_35, r_35_2 hS, k_37 hS, l_37 hS, z_37, as_nil, as_i, as_r, Nat.reduceAdd, Nat.reduceLeDiff, z_eq0, z_eq1, z_or, z_em, Classical.not_not, not_false_eq_true, not_true_eq_false, true_and, and_true, false_and, and_false, and_self, true_implies, false_implies, implies_true, Option.toList_some, Option.toList_none, List.cons_append, List.nil_append, Nat.add_eq_zero_iff, a_nl_i, a_nl_r, a_nl_n, true_or, or_true, eq_self, a_isRA_22, a_isRA_24, a_isRA_32, a_isA_20, ok_4, ok_5, ok_6, ok_7, ok_9, ok_20, ok_21, ok_30, ok_50, ok_180, ok_192, ok_200]
      refine ⟨hf, ?_⟩
      refine ck_isIn (fun v => ?_)
      simp only [q152_105, q152_108, q152_109, q152_111, q152_114, q152_115, k_35 hS, z_35, as_nil, as_i, as_r, Nat.reduceAdd, Nat.reduceLeDiff, z_eq0, z_eq1, z_or, z_em, Classical.not_not, not_false_eq_true, not_true_eq_false, true_and, and_true, false_and, and_false, and_self, true_implies, false_implies, implies_true, Option.toList_some, Option.toList_none, List.cons_append, List.nil_append, Nat.add_eq_zero_iff, a_nl_i, a_nl_r, a_nl_n, true_or, or_true, eq_self, a_isRA_22, a_isRA_24, a_isRA_32, a_isA_20, ok_4, ok_5, ok_6, ok_7, ok_9, ok_20, ok_21, ok_30, ok_50, ok_180, ok_192, ok_200, ha, h3]
      refine ⟨fun _ => hsame _, fun _ => ?_⟩
      refine ck_isNewGroup a5' hN hT (fun v2 => ?_)
      have z1 := cZ_R38 (j := a.toNatClampNeg) hZ (Or.inr ha)
      have N1 := rn_put1 hN a50 a5' h3
      have hgo : a_at (E + 19) (a_xm a_m152) 121 [some (a_rf (C + 35)), some (.int a), some (.int l), some (.int f), some (.int i), some (a_rf (R (C + 15) i.toNatClampNeg))] [] (n, t, K, L, J, R) P := by
        simp only [q152_121, q152_122, q152_125, q152_126, q152_128, q152_129, q152_130, q152_131, q152_132, q152_133, k_35 hS, z_35, r_35_3 hS, k_38 hS, l_38 hS, z_38, as_nil, as_i, as_r, Nat.reduceAdd, Nat.reduceLeDiff, z_eq0, z_eq1, z_or, z_em, Classical.not_not, not_false_eq_true, not_true_eq_false, true_and, and_true, false_and, and_false, and_self, true_implies, false_implies, implies_true, Option.toList_some, Option.toList_none, List.cons_append, List.nil_append, Nat.add_eq_zero_iff, a_nl_i, a_nl_r, a_nl_n, true_or, or_true, eq_self, a_isRA_22, a_isRA_24, a_isRA_32, a_isA_20, ok_4, ok_5, ok_6, ok_7, ok_9, ok_20, ok_21, ok_30, ok_50, ok_180, ok_192, ok_200, ha, h3]
        have hc3 : ∀ v3 J3 R3, cZ C c n0 K0 L0 I0 R0 n t K L J3 R3 → J3 (C + 35) 7 = m → rnP C R3 (a + 1) → (v3 = 0 ∨ v3 = 1) → (¬ v3 = 0 → rnP C R3 m ∧ frP C J3 R3 m) → a_at (E + 19) (a_xm a_m152) 136 [some (a_rf (C + 35)), some (.int a), some (.int l), some (.int f), some (.int i), some (a_rf (R (C + 15) i.toNatClampNeg))] [.int v3] (n, t, K, L, J3, R3) P := fun v3 J3 R3 z3 e3 N3 b3 f3 => by
          simp only [q152_136, q152_139, q152_140, as_nil, as_i, as_r, Nat.reduceAdd, Nat.reduceLeDiff, z_eq0, z_eq1, z_or, z_em, Classical.not_not, not_false_eq_true, not_true_eq_false, true_and, and_true, false_and, and_false, and_self, true_implies, false_implies, implies_true, Option.toList_some, Option.toList_none, List.cons_append, List.nil_append, Nat.add_eq_zero_iff, a_nl_i, a_nl_r, a_nl_n, true_or, or_true, eq_self, a_isRA_22, a_isRA_24, a_isRA_32, a_isA_20, ok_4, ok_5, ok_6, ok_7, ok_9, ok_20, ok_21, ok_30, ok_50, ok_180, ok_192, ok_200]
          refine ⟨fun _ => hnext hi J3 R3 _ z3 e3 (rn_le N3 aa1), fun hv => ?_⟩
          have := hP 1 J3 R3 z3 e3 (rn_le N3 aa1) (Or.inr rfl) (fun _ => f3 hv)
          first
            | exact this
            | exact ⟨by decide, this⟩
        repeat' first
          | with_reducible apply And.intro
          | exact a50
          | exact a5.2
          | exact hr J _ _ z1 es N1 hc3
          | (right; rfl)
          | trivial
      simp only [q152_118, as_nil, as_i, as_r, Nat.reduceAdd, Nat.reduceLeDiff, z_eq0, z_eq1, z_or, z_em, Classical.not_not, not_false_eq_true, not_true_eq_false, true_and, and_true, false_and, and_false, and_self, true_implies, false_implies, implies_true, Option.toList_some, Option.toList_none, List.cons_append, List.nil_append, Nat.add_eq_zero_iff, a_nl_i, a_nl_r, a_nl_n, true_or, or_true, eq_self, a_isRA_22, a_isRA_24, a_isRA_32, a_isA_20, ok_4, ok_5, ok_6, ok_7, ok_9, ok_20, ok_21, ok_30, ok_50, ok_180, ok_192, ok_200]
      exact ⟨fun _ => hsame _, fun _ => hgo⟩
    · simp only [q152_87, q152_89, q152_91, as_nil, as_i, as_r, Nat.reduceAdd, Nat.reduceLeDiff, z_eq0, z_eq1, z_or, z_em, Classical.not_not, not_false_eq_true, not_true_eq_false, true_and, and_true, false_and, and_false, and_self, true_implies, false_implies, implies_true, Option.toList_some, Option.toList_none, List.cons_append, List.nil_append, Nat.add_eq_zero_iff, a_nl_i, a_nl_r, a_nl_n, true_or, or_true, eq_self, a_isRA_22, a_isRA_24, a_isRA_32, a_isA_20, ok_4, ok_5, ok_6, ok_7, ok_9, ok_20, ok_21, ok_30, ok_50, ok_180, ok_192, ok_200]
      first
        | exact hsame _
        | exact ⟨fun _ => hsame _, fun h => absurd rfl h⟩
theorem kCL_all {m : Int32} (hm : 2 ≤ m ∧ m ≤ 5) : ∀ z, kCL C c n0 K0 L0 I0 R0 n t K L m z := by
  intro z
  have s0 := Int32.le_iff_toInt_le.mp hm.1
  have s1 := Int32.le_iff_toInt_le.mp hm.2
  have c0 : (0 : Int32).toInt = 0 := rfl
  have c1 : (1 : Int32).toInt = 1 := rfl
  have c2 : (2 : Int32).toInt = 2 := rfl
  have c5 : (5 : Int32).toInt = 5 := rfl
  have pre : ∀ (a : Int32) (I : Nat → Nat → Int32) (R : Nat → Nat → Nat), 1 ≤ a → a ≤ m → cZ C c n0 K0 L0 I0 R0 n t K L I R → rnP C R a → K (R (C + 38) ((0 : Int32)).toNatClampNeg) = 1 ∧ K (R (C + 38) ((a - 1)).toNatClampNeg) = 1 ∧ ¬ (R (C + 38) ((0 : Int32)).toNatClampNeg) = 0 ∧ ¬ (R (C + 38) ((a - 1)).toNatClampNeg) = 0 ∧ (0 ≤ a - 1 ∧ a - 1 < 5) := fun a I R h1 h2 z N => by
    have x : 0 ≤ a - 1 ∧ a - 1 < 5 ∧ a - 1 < a ∧ 0 < a := by clear N z s0 s1; grind
    have n0 := N 0 (by decide) x.2.2.2
    have n1 := N (a - 1) x.1 x.2.2.1
    exact ⟨(z.2.1.1.g_ringR _).resolve_left n0, (z.2.1.1.g_ringR _).resolve_left n1, n0, n1, x.1, x.2.1⟩
  induction z with
  | zero =>
    intro a I R D P h1 ha hD hZ es hN hP
    obtain ⟨E, rfl⟩ : ∃ E, D = E + 20 := ⟨D - 20, by omega⟩
    have hT := hZ.2.1.1
    have hS := hT.s
    have ea : a = m := Int32.toInt_inj.mp (by omega)
    obtain ⟨k0, k1, y0, y1, x5⟩ := pre a I R h1 (by rw [ea]; exact Int32.le_refl _) hZ hN
    have g1 := (hT.g_ask _ k1).2.2.1
    have hd : ∀ (v : Int32) J, dR C K L R I J → (v = 0 ∨ v = 1) → (¬ v = 0 → frP C J R m) → P (some (.int v)) (n, t, K, L, J, R) := fun v J g b f => hP v J R (cZ_G hZ (dR_G g)) ((dR_sz g).trans es) hN b (fun hv => ⟨by rw [← ea]; exact hN, f hv⟩)
    have p0 := hd 0 I (dR_refl hT) (Or.inl rfl) (fun h => absurd rfl h)
    have g29 : 0 ≤ I (R (C + 38) ((a - 1)).toNatClampNeg) 4 ∧ I (R (C + 38) ((a - 1)).toNatClampNeg) 4 < 30 := ⟨g1.1, by clear hP hd p0 hZ hN hT pre; grind⟩
    rw [a_enter1 (M := a_m152) rfl (a_cat_rf (a_cat_int a_cat_nil)) (show 2 ≤ 6 by decide)]
    show a_at _ (a_xm a_m152) 0 [some (a_rf (C + 35)), some (.int a), none, none, none, none] [] _ _
    simp only [q152_0, q152_1, q152_4, q152_5, q152_6, q152_9, q152_10, q152_11, q152_14, q152_15, q152_16, q152_17, q152_18, q152_21, q152_22, q152_23, q152_24, q152_27, q152_30, q152_31, q152_32, q152_35, q152_36, q152_39, q152_40, q152_41, q152_42, k_35 hS, z_35, r_35_3 hS, k_38 hS, l_38 hS, z_38, r_35_2 hS, k_37 hS, l_37 hS, z_37, as_nil, as_i, as_r, Nat.reduceAdd, Nat.reduceLeDiff, z_eq0, z_eq1, z_or, z_em, Classical.not_not, not_false_eq_true, not_true_eq_false, true_and, and_true, false_and, and_false, and_self, true_implies, false_implies, implies_true, Option.toList_some, Option.toList_none, List.cons_append, List.nil_append, Nat.add_eq_zero_iff, a_nl_i, a_nl_r, a_nl_n, true_or, or_true, eq_self, a_isRA_22, a_isRA_24, a_isRA_32, a_isA_20, ok_4, ok_5, ok_6, ok_7, ok_9, ok_20, ok_21, ok_30, ok_50, ok_180, ok_192, ok_200, k0, k1, y0, y1, es, ← ea, Int32.le_refl]
    refine ⟨by decide, x5, g29, ?_⟩
    refine ck_isIn (fun v => ?_)
    simp only [q152_45, q152_48, q152_49, q152_52, q152_55, q152_56, q152_59, q152_60, k_35 hS, z_35, as_nil, as_i, as_r, Nat.reduceAdd, Nat.reduceLeDiff, z_eq0, z_eq1, z_or, z_em, Classical.not_not, not_false_eq_true, not_true_eq_false, true_and, and_true, false_and, and_false, and_self, true_implies, false_implies, implies_true, Option.toList_some, Option.toList_none, List.cons_append, List.nil_append, Nat.add_eq_zero_iff, a_nl_i, a_nl_r, a_nl_n, true_or, or_true, eq_self, a_isRA_22, a_isRA_24, a_isRA_32, a_isA_20, ok_4, ok_5, ok_6, ok_7, ok_9, ok_20, ok_21, ok_30, ok_50, ok_180, ok_192, ok_200]
    refine ⟨fun _ => ?_, fun _ => ?_⟩
    · first
        | exact p0
        | exact ⟨by decide, p0⟩
    · refine ck_canTurn (m := m) (by clear hP hd p0 hZ hN hT pre; grind) hm.2 (by rw [← ea]; exact hN) es hT (fun v2 J2 g2 b2 f2 => ?_)
      simp only [q152_52, q152_55, q152_56, q152_59, q152_60, as_nil, as_i, as_r, Nat.reduceAdd, Nat.reduceLeDiff, z_eq0, z_eq1, z_or, z_em, Classical.not_not, not_false_eq_true, not_true_eq_false, true_and, and_true, false_and, and_false, and_self, true_implies, false_implies, implies_true, Option.toList_some, Option.toList_none, List.cons_append, List.nil_append, Nat.add_eq_zero_iff, a_nl_i, a_nl_r, a_nl_n, true_or, or_true, eq_self, a_isRA_22, a_isRA_24, a_isRA_32, a_isA_20, ok_4, ok_5, ok_6, ok_7, ok_9, ok_20, ok_21, ok_30, ok_50, ok_180, ok_192, ok_200]
      have q0 := hd 0 J2 g2 (Or.inl rfl) (fun h => absurd rfl h)
      refine ⟨fun _ => ?_, fun hv => ?_⟩
      · first
          | exact q0
          | exact ⟨by decide, q0⟩
      · have q1 := hd 1 J2 g2 (Or.inr rfl) (fun _ => f2 hv)
        first
          | exact q1
          | exact ⟨by decide, q1⟩
  | succ z ih =>
    intro a I R D P h1 ha hD hZ es hN hP
    obtain ⟨E, rfl⟩ : ∃ E, D = E + 20 := ⟨D - 20, by omega⟩
    have hT := hZ.2.1.1
    have hS := hT.s
    have h1i := Int32.le_iff_toInt_le.mp h1
    have ham : a < m := by rw [Int32.lt_iff_toInt_lt]; omega
    obtain ⟨k0, k1, y0, y1, x5⟩ := pre a I R h1 (Int32.le_of_lt ham) hZ hN
    have g0 := (hT.g_ask _ k0).2.2.1
    have g1 := (hT.g_ask _ k1).2.2.1
    have g29 : 0 ≤ I (R (C + 38) ((a - 1)).toNatClampNeg) 4 ∧ I (R (C + 38) ((a - 1)).toNatClampNeg) 4 < 30 := ⟨g1.1, by clear hP hZ hN hT pre ih; grind⟩
    have nm : ¬ m ≤ a := Int32.not_le.mpr ham
    have a5 : a < 5 := by clear hP hZ hN hT pre ih; grind
    have e1 : (a + 1).toInt = a.toInt + 1 := by rw [ti_add (by omega)]; omega
    have hr : ∀ (I : Nat → Nat → Int32) (R : Nat → Nat → Nat) (P : Option Value → AH → Prop), cZ C c n0 K0 L0 I0 R0 n t K L I R → I (C + 35) 7 = m → rnP C R (a + 1) → (∀ v J R2, cZ C c n0 K0 L0 I0 R0 n t K L J R2 → J (C + 35) 7 = m → rnP C R2 (a + 1) → (v = 0 ∨ v = 1) → (¬ v = 0 → rnP C R2 m ∧ frP C J R2 m) → P (some (.int v)) (n, t, K, L, J, R2)) → a_does (E + 19) 152 [a_rf (C + 35), .int (a + 1)] (n, t, K, L, I, R) P := fun I R P z e N hP => ih (a + 1) I R (E + 19) P (by rw [Int32.le_iff_toInt_le]; omega) (by omega) (by omega) z e N hP
    have hl0 : 0 ≤ I (R (C + 38) ((0 : Int32)).toNatClampNeg) 4 + 1 ∧ I (R (C + 38) ((0 : Int32)).toNatClampNeg) 4 + 1 ≤ 30 := by clear hP hZ hN hT pre ih hr; grind
    have hl := fun u => lk_closes_66 (E := E) (l := I (R (C + 38) ((0 : Int32)).toNatClampNeg) 4) hm h1 ham g29 g0.1 hr hP (I (R (C + 38) ((0 : Int32)).toNatClampNeg) 4 + 1) hl0.2 I R u hl0.1 hZ es hN
    rw [a_enter1 (M := a_m152) rfl (a_cat_rf (a_cat_int a_cat_nil)) (show 2 ≤ 6 by decide)]
    show a_at _ (a_xm a_m152) 0 [some (a_rf (C + 35)), some (.int a), none, none, none, none] [] _ _
    simp only [q152_0, q152_1, q152_4, q152_5, q152_6, q152_9, q152_10, q152_11, q152_14, q152_15, q152_16, q152_17, q152_18, q152_21, q152_22, q152_23, q152_24, q152_27, q152_30, q152_31, q152_32, q152_35, q152_36, q152_39, q152_40, q152_41, q152_42, q152_45, q152_48, q152_49, q152_52, q152_55, q152_56, q152_59, q152_60, q152_61, q152_62, q152_63, q152_64, k_35 hS, z_35, r_35_3 hS, k_38 hS, l_38 hS, z_38, r_35_2 hS, k_37 hS, l_37 hS, z_37, as_nil, as_i, as_r, Nat.reduceAdd, Nat.reduceLeDiff, z_eq0, z_eq1, z_or, z_em, Classical.not_not, not_false_eq_true, not_true_eq_false, true_and, and_true, false_and, and_false, and_self, true_implies, false_implies, implies_true, Option.toList_some, Option.toList_none, List.cons_append, List.nil_append, Nat.add_eq_zero_iff, a_nl_i, a_nl_r, a_nl_n, true_or, or_true, eq_self, a_isRA_22, a_isRA_24, a_isRA_32, a_isA_20, ok_4, ok_5, ok_6, ok_7, ok_9, ok_20, ok_21, ok_30, ok_50, ok_180, ok_192, ok_200, k0, k1, y0, y1, es, nm, a5]
    exact ⟨by decide, x5, hl _⟩
theorem lk_find_44 {m : Int32} (hm : 2 ≤ m ∧ m ≤ 5) (hP : ∀ v J R, cZ C c n0 K0 L0 I0 R0 n t K L J R → J (C + 35) 7 = v → (v = 0 ∨ (2 ≤ v ∧ v ≤ 5)) → rnP C R v → frP C J R v → P (some (.int v)) (n, t, K, L, J, R)) (hn : ∀ J R u, cZ C c n0 K0 L0 I0 R0 n t K L J R → a_at (d + 40) (a_xm a_m150) 94 [some (a_rf (C + 35)), some (.int m), u] [] (n, t, K, L, J, R) P) : ∀ i : Int32, i ≤ 30 → ∀ J R, 0 ≤ i → cZ C c n0 K0 L0 I0 R0 n t K L J R → J (C + 35) 7 = m → a_at (d + 40) (a_xm a_m150) 44 [some (a_rf (C + 35)), some (.int m), some (.int i)] [] (n, t, K, L, J, R) P := by
  refine up_ind 30 (fun i hk ih => ?_)
  intro J R q0 hZ es
  have hT := hZ.2.1.1
  have hS := hT.s
  have gA := hT.g_asksR
  have gB := hT.g_benchesR
  have gX := hT.g_textsR
  have gc := hT.g_asks
  have gi := gA i.toNatClampNeg
  have hnext : i < 30 → ∀ J R, cZ C c n0 K0 L0 I0 R0 n t K L J R → J (C + 35) 7 = m → a_at (d + 40) (a_xm a_m150) 88 [some (a_rf (C + 35)), some (.int m), some (.int i)] [] (n, t, K, L, J, R) P := fun hi J R z e => by
    simp only [q150_88, q150_91, as_nil, as_i, as_r, Nat.reduceAdd, Nat.reduceLeDiff, z_eq0, z_eq1, z_or, z_em, Classical.not_not, not_false_eq_true, not_true_eq_false, true_and, and_true, false_and, and_false, and_self, true_implies, false_implies, implies_true, Option.toList_some, Option.toList_none, List.cons_append, List.nil_append, Nat.add_eq_zero_iff, a_nl_i, a_nl_r, a_nl_n, true_or, or_true, eq_self, a_isRA_22, a_isRA_24, a_isRA_32, a_isA_20, ok_4, ok_5, ok_6, ok_7, ok_9, ok_20, ok_21, ok_30, ok_50, ok_180, ok_192, ok_200]
    exact ih hi J R (by clear hP hn ih hZ hT gA gB gX; grind) z e
  rw [q150_44]
  simp only [q150_45, q150_46, q150_49, q150_52, q150_55, q150_56, q150_59, q150_60, q150_61, q150_64, q150_65, k_35 hS, z_35, r_35_0 hS, k_14 hS, z_14, r_35_3 hS, k_38 hS, l_38 hS, z_38, sp_askAt hS gA, as_nil, as_i, as_r, Nat.reduceAdd, Nat.reduceLeDiff, z_eq0, z_eq1, z_or, z_em, Classical.not_not, not_false_eq_true, not_true_eq_false, true_and, and_true, false_and, and_false, and_self, true_implies, false_implies, implies_true, Option.toList_some, Option.toList_none, List.cons_append, List.nil_append, Nat.add_eq_zero_iff, a_nl_i, a_nl_r, a_nl_n, true_or, or_true, eq_self, a_isRA_22, a_isRA_24, a_isRA_32, a_isA_20, ok_4, ok_5, ok_6, ok_7, ok_9, ok_20, ok_21, ok_30, ok_50, ok_180, ok_192, ok_200]
  refine ⟨fun h1 => hn J R _ hZ, fun h1 => ?_⟩
  have h1 := Int32.not_le.mp h1
  have hi : i < 30 := by clear hP hn ih hZ hT hnext gA gB gX; grind
  have hn0 := hT.g_asksN i q0 h1
  have ha := gi.resolve_left hn0
  have z1 := cZ_R38 (j := 0) hZ (Or.inr ha)
  have N1 : rnP C (a_ur R (C + 38) 0 (R (C + 15) i.toNatClampNeg)) 1 := fun j j0 j1 => by
    have : j = 0 := by clear hP hn ih hZ hT hnext gA gB gX z1; grind
    subst this
    rw [ur_ap, if_pos ⟨rfl, rfl⟩]
    exact hn0
  have s0 := Int32.le_iff_toInt_le.mp hm.1
  have s1 := Int32.le_iff_toInt_le.mp hm.2
  have c1 : (1 : Int32).toInt = 1 := rfl
  have c2 : (2 : Int32).toInt = 2 := rfl
  have c5 : (5 : Int32).toInt = 5 := rfl
  refine ⟨fun _ => ?_, fun h => absurd ⟨q0, h1, hi⟩ h⟩
  simp only [q150_68, q150_69, q150_70, q150_73, q150_74, q150_75, q150_78, q150_79, q150_80, k_35 hS, z_35, r_35_2 hS, k_37 hS, l_37 hS, z_37, as_nil, as_i, as_r, Nat.reduceAdd, Nat.reduceLeDiff, z_eq0, z_eq1, z_or, z_em, Classical.not_not, not_false_eq_true, not_true_eq_false, true_and, and_true, false_and, and_false, and_self, true_implies, false_implies, implies_true, Option.toList_some, Option.toList_none, List.cons_append, List.nil_append, Nat.add_eq_zero_iff, a_nl_i, a_nl_r, a_nl_n, true_or, or_true, eq_self, a_isRA_22, a_isRA_24, a_isRA_32, a_isA_20, ok_4, ok_5, ok_6, ok_7, ok_9, ok_20, ok_21, ok_30, ok_50, ok_180, ok_192, ok_200, ur_ap, cc_ne, Nat.reduceEqDiff, if_false, k_38 hS, l_38 hS, z_38, cn00, ha]
  have hsame := hnext hi _ _ z1 es
  have hcl : a_does (d + 40) 152 [a_rf (C + 35), .int 1] (n, t, K, L, J, a_ur R (C + 38) 0 (R (C + 15) i.toNatClampNeg)) (fun r h' => a_at (d + 40) (a_xm a_m150) 83 [some (a_rf (C + 35)), some (.int m), some (.int i)] (r.toList ++ []) h' P) := by
    refine kCL_all (C := C) (c := c) (n0 := n0) (K0 := K0) (L0 := L0) (I0 := I0) (R0 := R0) (n := n) (t := t) (K := K) (L := L) hm (m.toInt - 1).toNat 1 J _ (d + 40) _ (by decide) (by omega) (by omega) z1 es N1 (fun v J2 R2 z2 e2 N2 b2 f2 => ?_)
    simp only [q150_83, q150_86, q150_87, as_nil, as_i, as_r, Nat.reduceAdd, Nat.reduceLeDiff, z_eq0, z_eq1, z_or, z_em, Classical.not_not, not_false_eq_true, not_true_eq_false, true_and, and_true, false_and, and_false, and_self, true_implies, false_implies, implies_true, Option.toList_some, Option.toList_none, List.cons_append, List.nil_append, Nat.add_eq_zero_iff, a_nl_i, a_nl_r, a_nl_n, true_or, or_true, eq_self, a_isRA_22, a_isRA_24, a_isRA_32, a_isA_20, ok_4, ok_5, ok_6, ok_7, ok_9, ok_20, ok_21, ok_30, ok_50, ok_180, ok_192, ok_200]
    refine ⟨fun _ => hnext hi J2 R2 z2 e2, fun hv => ?_⟩
    exact hP m J2 R2 z2 e2 (Or.inr hm) (f2 hv).1 (f2 hv).2
  repeat' first
    | with_reducible apply And.intro
    | with_reducible intro _
    | exact hsame
    | exact hcl
    | exact q0
    | exact hi
    | decide
    | (right; rfl)
theorem lk_find_32 (hP : ∀ v J R, cZ C c n0 K0 L0 I0 R0 n t K L J R → J (C + 35) 7 = v → (v = 0 ∨ (2 ≤ v ∧ v ≤ 5)) → rnP C R v → frP C J R v → P (some (.int v)) (n, t, K, L, J, R)) : ∀ m : Int32, m ≤ 6 → ∀ J R u, 2 ≤ m → cZ C c n0 K0 L0 I0 R0 n t K L J R → a_at (d + 40) (a_xm a_m150) 32 [some (a_rf (C + 35)), some (.int m), u] [] (n, t, K, L, J, R) P := by
  refine up_ind 6 (fun m hk ih => ?_)
  intro J R u q0 hZ
  have hT := hZ.2.1.1
  have hS := hT.s
  have hn : m < 6 → ∀ J R u, cZ C c n0 K0 L0 I0 R0 n t K L J R → a_at (d + 40) (a_xm a_m150) 94 [some (a_rf (C + 35)), some (.int m), u] [] (n, t, K, L, J, R) P := fun hi J R u z => by
    simp only [q150_94, q150_97, as_nil, as_i, as_r, Nat.reduceAdd, Nat.reduceLeDiff, z_eq0, z_eq1, z_or, z_em, Classical.not_not, not_false_eq_true, not_true_eq_false, true_and, and_true, false_and, and_false, and_self, true_implies, false_implies, implies_true, Option.toList_some, Option.toList_none, List.cons_append, List.nil_append, Nat.add_eq_zero_iff, a_nl_i, a_nl_r, a_nl_n, true_or, or_true, eq_self, a_isRA_22, a_isRA_24, a_isRA_32, a_isA_20, ok_4, ok_5, ok_6, ok_7, ok_9, ok_20, ok_21, ok_30, ok_50, ok_180, ok_192, ok_200]
    exact ih hi J R _ (by clear hP ih hZ hT; grind) z
  rw [q150_32]
  simp only [q150_33, q150_34, q150_37, q150_38, q150_39, q150_42, q150_43, k_35 hS, z_35, as_nil, as_i, as_r, Nat.reduceAdd, Nat.reduceLeDiff, z_eq0, z_eq1, z_or, z_em, Classical.not_not, not_false_eq_true, not_true_eq_false, true_and, and_true, false_and, and_false, and_self, true_implies, false_implies, implies_true, Option.toList_some, Option.toList_none, List.cons_append, List.nil_append, Nat.add_eq_zero_iff, a_nl_i, a_nl_r, a_nl_n, true_or, or_true, eq_self, a_isRA_22, a_isRA_24, a_isRA_32, a_isA_20, ok_4, ok_5, ok_6, ok_7, ok_9, ok_20, ok_21, ok_30, ok_50, ok_180, ok_192, ok_200, ui_ap, cc_ne, cc_n0, cc_0n, Nat.reduceEqDiff, reduceIte, if_true, if_false]
  refine ⟨fun h1 => ?_, fun h1 => ?_⟩
  · have z := cZ_G hZ (dG_Circle_size (v := 0) (dG_refl hT) (by decide))
    simp only [q150_100, q150_101, q150_102, q150_105, q150_106, k_35 hS, z_35, as_nil, as_i, as_r, Nat.reduceAdd, Nat.reduceLeDiff, z_eq0, z_eq1, z_or, z_em, Classical.not_not, not_false_eq_true, not_true_eq_false, true_and, and_true, false_and, and_false, and_self, true_implies, false_implies, implies_true, Option.toList_some, Option.toList_none, List.cons_append, List.nil_append, Nat.add_eq_zero_iff, a_nl_i, a_nl_r, a_nl_n, true_or, or_true, eq_self, a_isRA_22, a_isRA_24, a_isRA_32, a_isA_20, ok_4, ok_5, ok_6, ok_7, ok_9, ok_20, ok_21, ok_30, ok_50, ok_180, ok_192, ok_200, ui_ap, cc_ne, cc_n0, cc_0n, Nat.reduceEqDiff, reduceIte, if_true, if_false]
    exact hP 0 _ _ z (by rw [ui_ap, if_pos ⟨rfl, rfl⟩]) (Or.inl rfl) (fun i h0 h1 => absurd h1 (Int32.not_lt.mpr h0)) (fun i h0 h1 => absurd h1 (Int32.not_lt.mpr h0))
  · have hm : 2 ≤ m ∧ m ≤ 5 := by clear hP ih hZ hT hn; grind
    have z := cZ_G hZ (dG_Circle_size (v := m) (dG_refl hT) (by clear hP ih hZ hT hn; grind))
    exact lk_find_44 (d := d) hm hP (hn (by clear hP ih hZ hT hn; grind)) 0 (by decide) _ R (by decide) z (by rw [ui_ap, if_pos ⟨rfl, rfl⟩])
theorem lk_find_2 (hP : ∀ v J R, cZ C c n0 K0 L0 I0 R0 n t K L J R → J (C + 35) 7 = v → (v = 0 ∨ (2 ≤ v ∧ v ≤ 5)) → rnP C R v → frP C J R v → P (some (.int v)) (n, t, K, L, J, R)) : ∀ i : Int32, i ≤ 30 → ∀ J R u, 0 ≤ i → cZ C c n0 K0 L0 I0 R0 n t K L J R → a_at (d + 40) (a_xm a_m150) 2 [some (a_rf (C + 35)), some (.int i), u] [] (n, t, K, L, J, R) P := by
  refine up_ind 30 (fun i hk ih => ?_)
  intro J R u q0 hZ
  have hT := hZ.2.1.1
  have hS := hT.s
  have gc := hT.g_asks
  rw [q150_2]
  simp only [q150_3, q150_4, q150_7, q150_10, q150_13, q150_14, q150_17, q150_18, q150_19, q150_20, k_35 hS, z_35, r_35_0 hS, k_14 hS, z_14, r_35_2 hS, k_37 hS, l_37 hS, z_37, as_nil, as_i, as_r, Nat.reduceAdd, Nat.reduceLeDiff, z_eq0, z_eq1, z_or, z_em, Classical.not_not, not_false_eq_true, not_true_eq_false, true_and, and_true, false_and, and_false, and_self, true_implies, false_implies, implies_true, Option.toList_some, Option.toList_none, List.cons_append, List.nil_append, Nat.add_eq_zero_iff, a_nl_i, a_nl_r, a_nl_n, true_or, or_true, eq_self, a_isRA_22, a_isRA_24, a_isRA_32, a_isA_20, ok_4, ok_5, ok_6, ok_7, ok_9, ok_20, ok_21, ok_30, ok_50, ok_180, ok_192, ok_200, ui_ap, cc_ne, cc_n0, cc_0n, Nat.reduceEqDiff, reduceIte, if_true, if_false]
  refine ⟨fun h1 => ?_, fun h1 => ?_⟩
  · simp only [q150_30, q150_31, as_nil, as_i, as_r, Nat.reduceAdd, Nat.reduceLeDiff, z_eq0, z_eq1, z_or, z_em, Classical.not_not, not_false_eq_true, not_true_eq_false, true_and, and_true, false_and, and_false, and_self, true_implies, false_implies, implies_true, Option.toList_some, Option.toList_none, List.cons_append, List.nil_append, Nat.add_eq_zero_iff, a_nl_i, a_nl_r, a_nl_n, true_or, or_true, eq_self, a_isRA_22, a_isRA_24, a_isRA_32, a_isA_20, ok_4, ok_5, ok_6, ok_7, ok_9, ok_20, ok_21, ok_30, ok_50, ok_180, ok_192, ok_200, ui_ap, cc_ne, cc_n0, cc_0n, Nat.reduceEqDiff, reduceIte, if_true, if_false]
    exact lk_find_32 (d := d) hP 2 (by decide) J R u (by decide) hZ
  · have hi : 0 ≤ i ∧ i < 30 := by clear hP ih hZ hT; grind
    refine ck_soundWishes hi hT (fun v J2 j2 => ?_)
    have z := cZ_G (cZ_C hZ j2) (dG_37 (k := i.toNatClampNeg) (v := v) (dG_refl j2.1))
    simp only [q150_23, q150_24, q150_27, as_nil, as_i, as_r, Nat.reduceAdd, Nat.reduceLeDiff, z_eq0, z_eq1, z_or, z_em, Classical.not_not, not_false_eq_true, not_true_eq_false, true_and, and_true, false_and, and_false, and_self, true_implies, false_implies, implies_true, Option.toList_some, Option.toList_none, List.cons_append, List.nil_append, Nat.add_eq_zero_iff, a_nl_i, a_nl_r, a_nl_n, true_or, or_true, eq_self, a_isRA_22, a_isRA_24, a_isRA_32, a_isA_20, ok_4, ok_5, ok_6, ok_7, ok_9, ok_20, ok_21, ok_30, ok_50, ok_180, ok_192, ok_200, ui_ap, cc_ne, cc_n0, cc_0n, Nat.reduceEqDiff, reduceIte, if_true, if_false, k_37 hS, l_37 hS, z_37]
    exact ⟨hi, ih hi.2 _ R u (by clear hP ih hZ hT z j2; grind) z⟩
theorem ck_find (hZ : cZ C c n0 K0 L0 I0 R0 n t K L I R) (hP : ∀ v J R, cZ C c n0 K0 L0 I0 R0 n t K L J R → J (C + 35) 7 = v → (v = 0 ∨ (2 ≤ v ∧ v ≤ 5)) → rnP C R v → frP C J R v → P (some (.int v)) (n, t, K, L, J, R)) : a_does (d + 41) 150 [a_rf (C + 35)] (n, t, K, L, I, R) P := by
  have hS := hZ.2.1.1.s
  have hl := fun u => lk_find_2 (d := d) hP 0 (by decide) I R u (by decide) hZ
  rw [a_enter1 (M := a_m150) rfl (a_cat_rf a_cat_nil) (show 1 ≤ 3 by decide)]
  show a_at _ (a_xm a_m150) 0 [some (a_rf (C + 35)), none, none] [] _ _
  simp only [q150_0, q150_1, as_nil, as_i, as_r, Nat.reduceAdd, Nat.reduceLeDiff, z_eq0, z_eq1, z_or, z_em, Classical.not_not, not_false_eq_true, not_true_eq_false, true_and, and_true, false_and, and_false, and_self, true_implies, false_implies, implies_true, Option.toList_some, Option.toList_none, List.cons_append, List.nil_append, Nat.add_eq_zero_iff, a_nl_i, a_nl_r, a_nl_n, true_or, or_true, eq_self, a_isRA_22, a_isRA_24, a_isRA_32, a_isA_20, ok_4, ok_5, ok_6, ok_7, ok_9, ok_20, ok_21, ok_30, ok_50, ok_180, ok_192, ok_200, ui_ap, cc_ne, cc_n0, cc_0n, Nat.reduceEqDiff, reduceIte, if_true, if_false]
  exact hl _
theorem lk_turn_35 {m : Int32} {u0 : Option Value} (h1m : 1 ≤ m) (hm : m ≤ 5) (hN : rnP C R m) (hF : ∀ k : Int32, 0 ≤ k → k < m → fitP (I (C + 40) (nxt m k).toNatClampNeg) (I (R (C + 38) (k).toNatClampNeg) 2)) (hP : ∀ v J, cZ C c n0 K0 L0 I0 R0 (n + 1) t K L J R → P (some (.int v)) (n + 1, t, K, L, J, R)) : ∀ i : Int32, i ≤ 5 → ∀ J w, 0 ≤ i → cZ C c n0 K0 L0 I0 R0 (n + 1) t K L J R → J (C + 35) 7 = m → (∀ k, J (C + 40) k = I (C + 40) k) → (∀ b, K b = 1 → J b 2 = I b 2) → a_at (d + 7) (a_xm a_m159) 35 [some (a_rf (C + 35)), some (.int i), w] [] (n + 1, t, K, L, J, R) P := by
  refine up_ind 5 (fun i hk ih => ?_)
  intro J w q0 hZ es e40 e2
  have hT := hZ.2.1.1
  have hS := hT.s
  have hm0 : ¬ m = 0 := by clear hP ih hN hF hZ hT e40 e2; grind
  rw [q159_35]
  simp only [q159_36, q159_37, q159_40, q159_43, q159_44, q159_45, q159_46, q159_47, q159_50, q159_51, q159_52, q159_53, q159_56, q159_57, q159_60, q159_61, q159_62, q159_63, q159_66, q159_67, q159_68, q159_69, q159_72, q159_73, q159_74, k_35 hS, z_35, r_35_0 hS, k_14 hS, z_14, r_35_3 hS, k_38 hS, l_38 hS, z_38, r_35_4 hS, k_39 hS, l_39 hS, z_39, r_35_5 hS, k_40 hS, l_40 hS, z_40, as_nil, as_i, as_r, Nat.reduceAdd, Nat.reduceLeDiff, z_eq0, z_eq1, z_or, z_em, Classical.not_not, not_false_eq_true, not_true_eq_false, true_and, and_true, false_and, and_false, and_self, true_implies, false_implies, implies_true, Option.toList_some, Option.toList_none, List.cons_append, List.nil_append, Nat.add_eq_zero_iff, a_nl_i, a_nl_r, a_nl_n, true_or, or_true, eq_self, a_isRA_22, a_isRA_24, a_isRA_32, a_isA_20, ok_4, ok_5, ok_6, ok_7, ok_9, ok_20, ok_21, ok_30, ok_50, ok_180, ok_192, ok_200, es, hm0]
  refine ⟨fun h1 => ?_, fun h1 => ?_⟩
  · simp only [q159_98, q159_99, q159_102, k_35 hS, z_35, as_nil, as_i, as_r, Nat.reduceAdd, Nat.reduceLeDiff, z_eq0, z_eq1, z_or, z_em, Classical.not_not, not_false_eq_true, not_true_eq_false, true_and, and_true, false_and, and_false, and_self, true_implies, false_implies, implies_true, Option.toList_some, Option.toList_none, List.cons_append, List.nil_append, Nat.add_eq_zero_iff, a_nl_i, a_nl_r, a_nl_n, true_or, or_true, eq_self, a_isRA_22, a_isRA_24, a_isRA_32, a_isA_20, ok_4, ok_5, ok_6, ok_7, ok_9, ok_20, ok_21, ok_30, ok_50, ok_180, ok_192, ok_200]
    exact hP _ J hZ
  · have h1 := Int32.not_le.mp h1
    have hi : 0 ≤ i ∧ i < 5 := by clear hP ih hN hF hZ hT e40 e2; grind
    have hx := nxt_lt hm q0 h1
    have hx5 : 0 ≤ nxt m i ∧ nxt m i < 5 := ⟨hx.1, by clear hP ih hN hF hZ hT e40 e2; grind⟩
    have ha := rn_ask hT hN q0 h1
    have hn := hN i q0 h1
    have hf : fitP (J (C + 40) (nxt m i).toNatClampNeg) (J (R (C + 38) (i).toNatClampNeg) 2) := by rw [e40, e2 _ ha]; exact hF i q0 h1
    have ga := hT.g_ask _ ha
    show (0 ≤ i ∧ i < 5) ∧ (0 ≤ nxt m i ∧ nxt m i < 5) ∧ (0 ≤ nxt m i ∧ nxt m i < 5) ∧ _
    refine ⟨hi, hx5, hx5, ?_⟩
    refine ck_place ha hT hf (fun J2 j2 => ?_)
    have z2 := cZ_G (cZ_L hZ j2) (dG_36 (k := (J2 (R (C + 38) (i).toNatClampNeg) 4).toNatClampNeg) (v := 0) (dG_refl j2.1))
    have g4 := (j2.1.g_ask _ ha).2.2.1
    have g30 : 0 ≤ J2 (R (C + 38) (i).toNatClampNeg) 4 ∧ J2 (R (C + 38) (i).toNatClampNeg) 4 < 30 := ⟨g4.1, by clear hP ih hN hF hZ hT e40 e2 z2 j2 ga; grind⟩
    have hfin := fun w => ih hi.2 _ w (by clear hP ih hN hF hZ hT e40 e2 z2 j2 ga; grind) z2 (by rw [ui_ap, if_neg (by omega), j2.2 _ _ (by omega) (by omega) (by omega)]; exact es) (fun k => by rw [ui_ap, if_neg (by omega), dL_40 j2]; exact e40 k) (fun b hb => by
      have gb := (hT.g_ask b hb).1
      rw [ui_ap, if_neg (by omega), dL_at j2 hT hb 2 (by decide) (by decide)]
      exact e2 b hb)
    simp only [q159_77, q159_78, q159_81, q159_82, q159_85, q159_86, q159_87, q159_90, q159_91, q159_92, q159_95, k_35 hS, z_35, r_35_1 hS, k_36 hS, l_36 hS, z_36, r_35_3 hS, k_38 hS, l_38 hS, z_38, as_nil, as_i, as_r, Nat.reduceAdd, Nat.reduceLeDiff, z_eq0, z_eq1, z_or, z_em, Classical.not_not, not_false_eq_true, not_true_eq_false, true_and, and_true, false_and, and_false, and_self, true_implies, false_implies, implies_true, Option.toList_some, Option.toList_none, List.cons_append, List.nil_append, Nat.add_eq_zero_iff, a_nl_i, a_nl_r, a_nl_n, true_or, or_true, eq_self, a_isRA_22, a_isRA_24, a_isRA_32, a_isA_20, ok_4, ok_5, ok_6, ok_7, ok_9, ok_20, ok_21, ok_30, ok_50, ok_180, ok_192, ok_200, ui_ap, cc_ne, cc_n0, cc_0n, Nat.reduceEqDiff, reduceIte, if_true, if_false, ha, hn]
    exact ⟨hi, g30, hfin _⟩
theorem lk_turn_6 {m : Int32} (h1m : 1 ≤ m) (hm : m ≤ 5) (hN : rnP C R m) (hF : ∀ k : Int32, 0 ≤ k → k < m → fitP (I (C + 40) (nxt m k).toNatClampNeg) (I (R (C + 38) (k).toNatClampNeg) 2)) (C96 : C + 96 < n'' + 1) (hn0 : ∀ x, n'' + 1 ≤ x → K x = 0) (hT0 : cT C K L I R) (hP : ∀ v n t K L J R, cZ C c n0 K0 L0 I0 R0 (n + 1) t K L J R → P (some (.int v)) (n + 1, t, K, L, J, R)) : ∀ i : Int32, i ≤ 5 → ∀ n t K' L' J R' w, 0 ≤ i → cZ C c n0 K0 L0 I0 R0 (n + 1) t K' L' J R' → dQ C (n'' + 1) K L I R (n + 1) K' L' J R' → J (C + 35) 7 = m → a_at (d + 7) (a_xm a_m159) 6 [some (a_rf (C + 35)), some (.int i), w] [] (n + 1, t, K', L', J, R') P := by
  refine up_ind 5 (fun i hk ih => ?_)
  intro n t K' L' J R' w q0 hZ hQ es
  have hT := hZ.2.1.1
  have hS := hT.s
  have askl : ∀ k : Int32, 0 ≤ k → k < m → (R (C + 38) (k).toNatClampNeg) < n'' + 1 := fun k k0 kk => kn_lt hn0 (rn_ask hT0 hN k0 kk) (by decide)
  have eR : ∀ k, R' (C + 38) k = R (C + 38) k := fun k => hQ.2.2.2.1 _ _ (by omega) (by rw [k_38 hT0.s]; decide)
  have hN' : rnP C R' m := fun k k0 kk => by rw [eR]; exact hN k k0 kk
  have e40 : ∀ k, J (C + 40) k = I (C + 40) k := fun k => hQ.2.2.2.2 _ _ (by omega) (by omega) (by omega) (by omega)
  have e2 : ∀ k : Int32, 0 ≤ k → k < m → J (R (C + 38) (k).toNatClampNeg) 2 = I (R (C + 38) (k).toNatClampNeg) 2 := fun k k0 kk => by
    have ha := rn_ask hT0 hN k0 kk
    have ga := (hT0.g_ask _ ha).1
    refine hQ.2.2.2.2 _ _ (askl k k0 kk) (by omega) (by omega) ?_
    intro q
    rw [ha] at q
    omega
  rw [q159_6]
  simp only [q159_7, q159_8, q159_11, q159_14, q159_15, q159_18, q159_19, q159_22, q159_23, q159_24, k_35 hS, z_35, r_35_0 hS, k_14 hS, z_14, r_35_3 hS, k_38 hS, l_38 hS, z_38, as_nil, as_i, as_r, Nat.reduceAdd, Nat.reduceLeDiff, z_eq0, z_eq1, z_or, z_em, Classical.not_not, not_false_eq_true, not_true_eq_false, true_and, and_true, false_and, and_false, and_self, true_implies, false_implies, implies_true, Option.toList_some, Option.toList_none, List.cons_append, List.nil_append, Nat.add_eq_zero_iff, a_nl_i, a_nl_r, a_nl_n, true_or, or_true, eq_self, a_isRA_22, a_isRA_24, a_isRA_32, a_isA_20, ok_4, ok_5, ok_6, ok_7, ok_9, ok_20, ok_21, ok_30, ok_50, ok_180, ok_192, ok_200, es]
  refine ⟨fun h1 => ?_, fun h1 => ?_⟩
  · simp only [q159_33, q159_34, as_nil, as_i, as_r, Nat.reduceAdd, Nat.reduceLeDiff, z_eq0, z_eq1, z_or, z_em, Classical.not_not, not_false_eq_true, not_true_eq_false, true_and, and_true, false_and, and_false, and_self, true_implies, false_implies, implies_true, Option.toList_some, Option.toList_none, List.cons_append, List.nil_append, Nat.add_eq_zero_iff, a_nl_i, a_nl_r, a_nl_n, true_or, or_true, eq_self, a_isRA_22, a_isRA_24, a_isRA_32, a_isA_20, ok_4, ok_5, ok_6, ok_7, ok_9, ok_20, ok_21, ok_30, ok_50, ok_180, ok_192, ok_200]
    refine lk_turn_35 (d := d) (u0 := none) (I := J) h1m hm hN' (fun k k0 kk => ?_) (fun v J z => hP v n t K' L' J R' z) 0 (by decide) J w (by decide) hZ es (fun _ => rfl) (fun _ _ => rfl)
    rw [e40, eR, e2 k k0 kk]
    exact hF k k0 kk
  · have h1 := Int32.not_le.mp h1
    have hi : 0 ≤ i ∧ i < 5 := by clear hP ih hN hF hZ hT e40 e2 hQ hN' eR hn0 askl hT0; grind
    have ha := rn_ask hT hN' q0 h1
    refine ⟨hi, ?_⟩
    refine ck_clear ha hZ.2.1 (fun n2 t2 K2 L2 J2 R2 h2 q2 => ?_)
    simp only [q159_27, q159_30, as_nil, as_i, as_r, Nat.reduceAdd, Nat.reduceLeDiff, z_eq0, z_eq1, z_or, z_em, Classical.not_not, not_false_eq_true, not_true_eq_false, true_and, and_true, false_and, and_false, and_self, true_implies, false_implies, implies_true, Option.toList_some, Option.toList_none, List.cons_append, List.nil_append, Nat.add_eq_zero_iff, a_nl_i, a_nl_r, a_nl_n, true_or, or_true, eq_self, a_isRA_22, a_isRA_24, a_isRA_32, a_isA_20, ok_4, ok_5, ok_6, ok_7, ok_9, ok_20, ok_21, ok_30, ok_50, ok_180, ok_192, ok_200]
    refine ih hi.2 n2 t2 K2 L2 J2 R2 w (by clear hP ih hN hF hZ hT e40 e2 hQ hN' eR hn0 askl hT0 h2 q2; grind) (cZ_Q hZ q2 h2) (dQ_Q hQ q2) ?_
    rw [q2.2.2.2.2 _ _ (by have := hQ.1; omega) (by omega) (by omega) (by omega)]
    exact es
theorem ck_turn {m : Int32} (h1m : 1 ≤ m) (hm : m ≤ 5) (hN : rnP C R m) (hF : frP C I R m) (es : I (C + 35) 7 = m) (hZ : cZ C c n0 K0 L0 I0 R0 (n + 1) t K L I R) (hP : ∀ v n t K L J R, cZ C c n0 K0 L0 I0 R0 (n + 1) t K L J R → P (some (.int v)) (n + 1, t, K, L, J, R)) : a_does (d + 8) 159 [a_rf (C + 35)] (n + 1, t, K, L, I, R) P := by
  have hT := hZ.2.1.1
  have hS := hT.s
  rw [a_enter1 (M := a_m159) rfl (a_cat_rf a_cat_nil) (show 1 ≤ 3 by decide)]
  show a_at _ (a_xm a_m159) 0 [some (a_rf (C + 35)), none, none] [] _ _
  simp only [q159_0, q159_1, k_35 hS, z_35, as_nil, as_i, as_r, Nat.reduceAdd, Nat.reduceLeDiff, z_eq0, z_eq1, z_or, z_em, Classical.not_not, not_false_eq_true, not_true_eq_false, true_and, and_true, false_and, and_false, and_self, true_implies, false_implies, implies_true, Option.toList_some, Option.toList_none, List.cons_append, List.nil_append, Nat.add_eq_zero_iff, a_nl_i, a_nl_r, a_nl_n, true_or, or_true, eq_self, a_isRA_22, a_isRA_24, a_isRA_32, a_isA_20, ok_4, ok_5, ok_6, ok_7, ok_9, ok_20, ok_21, ok_30, ok_50, ok_180, ok_192, ok_200]
  refine ck_keepPlaces hT (by rw [es]; exact hN) (fun J1 t1 f1 k1 => ?_)
  rw [es] at k1
  simp only [q159_4, q159_5, as_nil, as_i, as_r, Nat.reduceAdd, Nat.reduceLeDiff, z_eq0, z_eq1, z_or, z_em, Classical.not_not, not_false_eq_true, not_true_eq_false, true_and, and_true, false_and, and_false, and_self, true_implies, false_implies, implies_true, Option.toList_some, Option.toList_none, List.cons_append, List.nil_append, Nat.add_eq_zero_iff, a_nl_i, a_nl_r, a_nl_n, true_or, or_true, eq_self, a_isRA_22, a_isRA_24, a_isRA_32, a_isA_20, ok_4, ok_5, ok_6, ok_7, ok_9, ok_20, ok_21, ok_30, ok_50, ok_180, ok_192, ok_200]
  have r1 : dR C K L R I J1 := ⟨t1, fun x j _ _ p q r _ => f1 x j p q r⟩
  have z1 := cZ_G hZ (dR_G r1)
  refine lk_turn_6 (d := d) (n'' := n) (I := J1) h1m hm hN (fun k k0 kk => ?_) hZ.2.1.2.2.1 hZ.2.1.2.1 t1 hP 0 (by decide) n t K L J1 R _ (by decide) z1 dQ_refl (by rw [f1 _ _ (by omega) (by omega) (by omega)]; exact es)
  obtain ⟨x0, x1⟩ := nxt_lt hm k0 kk
  have ha := rn_ask hT hN k0 kk
  have ga := (hT.g_ask _ ha).1
  rw [(k1 _ x0 x1).2, f1 _ 2 (by omega) (by omega) (by omega)]
  exact hF k k0 kk
end KH
end
section
/-! the class: public methods -/
section KI
variable {d n t C c n0 n' n'' t' : Nat} {K L K0 L0 K' L' K'' L'' : Nat → Nat} {I I0 J J0 J1 J2 : Nat → Nat → Int32} {R R0 R' R'' : Nat → Nat → Nat} {P : Option Value → AH → Prop}
theorem ck_refuse (hZ : cZ C c n0 K0 L0 I0 R0 n t K L I R) {v : Int32} (hP : ∀ J, cZ C c n0 K0 L0 I0 R0 n t K L J R → P (some (.int v)) (n, t, K, L, J, R)) : a_does (d + 1) 10 [a_rf C, .int v] (n, t, K, L, I, R) P := by
  have hT := hZ.2.1.1
  have hS := hT.s
  have hw : ∀ k w, cZ C c n0 K0 L0 I0 R0 n t K L (a_ui I (C + 42) k w) R := fun k w => cZ_G hZ (dG_42 (dG_refl hT))
  rw [a_enter1 (M := a_m10) rfl (a_cat_rf (a_cat_int a_cat_nil)) (show 2 ≤ 2 by decide)]
  show a_at _ (a_xm a_m10) 0 [some (a_rf C), some (.int v)] [] _ _
  repeat' first
    | with_reducible apply And.intro
    | with_reducible assumption
    | with_reducible intro _
    | with_reducible apply hP
    | with_reducible apply hw
    | simp only [q10_0, q10_1, q10_4, q10_5, q10_7, q10_10, q10_11, q10_14, q10_15, q10_16, q10_17, q10_18, q10_19, q10_20, q10_21, q10_22, k_0 hS, z_C hS, r_0_8 hS, k_42 hS, l_42 hS, z_42, as_nil, as_i, as_r, Nat.reduceAdd, Nat.reduceLeDiff, z_eq0, z_eq1, z_or, z_em, Classical.not_not, not_false_eq_true, not_true_eq_false, true_and, and_true, false_and, and_false, and_self, true_implies, false_implies, implies_true, Option.toList_some, Option.toList_none, List.cons_append, List.nil_append, Nat.add_eq_zero_iff, a_nl_i, a_nl_r, a_nl_n, true_or, or_true, eq_self, a_isRA_22, a_isRA_24, a_isRA_32, a_isA_20, ok_4, ok_5, ok_6, ok_7, ok_9, ok_20, ok_21, ok_30, ok_50, ok_180, ok_192, ok_200]
  all_goals ((try clear ih); (try clear hP); (try clear hl); (try clear hq); (try clear a3); grind [ui_ap])
theorem lk_isLost_2 (hT : cT C K L I R) {h k : Int32} (hP : ∀ v, P (some (.int v)) (n, t, K, L, I, R)) : ∀ i : Int32, i ≤ 20 → 0 ≤ i → a_at d (a_xm a_m19) 2 [some (a_rf (C + 1)), some (.int h), some (.int k), some (.int i)] [] (n, t, K, L, I, R) P := by
  have hS := hT.s
  have g := hT.g_trips
  refine up_ind 20 (fun i hk ih => ?_)
  intro q0
  rw [q19_2]
  repeat' first
    | with_reducible apply And.intro
    | with_reducible assumption
    | with_reducible intro _
    | with_reducible apply hP
    | with_reducible apply ih
    | simp only [q19_3, q19_4, q19_7, q19_10, q19_11, q19_14, q19_15, q19_16, q19_17, q19_20, q19_21, q19_22, q19_25, q19_26, q19_27, q19_30, q19_31, q19_32, q19_35, q19_36, q19_37, q19_40, q19_41, q19_42, q19_45, q19_48, q19_49, k_1 hS, z_1, r_1_4 hS, k_6 hS, l_6 hS, z_6, r_1_2 hS, k_4 hS, l_4 hS, z_4, r_1_3 hS, k_5 hS, l_5 hS, z_5, as_nil, as_i, as_r, Nat.reduceAdd, Nat.reduceLeDiff, z_eq0, z_eq1, z_or, z_em, Classical.not_not, not_false_eq_true, not_true_eq_false, true_and, and_true, false_and, and_false, and_self, true_implies, false_implies, implies_true, Option.toList_some, Option.toList_none, List.cons_append, List.nil_append, Nat.add_eq_zero_iff, a_nl_i, a_nl_r, a_nl_n, true_or, or_true, eq_self, a_isRA_22, a_isRA_24, a_isRA_32, a_isA_20, ok_4, ok_5, ok_6, ok_7, ok_9, ok_20, ok_21, ok_30, ok_50, ok_180, ok_192, ok_200]
  all_goals ((try clear ih); (try clear hP); (try clear hl); (try clear hq); (try clear a3); grind [ui_ap])
theorem ck_isLost (hT : cT C K L I R) {h k : Int32} (hP : ∀ v, P (some (.int v)) (n, t, K, L, I, R)) : a_does (d + 1) 19 [a_rf (C + 1), .int h, .int k] (n, t, K, L, I, R) P := by
  have hl := lk_isLost_2 (d := d) hT (h := h) (k := k) hP 0 (by decide) (by decide)
  rw [a_enter1 (M := a_m19) rfl (a_cat_rf (a_cat_int (a_cat_int a_cat_nil))) (show 3 ≤ 4 by decide)]
  show a_at _ (a_xm a_m19) 0 [some (a_rf (C + 1)), some (.int h), some (.int k), none] [] _ _
  repeat' first
    | with_reducible apply And.intro
    | with_reducible assumption
    | with_reducible intro _
    | with_reducible apply hl
    | simp only [q19_0, q19_1, as_nil, as_i, as_r, Nat.reduceAdd, Nat.reduceLeDiff, z_eq0, z_eq1, z_or, z_em, Classical.not_not, not_false_eq_true, not_true_eq_false, true_and, and_true, false_and, and_false, and_self, true_implies, false_implies, implies_true, Option.toList_some, Option.toList_none, List.cons_append, List.nil_append, Nat.add_eq_zero_iff, a_nl_i, a_nl_r, a_nl_n, true_or, or_true, eq_self, a_isRA_22, a_isRA_24, a_isRA_32, a_isA_20, ok_4, ok_5, ok_6, ok_7, ok_9, ok_20, ok_21, ok_30, ok_50, ok_180, ok_192, ok_200]
  all_goals ((try clear ih); (try clear hP); (try clear hl); (try clear hq); (try clear a3); grind [ui_ap])
theorem lk_lostAsKnown_5 (hT : cT C K L I R) {s k : Int32} (hP : ∀ v, P (some (.int v)) (n, t, K, L, I, R)) : ∀ i : Int32, i ≤ 8 → ∀ o, 0 ≤ i → a_at (d + 1) (a_xm a_m18) 5 [some (a_rf (C + 1)), some (.int s), some (.int k), some (.int o), some (.int i)] [] (n, t, K, L, I, R) P := by
  have hS := hT.s
  refine up_ind 8 (fun i hk ih => ?_)
  intro o q0
  rw [q18_5]
  repeat' first
    | with_reducible apply And.intro
    | with_reducible assumption
    | with_reducible intro _
    | with_reducible apply hP
    | with_reducible apply ih
    | with_reducible apply ck_isLost hT
    | simp only [q18_7, q18_9, q18_12, q18_13, q18_14, q18_16, q18_17, q18_19, q18_20, q18_21, q18_24, q18_27, q18_30, q18_33, q18_36, q18_37, k_1 hS, z_1, as_nil, as_i, as_r, Nat.reduceAdd, Nat.reduceLeDiff, z_eq0, z_eq1, z_or, z_em, Classical.not_not, not_false_eq_true, not_true_eq_false, true_and, and_true, false_and, and_false, and_self, true_implies, false_implies, implies_true, Option.toList_some, Option.toList_none, List.cons_append, List.nil_append, Nat.add_eq_zero_iff, a_nl_i, a_nl_r, a_nl_n, true_or, or_true, eq_self, a_isRA_22, a_isRA_24, a_isRA_32, a_isA_20, ok_4, ok_5, ok_6, ok_7, ok_9, ok_20, ok_21, ok_30, ok_50, ok_180, ok_192, ok_200]
  all_goals ((try clear ih); (try clear hP); (try clear hl); (try clear hq); (try clear a3); grind [ui_ap])
theorem ck_lostAsKnown (hT : cT C K L I R) {s k : Int32} (hP : ∀ v, P (some (.int v)) (n, t, K, L, I, R)) : a_does (d + 2) 18 [a_rf (C + 1), .int s, .int k] (n, t, K, L, I, R) P := by
  have hl := lk_lostAsKnown_5 (d := d) hT (s := s) (k := k) hP 0 (by decide) 0 (by decide)
  rw [a_enter1 (M := a_m18) rfl (a_cat_rf (a_cat_int (a_cat_int a_cat_nil))) (show 3 ≤ 5 by decide)]
  show a_at _ (a_xm a_m18) 0 [some (a_rf (C + 1)), some (.int s), some (.int k), none, none] [] _ _
  repeat' first
    | with_reducible apply And.intro
    | with_reducible assumption
    | with_reducible intro _
    | with_reducible apply hl
    | simp only [q18_0, q18_1, q18_2, q18_3, as_nil, as_i, as_r, Nat.reduceAdd, Nat.reduceLeDiff, z_eq0, z_eq1, z_or, z_em, Classical.not_not, not_false_eq_true, not_true_eq_false, true_and, and_true, false_and, and_false, and_self, true_implies, false_implies, implies_true, Option.toList_some, Option.toList_none, List.cons_append, List.nil_append, Nat.add_eq_zero_iff, a_nl_i, a_nl_r, a_nl_n, true_or, or_true, eq_self, a_isRA_22, a_isRA_24, a_isRA_32, a_isA_20, ok_4, ok_5, ok_6, ok_7, ok_9, ok_20, ok_21, ok_30, ok_50, ok_180, ok_192, ok_200]
  all_goals ((try clear ih); (try clear hP); (try clear hl); (try clear hq); (try clear a3); grind [ui_ap])
theorem lk_firstWrong_3 (hT : cT C K L I R) {b : Nat} (hb : K b = 3) {a k : Int32} (ha : 0 ≤ a) (hr : a + I C 10 ≤ 200) (hr2 : a < 200) (hP : ∀ v, P (some (.int v)) (n, t, K, L, I, R)) : ∀ i : Int32, i ≤ 21 → 0 ≤ i → a_at (d + 1) (a_xm a_m165) 3 [some (a_rf C), some (a_rf b), some (.int a), some (.int k), some (.int i)] [] (n, t, K, L, I, R) P := by
  have hS := hT.s
  have g := hT.g_row
  have b0 : (b = 0) = False := eq_false (by have := (hT.g_bnc b hb).1; omega)
  refine up_ind 21 (fun i hk ih => ?_)
  intro q0
  rw [q165_3]
  repeat' first
    | with_reducible apply And.intro
    | with_reducible assumption
    | with_reducible intro _
    | with_reducible apply hP
    | with_reducible apply ih
    | with_reducible apply ck_knownOn hb hT
    | simp only [q165_5, q165_6, q165_9, q165_12, q165_13, q165_14, q165_16, q165_17, q165_18, q165_21, q165_22, q165_25, q165_27, q165_28, q165_31, q165_33, q165_34, q165_37, q165_40, q165_42, k_0 hS, z_C hS, r_0_9 hS, k_43 hS, l_43 hS, z_43, as_nil, as_i, as_r, Nat.reduceAdd, Nat.reduceLeDiff, z_eq0, z_eq1, z_or, z_em, Classical.not_not, not_false_eq_true, not_true_eq_false, true_and, and_true, false_and, and_false, and_self, true_implies, false_implies, implies_true, Option.toList_some, Option.toList_none, List.cons_append, List.nil_append, Nat.add_eq_zero_iff, a_nl_i, a_nl_r, a_nl_n, true_or, or_true, eq_self, a_isRA_22, a_isRA_24, a_isRA_32, a_isA_20, ok_4, ok_5, ok_6, ok_7, ok_9, ok_20, ok_21, ok_30, ok_50, ok_180, ok_192, ok_200, hb, b0]
  all_goals ((try clear ih); (try clear hP); (try clear hl); (try clear hq); (try clear a3); grind [ui_ap])
theorem ck_firstWrong (hT : cT C K L I R) {b : Nat} (hb : K b = 3) {a k : Int32} (ha : 0 ≤ a) (hr : a + I C 10 ≤ 200) (hr2 : a < 200) (hP : ∀ v, P (some (.int v)) (n, t, K, L, I, R)) : a_does (d + 2) 165 [a_rf C, a_rf b, .int a, .int k] (n, t, K, L, I, R) P := by
  have hl := lk_firstWrong_3 (d := d) hT hb ha hr hr2 (k := k) hP 0 (by decide) (by decide)
  rw [a_enter1 (M := a_m165) rfl (a_cat_rf (a_cat_rf (a_cat_int (a_cat_int a_cat_nil)))) (show 4 ≤ 5 by decide)]
  show a_at _ (a_xm a_m165) 0 [some (a_rf C), some (a_rf b), some (.int a), some (.int k), none] [] _ _
  repeat' first
    | with_reducible apply And.intro
    | with_reducible assumption
    | with_reducible intro _
    | with_reducible apply hl
    | simp only [q165_0, q165_1, as_nil, as_i, as_r, Nat.reduceAdd, Nat.reduceLeDiff, z_eq0, z_eq1, z_or, z_em, Classical.not_not, not_false_eq_true, not_true_eq_false, true_and, and_true, false_and, and_false, and_self, true_implies, false_implies, implies_true, Option.toList_some, Option.toList_none, List.cons_append, List.nil_append, Nat.add_eq_zero_iff, a_nl_i, a_nl_r, a_nl_n, true_or, or_true, eq_self, a_isRA_22, a_isRA_24, a_isRA_32, a_isA_20, ok_4, ok_5, ok_6, ok_7, ok_9, ok_20, ok_21, ok_30, ok_50, ok_180, ok_192, ok_200]
  all_goals ((try clear ih); (try clear hP); (try clear hl); (try clear hq); (try clear a3); grind [ui_ap])
theorem cu_shiftOf (hH : cH C c (n + 1) t K L I R) {s w k : Int32} (hP : ∀ v n' t' K' L' J R', cZ C (c + 4) (n + 1) K L I R (n' + 1) t' K' L' J R' → P (some (.int v)) (n' + 1, t', K', L', J, R')) : a_does (d + 70) 17 [a_rf C, .int s, .int w, .int k] (n + 1, t, K, L, I, R) P := by
  have hT := hH.1
  have hS := hT.s
  have hZ := cZ_refl hH
  have hq : ∀ v J R1, cZ C c (n + 1) K L I R (n + 1) t K L J R1 → P (some (.int v)) (n + 1, t, K, L, J, R1) := fun v J R1 z => hP v n t K L J R1 (cZ_le z (by omega))
  clear hP
  have gA := hT.g_asksR
  have gB := hT.g_benchesR
  have gX := hT.g_textsR
  rw [a_enter1 (M := a_m17) rfl (a_cat_rf (a_cat_int (a_cat_int (a_cat_int a_cat_nil)))) (show 4 ≤ 4 by decide)]
  show a_at _ (a_xm a_m17) 0 [some (a_rf C), some (.int s), some (.int w), some (.int k)] [] _ _
  repeat' first
    | with_reducible apply And.intro
    | with_reducible assumption
    | with_reducible intro _
    | exact hq _ _ _ hZ
    | exact hq _ _ _ (by assumption)
    | exact hq _ _ _ (cZ_C hZ (by assumption))
    | exact hq _ _ _ (cZ_G hZ (by assumption))
    | exact hq _ _ _ (cZ_L hZ (by assumption))
    | refine ck_refuse hZ (fun _ _ => ?_)
    | refine ck_refuse (cZ_C hZ (by assumption)) (fun _ _ => ?_)
    | exact dC_T (by assumption)
    | exact dG_refl hT
    | with_reducible apply ck_lostAsKnown hT
    | simp only [q17_0, q17_1, q17_4, q17_7, q17_8, q17_9, q17_12, q17_13, q17_14, q17_17, q17_18, q17_19, q17_22, q17_23, q17_25, q17_28, q17_29, q17_30, q17_33, q17_34, q17_36, q17_39, q17_40, q17_41, q17_42, q17_45, q17_48, q17_51, q17_52, q17_54, q17_57, q17_58, q17_59, q17_62, q17_63, q17_66, q17_69, q17_70, q17_71, q17_74, q17_75, q17_78, q17_79, q17_80, q17_83, k_0 hS, z_C hS, r_0_0 hS, k_1 hS, z_1, r_1_0 hS, k_2 hS, l_2 hS, z_2, sp_isShiftC, as_nil, as_i, as_r, Nat.reduceAdd, Nat.reduceLeDiff, z_eq0, z_eq1, z_or, z_em, Classical.not_not, not_false_eq_true, not_true_eq_false, true_and, and_true, false_and, and_false, and_self, true_implies, false_implies, implies_true, Option.toList_some, Option.toList_none, List.cons_append, List.nil_append, Nat.add_eq_zero_iff, a_nl_i, a_nl_r, a_nl_n, true_or, or_true, eq_self, a_isRA_22, a_isRA_24, a_isRA_32, a_isA_20, ok_4, ok_5, ok_6, ok_7, ok_9, ok_20, ok_21, ok_30, ok_50, ok_180, ok_192, ok_200]
  all_goals ((try clear ih); (try clear hP); (try clear hl); (try clear hq); (try clear hZ); (try clear hH); grind [ui_ap])
theorem cu_markOf (hH : cH C c (n + 1) t K L I R) {q : Int32} (hP : ∀ v n' t' K' L' J R', cZ C (c + 4) (n + 1) K L I R (n' + 1) t' K' L' J R' → P (some (.int v)) (n' + 1, t', K', L', J, R')) : a_does (d + 70) 96 [a_rf C, .int q] (n + 1, t, K, L, I, R) P := by
  have hT := hH.1
  have hS := hT.s
  have hZ := cZ_refl hH
  have hq : ∀ v J R1, cZ C c (n + 1) K L I R (n + 1) t K L J R1 → P (some (.int v)) (n + 1, t, K, L, J, R1) := fun v J R1 z => hP v n t K L J R1 (cZ_le z (by omega))
  clear hP
  have gA := hT.g_asksR
  have gB := hT.g_benchesR
  have gX := hT.g_textsR
  have gi := gA q.toNatClampNeg
  have ga := fun h => hT.g_ask (R (C + 15) q.toNatClampNeg) (gi.resolve_left h)
  rw [a_enter1 (M := a_m96) rfl (a_cat_rf (a_cat_int a_cat_nil)) (show 2 ≤ 3 by decide)]
  show a_at _ (a_xm a_m96) 0 [some (a_rf C), some (.int q), none] [] _ _
  repeat' first
    | with_reducible apply And.intro
    | with_reducible assumption
    | with_reducible intro _
    | exact hq _ _ _ hZ
    | exact hq _ _ _ (by assumption)
    | exact hq _ _ _ (cZ_C hZ (by assumption))
    | exact hq _ _ _ (cZ_G hZ (by assumption))
    | exact hq _ _ _ (cZ_L hZ (by assumption))
    | refine ck_refuse hZ (fun _ _ => ?_)
    | refine ck_refuse (cZ_C hZ (by assumption)) (fun _ _ => ?_)
    | exact dC_T (by assumption)
    | exact dG_refl hT
    | simp only [q96_0, q96_1, q96_4, q96_5, q96_8, q96_9, q96_10, q96_13, q96_14, q96_15, q96_18, q96_21, q96_22, q96_25, k_0 hS, z_C hS, r_0_4 hS, k_14 hS, z_14, sp_askAt hS gA, as_nil, as_i, as_r, Nat.reduceAdd, Nat.reduceLeDiff, z_eq0, z_eq1, z_or, z_em, Classical.not_not, not_false_eq_true, not_true_eq_false, true_and, and_true, false_and, and_false, and_self, true_implies, false_implies, implies_true, Option.toList_some, Option.toList_none, List.cons_append, List.nil_append, Nat.add_eq_zero_iff, a_nl_i, a_nl_r, a_nl_n, true_or, or_true, eq_self, a_isRA_22, a_isRA_24, a_isRA_32, a_isA_20, ok_4, ok_5, ok_6, ok_7, ok_9, ok_20, ok_21, ok_30, ok_50, ok_180, ok_192, ok_200]
  all_goals ((try clear ih); (try clear hP); (try clear hl); (try clear hq); (try clear hZ); (try clear hH); grind [ui_ap])
theorem cu_habit (hH : cH C c (n + 1) t K L I R) {q w : Int32} (hP : ∀ v n' t' K' L' J R', cZ C (c + 4) (n + 1) K L I R (n' + 1) t' K' L' J R' → P (some (.int v)) (n' + 1, t', K', L', J, R')) : a_does (d + 70) 97 [a_rf C, .int q, .int w] (n + 1, t, K, L, I, R) P := by
  have hT := hH.1
  have hS := hT.s
  have hZ := cZ_refl hH
  have hq : ∀ v J R1, cZ C c (n + 1) K L I R (n + 1) t K L J R1 → P (some (.int v)) (n + 1, t, K, L, J, R1) := fun v J R1 z => hP v n t K L J R1 (cZ_le z (by omega))
  clear hP
  have gA := hT.g_asksR
  have gB := hT.g_benchesR
  have gX := hT.g_textsR
  rw [a_enter1 (M := a_m97) rfl (a_cat_rf (a_cat_int (a_cat_int a_cat_nil))) (show 3 ≤ 3 by decide)]
  show a_at _ (a_xm a_m97) 0 [some (a_rf C), some (.int q), some (.int w)] [] _ _
  repeat' first
    | with_reducible apply And.intro
    | with_reducible assumption
    | with_reducible intro _
    | exact hq _ _ _ hZ
    | exact hq _ _ _ (by assumption)
    | exact hq _ _ _ (cZ_C hZ (by assumption))
    | exact hq _ _ _ (cZ_G hZ (by assumption))
    | exact hq _ _ _ (cZ_L hZ (by assumption))
    | refine ck_refuse hZ (fun _ _ => ?_)
    | refine ck_refuse (cZ_C hZ (by assumption)) (fun _ _ => ?_)
    | exact dC_T (by assumption)
    | exact dG_refl hT
    | with_reducible apply ck_habitOf hT
    | with_reducible apply ck_doubtOf hT
    | simp only [q97_0, q97_1, q97_4, q97_7, q97_10, q97_11, q97_12, q97_15, q97_16, q97_17, q97_18, q97_21, q97_22, q97_23, q97_26, q97_29, q97_30, q97_32, q97_35, q97_36, q97_37, q97_38, q97_41, q97_42, q97_45, q97_46, q97_49, q97_52, q97_53, q97_56, q97_57, q97_60, k_0 hS, z_C hS, r_0_3 hS, k_17 hS, z_17, sp_isReaderC, as_nil, as_i, as_r, Nat.reduceAdd, Nat.reduceLeDiff, z_eq0, z_eq1, z_or, z_em, Classical.not_not, not_false_eq_true, not_true_eq_false, true_and, and_true, false_and, and_false, and_self, true_implies, false_implies, implies_true, Option.toList_some, Option.toList_none, List.cons_append, List.nil_append, Nat.add_eq_zero_iff, a_nl_i, a_nl_r, a_nl_n, true_or, or_true, eq_self, a_isRA_22, a_isRA_24, a_isRA_32, a_isA_20, ok_4, ok_5, ok_6, ok_7, ok_9, ok_20, ok_21, ok_30, ok_50, ok_180, ok_192, ok_200]
  all_goals ((try clear ih); (try clear hP); (try clear hl); (try clear hq); (try clear hZ); (try clear hH); grind [ui_ap])
theorem cu_fit (hH : cH C c (n + 1) t K L I R) {q b s : Int32} (hP : ∀ v n' t' K' L' J R', cZ C (c + 4) (n + 1) K L I R (n' + 1) t' K' L' J R' → P (some (.int v)) (n' + 1, t', K', L', J, R')) : a_does (d + 70) 99 [a_rf C, .int q, .int b, .int s] (n + 1, t, K, L, I, R) P := by
  have hT := hH.1
  have hS := hT.s
  have hZ := cZ_refl hH
  have hq : ∀ v J R1, cZ C c (n + 1) K L I R (n + 1) t K L J R1 → P (some (.int v)) (n + 1, t, K, L, J, R1) := fun v J R1 z => hP v n t K L J R1 (cZ_le z (by omega))
  clear hP
  have gA := hT.g_asksR
  have gB := hT.g_benchesR
  have gX := hT.g_textsR
  have gi := gA q.toNatClampNeg
  have ga := fun h => hT.g_ask (R (C + 15) q.toNatClampNeg) (gi.resolve_left h)
  have gb := gB b.toNatClampNeg
  rw [a_enter1 (M := a_m99) rfl (a_cat_rf (a_cat_int (a_cat_int (a_cat_int a_cat_nil)))) (show 4 ≤ 5 by decide)]
  show a_at _ (a_xm a_m99) 0 [some (a_rf C), some (.int q), some (.int b), some (.int s), none] [] _ _
  repeat' first
    | with_reducible apply And.intro
    | with_reducible assumption
    | with_reducible intro _
    | exact hq _ _ _ hZ
    | exact hq _ _ _ (by assumption)
    | exact hq _ _ _ (cZ_C hZ (by assumption))
    | exact hq _ _ _ (cZ_G hZ (by assumption))
    | exact hq _ _ _ (cZ_L hZ (by assumption))
    | refine ck_refuse hZ (fun _ _ => ?_)
    | refine ck_refuse (cZ_C hZ (by assumption)) (fun _ _ => ?_)
    | exact dC_T (by assumption)
    | exact dG_refl hT
    | with_reducible apply ck_firstBar ?_ hT
    | simp only [q99_0, q99_1, q99_4, q99_5, q99_8, q99_10, q99_12, q99_15, q99_16, q99_19, q99_20, q99_23, q99_26, q99_27, q99_30, q99_33, q99_34, q99_35, q99_38, q99_39, q99_40, q99_43, q99_45, q99_46, q99_47, q99_50, k_0 hS, z_C hS, r_0_4 hS, k_14 hS, z_14, sp_askAt hS gA, sp_benchAt hS gB, sp_isShiftC, as_nil, as_i, as_r, Nat.reduceAdd, Nat.reduceLeDiff, z_eq0, z_eq1, z_or, z_em, Classical.not_not, not_false_eq_true, not_true_eq_false, true_and, and_true, false_and, and_false, and_self, true_implies, false_implies, implies_true, Option.toList_some, Option.toList_none, List.cons_append, List.nil_append, Nat.add_eq_zero_iff, a_nl_i, a_nl_r, a_nl_n, true_or, or_true, eq_self, a_isRA_22, a_isRA_24, a_isRA_32, a_isA_20, ok_4, ok_5, ok_6, ok_7, ok_9, ok_20, ok_21, ok_30, ok_50, ok_180, ok_192, ok_200]
  all_goals ((try clear ih); (try clear hP); (try clear hl); (try clear hq); (try clear hZ); (try clear hH); grind [ui_ap])
theorem cu_passed (hH : cH C c (n + 1) t K L I R) {w : Int32} (hP : ∀ v n' t' K' L' J R', cZ C (c + 4) (n + 1) K L I R (n' + 1) t' K' L' J R' → P (some (.int v)) (n' + 1, t', K', L', J, R')) : a_does (d + 70) 125 [a_rf C, .int w] (n + 1, t, K, L, I, R) P := by
  have hT := hH.1
  have hS := hT.s
  have hZ := cZ_refl hH
  have hq : ∀ v J R1, cZ C c (n + 1) K L I R (n + 1) t K L J R1 → P (some (.int v)) (n + 1, t, K, L, J, R1) := fun v J R1 z => hP v n t K L J R1 (cZ_le z (by omega))
  clear hP
  have gA := hT.g_asksR
  have gB := hT.g_benchesR
  have gX := hT.g_textsR
  rw [a_enter1 (M := a_m125) rfl (a_cat_rf (a_cat_int a_cat_nil)) (show 2 ≤ 2 by decide)]
  show a_at _ (a_xm a_m125) 0 [some (a_rf C), some (.int w)] [] _ _
  repeat' first
    | with_reducible apply And.intro
    | with_reducible assumption
    | with_reducible intro _
    | exact hq _ _ _ hZ
    | exact hq _ _ _ (by assumption)
    | exact hq _ _ _ (cZ_C hZ (by assumption))
    | exact hq _ _ _ (cZ_G hZ (by assumption))
    | exact hq _ _ _ (cZ_L hZ (by assumption))
    | refine ck_refuse hZ (fun _ _ => ?_)
    | refine ck_refuse (cZ_C hZ (by assumption)) (fun _ _ => ?_)
    | exact dC_T (by assumption)
    | exact dG_refl hT
    | with_reducible apply ck_passedAt hT
    | simp only [q125_0, q125_1, q125_2, q125_5, q125_6, q125_8, q125_11, q125_12, q125_13, q125_14, q125_17, q125_18, q125_21, q125_24, q125_27, q125_28, q125_31, q125_32, q125_35, k_0 hS, z_C hS, r_0_5 hS, k_22 hS, z_22, as_nil, as_i, as_r, Nat.reduceAdd, Nat.reduceLeDiff, z_eq0, z_eq1, z_or, z_em, Classical.not_not, not_false_eq_true, not_true_eq_false, true_and, and_true, false_and, and_false, and_self, true_implies, false_implies, implies_true, Option.toList_some, Option.toList_none, List.cons_append, List.nil_append, Nat.add_eq_zero_iff, a_nl_i, a_nl_r, a_nl_n, true_or, or_true, eq_self, a_isRA_22, a_isRA_24, a_isRA_32, a_isA_20, ok_4, ok_5, ok_6, ok_7, ok_9, ok_20, ok_21, ok_30, ok_50, ok_180, ok_192, ok_200]
  all_goals ((try clear ih); (try clear hP); (try clear hl); (try clear hq); (try clear hZ); (try clear hH); grind [ui_ap])
theorem cu_why (hH : cH C c (n + 1) t K L I R) {q b s x y : Int32} (hP : ∀ v n' t' K' L' J R', cZ C (c + 4) (n + 1) K L I R (n' + 1) t' K' L' J R' → P (some (.int v)) (n' + 1, t', K', L', J, R')) : a_does (d + 70) 127 [a_rf C, .int q, .int b, .int s, .int x, .int y] (n + 1, t, K, L, I, R) P := by
  have hT := hH.1
  have hS := hT.s
  have hZ := cZ_refl hH
  have hq : ∀ v J R1, cZ C c (n + 1) K L I R (n + 1) t K L J R1 → P (some (.int v)) (n + 1, t, K, L, J, R1) := fun v J R1 z => hP v n t K L J R1 (cZ_le z (by omega))
  clear hP
  have gA := hT.g_asksR
  have gB := hT.g_benchesR
  have gX := hT.g_textsR
  have gi := gA q.toNatClampNeg
  have ga := fun h => hT.g_ask (R (C + 15) q.toNatClampNeg) (gi.resolve_left h)
  have gb := gB b.toNatClampNeg
  rw [a_enter1 (M := a_m127) rfl (a_cat_rf (a_cat_int (a_cat_int (a_cat_int (a_cat_int (a_cat_int a_cat_nil)))))) (show 6 ≤ 8 by decide)]
  show a_at _ (a_xm a_m127) 0 [some (a_rf C), some (.int q), some (.int b), some (.int s), some (.int x), some (.int y), none, none] [] _ _
  repeat' first
    | with_reducible apply And.intro
    | with_reducible assumption
    | with_reducible intro _
    | exact hq _ _ _ hZ
    | exact hq _ _ _ (by assumption)
    | exact hq _ _ _ (cZ_C hZ (by assumption))
    | exact hq _ _ _ (cZ_G hZ (by assumption))
    | exact hq _ _ _ (cZ_L hZ (by assumption))
    | refine ck_refuse hZ (fun _ _ => ?_)
    | refine ck_refuse (cZ_C hZ (by assumption)) (fun _ _ => ?_)
    | exact dC_T (by assumption)
    | exact dG_refl hT
    | with_reducible apply ck_firstBar ?_ hT
    | with_reducible apply ck_isInShare
    | simp only [q127_0, q127_1, q127_4, q127_5, q127_8, q127_10, q127_12, q127_15, q127_16, q127_19, q127_20, q127_23, q127_26, q127_28, q127_30, q127_33, q127_36, q127_37, q127_39, q127_42, q127_43, q127_45, q127_48, q127_49, q127_50, q127_53, q127_54, q127_55, q127_58, q127_60, q127_61, q127_62, q127_65, q127_67, q127_69, q127_72, q127_73, q127_76, q127_78, q127_80, q127_82, q127_85, q127_88, q127_90, q127_93, q127_95, k_0 hS, z_C hS, r_0_4 hS, k_14 hS, z_14, r_0_5 hS, k_22 hS, z_22, sp_askAt hS gA, sp_benchAt hS gB, sp_areShifts, as_nil, as_i, as_r, Nat.reduceAdd, Nat.reduceLeDiff, z_eq0, z_eq1, z_or, z_em, Classical.not_not, not_false_eq_true, not_true_eq_false, true_and, and_true, false_and, and_false, and_self, true_implies, false_implies, implies_true, Option.toList_some, Option.toList_none, List.cons_append, List.nil_append, Nat.add_eq_zero_iff, a_nl_i, a_nl_r, a_nl_n, true_or, or_true, eq_self, a_isRA_22, a_isRA_24, a_isRA_32, a_isA_20, ok_4, ok_5, ok_6, ok_7, ok_9, ok_20, ok_21, ok_30, ok_50, ok_180, ok_192, ok_200]
  all_goals ((try clear ih); (try clear hP); (try clear hl); (try clear hq); (try clear hZ); (try clear hH); grind [ui_ap])
theorem cu_hosts (hH : cH C c (n + 1) t K L I R) {b s : Int32} (hP : ∀ v n' t' K' L' J R', cZ C (c + 4) (n + 1) K L I R (n' + 1) t' K' L' J R' → P (some (.int v)) (n' + 1, t', K', L', J, R')) : a_does (d + 70) 140 [a_rf C, .int b, .int s] (n + 1, t, K, L, I, R) P := by
  have hT := hH.1
  have hS := hT.s
  have hZ := cZ_refl hH
  have hq : ∀ v J R1, cZ C c (n + 1) K L I R (n + 1) t K L J R1 → P (some (.int v)) (n + 1, t, K, L, J, R1) := fun v J R1 z => hP v n t K L J R1 (cZ_le z (by omega))
  clear hP
  have gA := hT.g_asksR
  have gB := hT.g_benchesR
  have gX := hT.g_textsR
  have gb := gB b.toNatClampNeg
  have hw : K (R (C + 16) b.toNatClampNeg) = 3 → K (R (R (C + 16) b.toNatClampNeg) 3) = 20 ∧ L (R (R (C + 16) b.toNatClampNeg) 3) = 200 ∧ ¬ R (R (C + 16) b.toNatClampNeg) 3 = 0 := fun hb => by
    obtain ⟨b1, -, ⟨w1, w2, w3⟩, -⟩ := hT.g_bnc _ hb
    exact ⟨w2, w3, by omega⟩
  have ho : 0 ≤ s ∧ s < 200 → K (R (C + 16) b.toNatClampNeg) = 3 → a_ok s (L (R (R (C + 16) b.toNatClampNeg) 3)) := fun h1 h2 => by rw [(hw h2).2.1, ok_200]; exact h1
  rw [a_enter1 (M := a_m140) rfl (a_cat_rf (a_cat_int (a_cat_int a_cat_nil))) (show 3 ≤ 4 by decide)]
  show a_at _ (a_xm a_m140) 0 [some (a_rf C), some (.int b), some (.int s), none] [] _ _
  repeat' first
    | with_reducible apply And.intro
    | with_reducible assumption
    | with_reducible intro _
    | exact hq _ _ _ hZ
    | exact hq _ _ _ (by assumption)
    | exact hq _ _ _ (cZ_C hZ (by assumption))
    | exact hq _ _ _ (cZ_G hZ (by assumption))
    | exact hq _ _ _ (cZ_L hZ (by assumption))
    | refine ck_refuse hZ (fun _ _ => ?_)
    | refine ck_refuse (cZ_C hZ (by assumption)) (fun _ _ => ?_)
    | exact dC_T (by assumption)
    | exact dG_refl hT
    | simp only [q140_0, q140_1, q140_4, q140_5, q140_8, q140_9, q140_10, q140_13, q140_14, q140_17, q140_20, q140_21, q140_22, q140_25, q140_26, q140_27, q140_30, q140_31, q140_32, k_0 hS, z_C hS, r_0_4 hS, k_14 hS, z_14, sp_benchAt hS gB, sp_isShiftC, as_nil, as_i, as_r, Nat.reduceAdd, Nat.reduceLeDiff, z_eq0, z_eq1, z_or, z_em, Classical.not_not, not_false_eq_true, not_true_eq_false, true_and, and_true, false_and, and_false, and_self, true_implies, false_implies, implies_true, Option.toList_some, Option.toList_none, List.cons_append, List.nil_append, Nat.add_eq_zero_iff, a_nl_i, a_nl_r, a_nl_n, true_or, or_true, eq_self, a_isRA_22, a_isRA_24, a_isRA_32, a_isA_20, ok_4, ok_5, ok_6, ok_7, ok_9, ok_20, ok_21, ok_30, ok_50, ok_180, ok_192, ok_200]
  all_goals ((try clear ih); (try clear hP); (try clear hl); (try clear hq); (try clear hZ); (try clear hH); grind [ui_ap])
theorem cu_lead (hH : cH C c (n + 1) t K L I R) {b s : Int32} (hP : ∀ v n' t' K' L' J R', cZ C (c + 4) (n + 1) K L I R (n' + 1) t' K' L' J R' → P (some (.int v)) (n' + 1, t', K', L', J, R')) : a_does (d + 70) 162 [a_rf C, .int b, .int s] (n + 1, t, K, L, I, R) P := by
  have hT := hH.1
  have hS := hT.s
  have hZ := cZ_refl hH
  have hq : ∀ v J R1, cZ C c (n + 1) K L I R (n + 1) t K L J R1 → P (some (.int v)) (n + 1, t, K, L, J, R1) := fun v J R1 z => hP v n t K L J R1 (cZ_le z (by omega))
  clear hP
  have gA := hT.g_asksR
  have gB := hT.g_benchesR
  have gX := hT.g_textsR
  have gb := gB b.toNatClampNeg
  have hw : K (R (C + 16) b.toNatClampNeg) = 3 → K (R (R (C + 16) b.toNatClampNeg) 4) = 20 ∧ L (R (R (C + 16) b.toNatClampNeg) 4) = 200 ∧ ¬ R (R (C + 16) b.toNatClampNeg) 4 = 0 := fun hb => by
    obtain ⟨b1, -, -, ⟨w1, w2, w3⟩, -⟩ := hT.g_bnc _ hb
    exact ⟨w2, w3, by omega⟩
  have ho : 0 ≤ s ∧ s < 200 → K (R (C + 16) b.toNatClampNeg) = 3 → a_ok s (L (R (R (C + 16) b.toNatClampNeg) 4)) := fun h1 h2 => by rw [(hw h2).2.1, ok_200]; exact h1
  rw [a_enter1 (M := a_m162) rfl (a_cat_rf (a_cat_int (a_cat_int a_cat_nil))) (show 3 ≤ 4 by decide)]
  show a_at _ (a_xm a_m162) 0 [some (a_rf C), some (.int b), some (.int s), none] [] _ _
  repeat' first
    | with_reducible apply And.intro
    | with_reducible assumption
    | with_reducible intro _
    | exact hq _ _ _ hZ
    | exact hq _ _ _ (by assumption)
    | exact hq _ _ _ (cZ_C hZ (by assumption))
    | exact hq _ _ _ (cZ_G hZ (by assumption))
    | exact hq _ _ _ (cZ_L hZ (by assumption))
    | refine ck_refuse hZ (fun _ _ => ?_)
    | refine ck_refuse (cZ_C hZ (by assumption)) (fun _ _ => ?_)
    | exact dC_T (by assumption)
    | exact dG_refl hT
    | simp only [q162_0, q162_1, q162_4, q162_5, q162_8, q162_9, q162_10, q162_13, q162_14, q162_17, q162_20, q162_21, q162_22, q162_25, q162_26, q162_27, q162_30, q162_31, q162_32, k_0 hS, z_C hS, r_0_4 hS, k_14 hS, z_14, sp_benchAt hS gB, sp_isShiftC, as_nil, as_i, as_r, Nat.reduceAdd, Nat.reduceLeDiff, z_eq0, z_eq1, z_or, z_em, Classical.not_not, not_false_eq_true, not_true_eq_false, true_and, and_true, false_and, and_false, and_self, true_implies, false_implies, implies_true, Option.toList_some, Option.toList_none, List.cons_append, List.nil_append, Nat.add_eq_zero_iff, a_nl_i, a_nl_r, a_nl_n, true_or, or_true, eq_self, a_isRA_22, a_isRA_24, a_isRA_32, a_isA_20, ok_4, ok_5, ok_6, ok_7, ok_9, ok_20, ok_21, ok_30, ok_50, ok_180, ok_192, ok_200]
  all_goals ((try clear ih); (try clear hP); (try clear hl); (try clear hq); (try clear hZ); (try clear hH); grind [ui_ap])
theorem cu_had (hH : cH C c (n + 1) t K L I R) {b s k : Int32} (hP : ∀ v n' t' K' L' J R', cZ C (c + 4) (n + 1) K L I R (n' + 1) t' K' L' J R' → P (some (.int v)) (n' + 1, t', K', L', J, R')) : a_does (d + 70) 160 [a_rf C, .int b, .int s, .int k] (n + 1, t, K, L, I, R) P := by
  have hT := hH.1
  have hS := hT.s
  have hZ := cZ_refl hH
  have hq : ∀ v J R1, cZ C c (n + 1) K L I R (n + 1) t K L J R1 → P (some (.int v)) (n + 1, t, K, L, J, R1) := fun v J R1 z => hP v n t K L J R1 (cZ_le z (by omega))
  clear hP
  have gA := hT.g_asksR
  have gB := hT.g_benchesR
  have gX := hT.g_textsR
  have gb := gB b.toNatClampNeg
  rw [a_enter1 (M := a_m160) rfl (a_cat_rf (a_cat_int (a_cat_int (a_cat_int a_cat_nil)))) (show 4 ≤ 5 by decide)]
  show a_at _ (a_xm a_m160) 0 [some (a_rf C), some (.int b), some (.int s), some (.int k), none] [] _ _
  repeat' first
    | with_reducible apply And.intro
    | with_reducible assumption
    | with_reducible intro _
    | exact hq _ _ _ hZ
    | exact hq _ _ _ (by assumption)
    | exact hq _ _ _ (cZ_C hZ (by assumption))
    | exact hq _ _ _ (cZ_G hZ (by assumption))
    | exact hq _ _ _ (cZ_L hZ (by assumption))
    | refine ck_refuse hZ (fun _ _ => ?_)
    | refine ck_refuse (cZ_C hZ (by assumption)) (fun _ _ => ?_)
    | exact dC_T (by assumption)
    | exact dG_refl hT
    | with_reducible apply ck_knownOn
    | simp only [q160_0, q160_1, q160_4, q160_5, q160_8, q160_10, q160_12, q160_15, q160_16, q160_19, q160_22, q160_23, q160_24, q160_27, q160_28, q160_29, q160_32, q160_33, q160_35, q160_38, q160_39, q160_40, q160_41, q160_44, q160_47, q160_50, q160_51, q160_53, q160_56, q160_57, q160_59, q160_60, q160_61, q160_64, k_0 hS, z_C hS, r_0_4 hS, k_14 hS, z_14, r_0_0 hS, k_1 hS, z_1, sp_benchAt hS gB, sp_isShiftC, as_nil, as_i, as_r, Nat.reduceAdd, Nat.reduceLeDiff, z_eq0, z_eq1, z_or, z_em, Classical.not_not, not_false_eq_true, not_true_eq_false, true_and, and_true, false_and, and_false, and_self, true_implies, false_implies, implies_true, Option.toList_some, Option.toList_none, List.cons_append, List.nil_append, Nat.add_eq_zero_iff, a_nl_i, a_nl_r, a_nl_n, true_or, or_true, eq_self, a_isRA_22, a_isRA_24, a_isRA_32, a_isA_20, ok_4, ok_5, ok_6, ok_7, ok_9, ok_20, ok_21, ok_30, ok_50, ok_180, ok_192, ok_200]
  all_goals ((try clear ih); (try clear hP); (try clear hl); (try clear hq); (try clear hZ); (try clear hH); grind [ui_ap])
theorem cu_count (hH : cH C c (n + 1) t K L I R) {w : Int32} (hP : ∀ v n' t' K' L' J R', cZ C (c + 4) (n + 1) K L I R (n' + 1) t' K' L' J R' → P (some (.int v)) (n' + 1, t', K', L', J, R')) : a_does (d + 70) 166 [a_rf C, .int w] (n + 1, t, K, L, I, R) P := by
  have hT := hH.1
  have hS := hT.s
  have hZ := cZ_refl hH
  have hq : ∀ v J R1, cZ C c (n + 1) K L I R (n + 1) t K L J R1 → P (some (.int v)) (n + 1, t, K, L, J, R1) := fun v J R1 z => hP v n t K L J R1 (cZ_le z (by omega))
  clear hP
  have gA := hT.g_asksR
  have gB := hT.g_benchesR
  have gX := hT.g_textsR
  rw [a_enter1 (M := a_m166) rfl (a_cat_rf (a_cat_int a_cat_nil)) (show 2 ≤ 2 by decide)]
  show a_at _ (a_xm a_m166) 0 [some (a_rf C), some (.int w)] [] _ _
  repeat' first
    | with_reducible apply And.intro
    | with_reducible assumption
    | with_reducible intro _
    | exact hq _ _ _ hZ
    | exact hq _ _ _ (by assumption)
    | exact hq _ _ _ (cZ_C hZ (by assumption))
    | exact hq _ _ _ (cZ_G hZ (by assumption))
    | exact hq _ _ _ (cZ_L hZ (by assumption))
    | refine ck_refuse hZ (fun _ _ => ?_)
    | refine ck_refuse (cZ_C hZ (by assumption)) (fun _ _ => ?_)
    | exact dC_T (by assumption)
    | exact dG_refl hT
    | with_reducible apply ck_placedAsks hT
    | with_reducible apply ck_placedShifts hT
    | simp only [q166_0, q166_1, q166_52, q166_53, q166_56, q166_59, q166_60, q166_61, q166_64, q166_67, q166_68, q166_69, q166_72, q166_75, q166_76, q166_77, q166_80, q166_83, q166_84, q166_85, q166_88, q166_91, q166_92, q166_93, q166_96, q166_99, q166_100, q166_101, q166_104, q166_107, q166_108, q166_109, q166_112, q166_115, q166_116, q166_117, q166_120, q166_121, q166_122, q166_124, q166_127, q166_128, q166_130, q166_133, q166_134, q166_137, q166_138, q166_140, q166_141, q166_142, q166_145, q166_147, k_0 hS, z_C hS, r_0_0 hS, k_1 hS, z_1, r_0_4 hS, k_14 hS, z_14, r_0_1 hS, k_7 hS, z_7, r_0_2 hS, k_11 hS, z_11, r_0_8 hS, k_42 hS, l_42 hS, z_42, as_nil, as_i, as_r, Nat.reduceAdd, Nat.reduceLeDiff, z_eq0, z_eq1, z_or, z_em, Classical.not_not, not_false_eq_true, not_true_eq_false, true_and, and_true, false_and, and_false, and_self, true_implies, false_implies, implies_true, Option.toList_some, Option.toList_none, List.cons_append, List.nil_append, Nat.add_eq_zero_iff, a_nl_i, a_nl_r, a_nl_n, true_or, or_true, eq_self, a_isRA_22, a_isRA_24, a_isRA_32, a_isA_20, ok_4, ok_5, ok_6, ok_7, ok_9, ok_20, ok_21, ok_30, ok_50, ok_180, ok_192, ok_200, a_sw, ti_0, ti_1, ti_2, ti_3, ti_4, ti_5, ti_6, ti_7, ti_8, ti_9, ti_10, ti_11, ti_12, ti_13, ti_14, ti_15, ti_16, ti_17, ti_18, ti_19, ti_98, ti_99, ti_100, ti_101, ti_102, ti_103, ti_104, ti_105, ti_106, ti_107, ti_108, ti_109, ti_110, ti_111, ti_112, ti_113, ti_114, ti_115, ti_116]
  all_goals ((try clear ih); (try clear hP); (try clear hl); (try clear hq); (try clear hZ); (try clear hH); grind [ui_ap])
theorem cu_askOf (hH : cH C c (n + 1) t K L I R) {q w : Int32} (hP : ∀ v n' t' K' L' J R', cZ C (c + 4) (n + 1) K L I R (n' + 1) t' K' L' J R' → P (some (.int v)) (n' + 1, t', K', L', J, R')) : a_does (d + 70) 53 [a_rf C, .int q, .int w] (n + 1, t, K, L, I, R) P := by
  have hT := hH.1
  have hS := hT.s
  have hZ := cZ_refl hH
  have hq : ∀ v J R1, cZ C c (n + 1) K L I R (n + 1) t K L J R1 → P (some (.int v)) (n + 1, t, K, L, J, R1) := fun v J R1 z => hP v n t K L J R1 (cZ_le z (by omega))
  clear hP
  have gA := hT.g_asksR
  have gB := hT.g_benchesR
  have gX := hT.g_textsR
  have gi := gA q.toNatClampNeg
  have ga := fun h => hT.g_ask (R (C + 15) q.toNatClampNeg) (gi.resolve_left h)
  rw [a_enter1 (M := a_m53) rfl (a_cat_rf (a_cat_int (a_cat_int a_cat_nil))) (show 3 ≤ 4 by decide)]
  show a_at _ (a_xm a_m53) 0 [some (a_rf C), some (.int q), some (.int w), none] [] _ _
  repeat' first
    | with_reducible apply And.intro
    | with_reducible assumption
    | with_reducible intro _
    | exact hq _ _ _ hZ
    | exact hq _ _ _ (by assumption)
    | exact hq _ _ _ (cZ_C hZ (by assumption))
    | exact hq _ _ _ (cZ_G hZ (by assumption))
    | exact hq _ _ _ (cZ_L hZ (by assumption))
    | refine ck_refuse hZ (fun _ _ => ?_)
    | refine ck_refuse (cZ_C hZ (by assumption)) (fun _ _ => ?_)
    | exact dC_T (by assumption)
    | exact dG_refl hT
    | with_reducible apply ck_loss ?_ hT
    | with_reducible apply ck_hallOwed ?_ hT
    | simp only [q53_0, q53_1, q53_4, q53_5, q53_8, q53_9, q53_10, q53_13, q53_14, q53_15, q53_18, q53_19, q53_20, q53_76, q53_77, q53_80, q53_81, q53_82, q53_85, q53_86, q53_87, q53_90, q53_91, q53_92, q53_95, q53_96, q53_97, q53_100, q53_101, q53_102, q53_105, q53_106, q53_107, q53_110, q53_111, q53_112, q53_115, q53_118, q53_119, q53_122, q53_123, q53_124, q53_125, q53_128, q53_129, q53_132, q53_133, q53_134, q53_137, q53_138, q53_141, q53_142, q53_143, q53_145, q53_148, k_0 hS, z_C hS, r_0_4 hS, k_14 hS, z_14, sp_askAt hS gA, as_nil, as_i, as_r, Nat.reduceAdd, Nat.reduceLeDiff, z_eq0, z_eq1, z_or, z_em, Classical.not_not, not_false_eq_true, not_true_eq_false, true_and, and_true, false_and, and_false, and_self, true_implies, false_implies, implies_true, Option.toList_some, Option.toList_none, List.cons_append, List.nil_append, Nat.add_eq_zero_iff, a_nl_i, a_nl_r, a_nl_n, true_or, or_true, eq_self, a_isRA_22, a_isRA_24, a_isRA_32, a_isA_20, ok_4, ok_5, ok_6, ok_7, ok_9, ok_20, ok_21, ok_30, ok_50, ok_180, ok_192, ok_200, a_sw, ti_0, ti_1, ti_2, ti_3, ti_4, ti_5, ti_6, ti_7, ti_8, ti_9, ti_10, ti_11, ti_12, ti_13, ti_14, ti_15, ti_16, ti_17, ti_18, ti_19, ti_98, ti_99, ti_100, ti_101, ti_102, ti_103, ti_104, ti_105, ti_106, ti_107, ti_108, ti_109, ti_110, ti_111, ti_112, ti_113, ti_114, ti_115, ti_116]
  all_goals ((try clear ih); (try clear hP); (try clear hl); (try clear hq); (try clear hZ); (try clear hH); grind [ui_ap])
theorem cu_barred (hH : cH C c (n + 1) t K L I R) {q b s w : Int32} (hP : ∀ v n' t' K' L' J R', cZ C (c + 4) (n + 1) K L I R (n' + 1) t' K' L' J R' → P (some (.int v)) (n' + 1, t', K', L', J, R')) : a_does (d + 70) 85 [a_rf C, .int q, .int b, .int s, .int w] (n + 1, t, K, L, I, R) P := by
  have hT := hH.1
  have hS := hT.s
  have hZ := cZ_refl hH
  have hq : ∀ v J R1, cZ C c (n + 1) K L I R (n + 1) t K L J R1 → P (some (.int v)) (n + 1, t, K, L, J, R1) := fun v J R1 z => hP v n t K L J R1 (cZ_le z (by omega))
  clear hP
  have gA := hT.g_asksR
  have gB := hT.g_benchesR
  have gX := hT.g_textsR
  have gi := gA q.toNatClampNeg
  have ga := fun h => hT.g_ask (R (C + 15) q.toNatClampNeg) (gi.resolve_left h)
  have gb := gB b.toNatClampNeg
  rw [a_enter1 (M := a_m85) rfl (a_cat_rf (a_cat_int (a_cat_int (a_cat_int (a_cat_int a_cat_nil))))) (show 5 ≤ 6 by decide)]
  show a_at _ (a_xm a_m85) 0 [some (a_rf C), some (.int q), some (.int b), some (.int s), some (.int w), none] [] _ _
  repeat' first
    | with_reducible apply And.intro
    | with_reducible assumption
    | with_reducible intro _
    | exact hq _ _ _ hZ
    | exact hq _ _ _ (by assumption)
    | exact hq _ _ _ (cZ_C hZ (by assumption))
    | exact hq _ _ _ (cZ_G hZ (by assumption))
    | exact hq _ _ _ (cZ_L hZ (by assumption))
    | refine ck_refuse hZ (fun _ _ => ?_)
    | refine ck_refuse (cZ_C hZ (by assumption)) (fun _ _ => ?_)
    | exact dC_T (by assumption)
    | exact dG_refl hT
    | with_reducible apply ck_least ?_ hT
    | with_reducible apply ck_quarrel ?_ hT
    | simp only [q85_0, q85_1, q85_4, q85_5, q85_8, q85_10, q85_12, q85_15, q85_16, q85_19, q85_20, q85_23, q85_26, q85_27, q85_30, q85_33, q85_34, q85_35, q85_38, q85_39, q85_41, q85_76, q85_77, q85_80, q85_82, q85_84, q85_85, q85_86, q85_89, q85_91, q85_94, q85_95, q85_98, q85_99, q85_100, q85_101, q85_104, q85_106, q85_108, q85_109, q85_110, q85_113, q85_115, q85_118, q85_119, q85_122, q85_123, q85_124, q85_125, q85_128, q85_130, q85_132, q85_133, q85_134, q85_137, q85_138, q85_139, q85_142, q85_144, q85_145, q85_146, q85_147, q85_150, q85_151, q85_152, q85_155, q85_157, q85_158, q85_159, q85_160, q85_163, q85_164, q85_165, q85_167, q85_170, k_0 hS, z_C hS, r_0_4 hS, k_14 hS, z_14, r_0_1 hS, k_7 hS, z_7, sp_askAt hS gA, sp_benchAt hS gB, sp_isShiftC, as_nil, as_i, as_r, Nat.reduceAdd, Nat.reduceLeDiff, z_eq0, z_eq1, z_or, z_em, Classical.not_not, not_false_eq_true, not_true_eq_false, true_and, and_true, false_and, and_false, and_self, true_implies, false_implies, implies_true, Option.toList_some, Option.toList_none, List.cons_append, List.nil_append, Nat.add_eq_zero_iff, a_nl_i, a_nl_r, a_nl_n, true_or, or_true, eq_self, a_isRA_22, a_isRA_24, a_isRA_32, a_isA_20, ok_4, ok_5, ok_6, ok_7, ok_9, ok_20, ok_21, ok_30, ok_50, ok_180, ok_192, ok_200, a_sw, ti_0, ti_1, ti_2, ti_3, ti_4, ti_5, ti_6, ti_7, ti_8, ti_9, ti_10, ti_11, ti_12, ti_13, ti_14, ti_15, ti_16, ti_17, ti_18, ti_19, ti_98, ti_99, ti_100, ti_101, ti_102, ti_103, ti_104, ti_105, ti_106, ti_107, ti_108, ti_109, ti_110, ti_111, ti_112, ti_113, ti_114, ti_115, ti_116]
  all_goals ((try clear ih); (try clear hP); (try clear hl); (try clear hq); (try clear hZ); (try clear hH); grind [ui_ap])
end KI
end
section
/-! the class: public methods that give -/
section KJ
variable {d n t C c n0 n' n'' t' : Nat} {K L K0 L0 K' L' K'' L'' : Nat → Nat} {I I0 J J0 J1 J2 : Nat → Nat → Int32} {R R0 R' R'' : Nat → Nat → Nat} {P : Option Value → AH → Prop}
theorem cu_mark (hH : cH C c (n + 1) t K L I R) {r q v : Int32} (hP : ∀ v n' t' K' L' J R', cZ C (c + 4) (n + 1) K L I R (n' + 1) t' K' L' J R' → P (some (.int v)) (n' + 1, t', K', L', J, R')) : a_does (d + 70) 92 [a_rf C, .int r, .int q, .int v] (n + 1, t, K, L, I, R) P := by
  have hT := hH.1
  have hS := hT.s
  have hZ := cZ_refl hH
  have hq : ∀ v J R1, cZ C c (n + 1) K L I R (n + 1) t K L J R1 → P (some (.int v)) (n + 1, t, K, L, J, R1) := fun v J R1 z => hP v n t K L J R1 (cZ_le z (by omega))
  clear hP
  have gA := hT.g_asksR
  have gB := hT.g_benchesR
  have gX := hT.g_textsR
  have gi := gA q.toNatClampNeg
  have ga := fun h => hT.g_ask (R (C + 15) q.toNatClampNeg) (gi.resolve_left h)
  rw [a_enter1 (M := a_m92) rfl (a_cat_rf (a_cat_int (a_cat_int (a_cat_int a_cat_nil)))) (show 4 ≤ 5 by decide)]
  show a_at _ (a_xm a_m92) 0 [some (a_rf C), some (.int r), some (.int q), some (.int v), none] [] _ _
  repeat' first
    | with_reducible apply And.intro
    | with_reducible assumption
    | with_reducible intro _
    | exact hq _ _ _ hZ
    | exact hq _ _ _ (by assumption)
    | exact hq _ _ _ (cZ_C hZ (by assumption))
    | exact hq _ _ _ (cZ_G hZ (by assumption))
    | exact hq _ _ _ (cZ_L hZ (by assumption))
    | refine ck_refuse hZ (fun _ _ => ?_)
    | refine ck_refuse (cZ_C hZ (by assumption)) (fun _ _ => ?_)
    | exact dC_T (by assumption)
    | exact dG_refl hT
    | exact ck_tell (gi.resolve_left (by assumption)) (dG_refl hT) (by assumption) (fun _ _ _ => by assumption)
    | refine ck_tell (gi.resolve_left (by assumption)) (dG_refl hT) (by assumption) (fun _ _ _ => ?_)
    | with_reducible apply ck_isTold hS
    | with_reducible apply ck_toldOf hS
    | simp only [q92_0, q92_1, q92_4, q92_5, q92_8, q92_10, q92_11, q92_14, q92_17, q92_19, q92_22, q92_23, q92_24, q92_27, q92_28, q92_29, q92_32, q92_33, q92_34, q92_37, q92_40, q92_41, q92_44, q92_45, q92_48, q92_49, q92_52, q92_53, q92_55, q92_58, q92_59, q92_60, q92_63, q92_64, q92_66, q92_69, q92_70, q92_71, q92_73, q92_76, q92_77, q92_79, q92_82, q92_83, q92_84, q92_87, q92_88, q92_90, q92_91, q92_94, q92_97, q92_98, q92_101, q92_102, k_0 hS, z_C hS, r_0_4 hS, k_14 hS, z_14, r_0_3 hS, k_17 hS, z_17, sp_askAt hS gA, sp_isReaderC, as_nil, as_i, as_r, Nat.reduceAdd, Nat.reduceLeDiff, z_eq0, z_eq1, z_or, z_em, Classical.not_not, not_false_eq_true, not_true_eq_false, true_and, and_true, false_and, and_false, and_self, true_implies, false_implies, implies_true, Option.toList_some, Option.toList_none, List.cons_append, List.nil_append, Nat.add_eq_zero_iff, a_nl_i, a_nl_r, a_nl_n, true_or, or_true, eq_self, a_isRA_22, a_isRA_24, a_isRA_32, a_isA_20, ok_4, ok_5, ok_6, ok_7, ok_9, ok_20, ok_21, ok_30, ok_50, ok_180, ok_192, ok_200]
  all_goals ((try clear ih); (try clear hP); (try clear hl); (try clear hq); (try clear hZ); (try clear hH); grind [ui_ap])
theorem cu_wish (hH : cH C c (n + 1) t K L I R) {q r w : Int32} (hw : w = 0 ∨ w = 1) (hP : ∀ v n' t' K' L' J R', cZ C (c + 4) (n + 1) K L I R (n' + 1) t' K' L' J R' → P (some (.int v)) (n' + 1, t', K', L', J, R')) : a_does (d + 70) 147 [a_rf C, .int q, .int r, .int w] (n + 1, t, K, L, I, R) P := by
  have hT := hH.1
  have hS := hT.s
  have hZ := cZ_refl hH
  have hq : ∀ v J R1, cZ C c (n + 1) K L I R (n + 1) t K L J R1 → P (some (.int v)) (n + 1, t, K, L, J, R1) := fun v J R1 z => hP v n t K L J R1 (cZ_le z (by omega))
  clear hP
  have gA := hT.g_asksR
  have gB := hT.g_benchesR
  have gX := hT.g_textsR
  have gi := gA q.toNatClampNeg
  have gj := gA r.toNatClampNeg
  rw [a_enter1 (M := a_m147) rfl (a_cat_rf (a_cat_int (a_cat_int (a_cat_int a_cat_nil)))) (show 4 ≤ 4 by decide)]
  show a_at _ (a_xm a_m147) 0 [some (a_rf C), some (.int q), some (.int r), some (.int w)] [] _ _
  repeat' first
    | with_reducible apply And.intro
    | with_reducible assumption
    | with_reducible intro _
    | exact hq _ _ _ hZ
    | exact hq _ _ _ (by assumption)
    | exact hq _ _ _ (cZ_C hZ (by assumption))
    | exact hq _ _ _ (cZ_G hZ (by assumption))
    | exact hq _ _ _ (cZ_L hZ (by assumption))
    | refine ck_refuse hZ (fun _ _ => ?_)
    | refine ck_refuse (cZ_C hZ (by assumption)) (fun _ _ => ?_)
    | exact dC_T (by assumption)
    | exact dG_refl hT
    | refine ck_circleTell (I0 := I) ?_ hw (dG_refl hT) (fun _ _ _ => ?_)
    | simp only [q147_0, q147_1, q147_4, q147_5, q147_8, q147_11, q147_12, q147_15, q147_16, q147_19, q147_22, q147_23, q147_24, q147_27, q147_28, q147_29, q147_32, q147_33, q147_34, q147_37, q147_38, q147_39, q147_40, q147_43, q147_46, q147_47, q147_50, q147_51, k_0 hS, z_C hS, r_0_4 hS, k_14 hS, z_14, r_0_7 hS, k_35 hS, z_35, sp_askAt hS gA, as_nil, as_i, as_r, Nat.reduceAdd, Nat.reduceLeDiff, z_eq0, z_eq1, z_or, z_em, Classical.not_not, not_false_eq_true, not_true_eq_false, true_and, and_true, false_and, and_false, and_self, true_implies, false_implies, implies_true, Option.toList_some, Option.toList_none, List.cons_append, List.nil_append, Nat.add_eq_zero_iff, a_nl_i, a_nl_r, a_nl_n, true_or, or_true, eq_self, a_isRA_22, a_isRA_24, a_isRA_32, a_isA_20, ok_4, ok_5, ok_6, ok_7, ok_9, ok_20, ok_21, ok_30, ok_50, ok_180, ok_192, ok_200]
  all_goals ((try clear ih); (try clear hP); (try clear hl); (try clear hq); (try clear hZ); (try clear hH); grind [ui_ap])
theorem cu_give (hH : cH C c (n + 1) t K L I R) {q b s : Int32} (hP : ∀ v n' t' K' L' J R', cZ C (c + 4) (n + 1) K L I R (n' + 1) t' K' L' J R' → P (some (.int v)) (n' + 1, t', K', L', J, R')) : a_does (d + 70) 112 [a_rf C, .int q, .int b, .int s] (n + 1, t, K, L, I, R) P := by
  have hT := hH.1
  have hS := hT.s
  have hZ := cZ_refl hH
  have hq : ∀ v J R1, cZ C c (n + 1) K L I R (n + 1) t K L J R1 → P (some (.int v)) (n + 1, t, K, L, J, R1) := fun v J R1 z => hP v n t K L J R1 (cZ_le z (by omega))
  clear hP
  have gA := hT.g_asksR
  have gB := hT.g_benchesR
  have gX := hT.g_textsR
  have gi := gA q.toNatClampNeg
  have ga := fun h => hT.g_ask (R (C + 15) q.toNatClampNeg) (gi.resolve_left h)
  have gb := gB b.toNatClampNeg
  have hfit : ∀ J (v : Int32), ¬ R (C + 15) q.toNatClampNeg = 0 → dC C K L R I J → (v = 0 → fitP s (I (R (C + 15) q.toNatClampNeg) 2)) → v = 0 → fitP s (J (R (C + 15) q.toNatClampNeg) 2) := fun J v h1 h2 h3 h4 => by
    rw [dC_at h2 hT (gi.resolve_left h1) 2]
    exact h3 h4
  rw [a_enter1 (M := a_m112) rfl (a_cat_rf (a_cat_int (a_cat_int (a_cat_int a_cat_nil)))) (show 4 ≤ 5 by decide)]
  show a_at _ (a_xm a_m112) 0 [some (a_rf C), some (.int q), some (.int b), some (.int s), none] [] _ _
  repeat' first
    | with_reducible apply And.intro
    | with_reducible assumption
    | with_reducible intro _
    | exact hq _ _ _ hZ
    | exact hq _ _ _ (by assumption)
    | exact hq _ _ _ (cZ_C hZ (by assumption))
    | exact hq _ _ _ (cZ_G hZ (by assumption))
    | exact hq _ _ _ (cZ_L hZ (by assumption))
    | refine ck_refuse hZ (fun _ _ => ?_)
    | refine ck_refuse (cZ_C hZ (by assumption)) (fun _ _ => ?_)
    | exact dC_T (by assumption)
    | exact dG_refl hT
    | refine ck_place (gi.resolve_left (by assumption)) (dC_T (by assumption)) (hfit _ _ (by assumption) (by assumption) (by assumption) (by assumption)) (fun _ _ => ?_)
    | exact hq _ _ _ (cZ_L (cZ_C hZ (by assumption)) (by assumption))
    | with_reducible apply ck_firstBar ?_ hT
    | simp only [q112_0, q112_1, q112_4, q112_5, q112_8, q112_10, q112_12, q112_15, q112_16, q112_19, q112_20, q112_23, q112_26, q112_27, q112_30, q112_33, q112_34, q112_35, q112_38, q112_39, q112_41, q112_44, q112_47, q112_49, q112_52, q112_55, q112_56, q112_59, q112_61, q112_62, q112_63, q112_66, q112_69, q112_70, q112_72, q112_75, q112_76, q112_77, q112_80, q112_82, q112_83, q112_84, q112_87, q112_88, k_0 hS, z_C hS, r_0_4 hS, k_14 hS, z_14, sp_askAt hS gA, sp_benchAt hS gB, sp_isShiftC, sp_isPlaced, as_nil, as_i, as_r, Nat.reduceAdd, Nat.reduceLeDiff, z_eq0, z_eq1, z_or, z_em, Classical.not_not, not_false_eq_true, not_true_eq_false, true_and, and_true, false_and, and_false, and_self, true_implies, false_implies, implies_true, Option.toList_some, Option.toList_none, List.cons_append, List.nil_append, Nat.add_eq_zero_iff, a_nl_i, a_nl_r, a_nl_n, true_or, or_true, eq_self, a_isRA_22, a_isRA_24, a_isRA_32, a_isA_20, ok_4, ok_5, ok_6, ok_7, ok_9, ok_20, ok_21, ok_30, ok_50, ok_180, ok_192, ok_200]
  all_goals ((try clear ih); (try clear hP); (try clear hl); (try clear hq); (try clear hZ); (try clear hH); grind [ui_ap])
theorem cu_plan (hH : cH C c (n + 1) t K L I R) {x y : Int32} (hP : ∀ v n' t' K' L' J R', cZ C (c + 4) (n + 1) K L I R (n' + 1) t' K' L' J R' → P (some (.int v)) (n' + 1, t', K', L', J, R')) : a_does (d + 70) 118 [a_rf C, .int x, .int y] (n + 1, t, K, L, I, R) P := by
  have hT := hH.1
  have hS := hT.s
  have hZ := cZ_refl hH
  have hq : ∀ v J R1, cZ C c (n + 1) K L I R (n + 1) t K L J R1 → P (some (.int v)) (n + 1, t, K, L, J, R1) := fun v J R1 z => hP v n t K L J R1 (cZ_le z (by omega))
  clear hP
  have gA := hT.g_asksR
  have gB := hT.g_benchesR
  have gX := hT.g_textsR
  rw [a_enter1 (M := a_m118) rfl (a_cat_rf (a_cat_int (a_cat_int a_cat_nil))) (show 3 ≤ 3 by decide)]
  show a_at _ (a_xm a_m118) 0 [some (a_rf C), some (.int x), some (.int y)] [] _ _
  repeat' first
    | with_reducible apply And.intro
    | with_reducible assumption
    | with_reducible intro _
    | exact hq _ _ _ hZ
    | exact hq _ _ _ (by assumption)
    | exact hq _ _ _ (cZ_C hZ (by assumption))
    | exact hq _ _ _ (cZ_G hZ (by assumption))
    | exact hq _ _ _ (cZ_L hZ (by assumption))
    | refine ck_refuse hZ (fun _ _ => ?_)
    | refine ck_refuse (cZ_C hZ (by assumption)) (fun _ _ => ?_)
    | exact dC_T (by assumption)
    | exact dG_refl hT
    | refine ck_planAll ?_ ?_ hZ (fun _ _ _ _ => ?_)
    | simp only [q118_0, q118_1, q118_2, q118_5, q118_8, q118_9, q118_10, q118_13, q118_14, q118_15, q118_18, q118_19, q118_20, q118_23, k_0 hS, z_C hS, r_0_5 hS, k_22 hS, z_22, sp_areShifts, as_nil, as_i, as_r, Nat.reduceAdd, Nat.reduceLeDiff, z_eq0, z_eq1, z_or, z_em, Classical.not_not, not_false_eq_true, not_true_eq_false, true_and, and_true, false_and, and_false, and_self, true_implies, false_implies, implies_true, Option.toList_some, Option.toList_none, List.cons_append, List.nil_append, Nat.add_eq_zero_iff, a_nl_i, a_nl_r, a_nl_n, true_or, or_true, eq_self, a_isRA_22, a_isRA_24, a_isRA_32, a_isA_20, ok_4, ok_5, ok_6, ok_7, ok_9, ok_20, ok_21, ok_30, ok_50, ok_180, ok_192, ok_200]
  all_goals ((try clear ih); (try clear hP); (try clear hl); (try clear hq); (try clear hZ); (try clear hH); grind [ui_ap])
theorem cu_ring (hH : cH C c (n + 1) t K L I R) {w : Int32} (hP : ∀ v n' t' K' L' J R', cZ C (c + 4) (n + 1) K L I R (n' + 1) t' K' L' J R' → P (some (.int v)) (n' + 1, t', K', L', J, R')) : a_does (d + 70) 149 [a_rf C, .int w] (n + 1, t, K, L, I, R) P := by
  have hT := hH.1
  have hS := hT.s
  have hZ := cZ_refl hH
  have hq : ∀ v J R1, cZ C c (n + 1) K L I R (n + 1) t K L J R1 → P (some (.int v)) (n + 1, t, K, L, J, R1) := fun v J R1 z => hP v n t K L J R1 (cZ_le z (by omega))
  clear hP
  rw [a_enter1 (M := a_m149) rfl (a_cat_rf (a_cat_int a_cat_nil)) (show 2 ≤ 3 by decide)]
  show a_at _ (a_xm a_m149) 0 [some (a_rf C), some (.int w), none] [] _ _
  simp only [q149_0, q149_1, q149_2, q149_5, q149_6, q149_8, q149_11, q149_12, q149_13, q149_16, q149_19, k_0 hS, z_C hS, r_0_7 hS, k_35 hS, z_35, as_nil, as_i, as_r, Nat.reduceAdd, Nat.reduceLeDiff, z_eq0, z_eq1, z_or, z_em, Classical.not_not, not_false_eq_true, not_true_eq_false, true_and, and_true, false_and, and_false, and_self, true_implies, false_implies, implies_true, Option.toList_some, Option.toList_none, List.cons_append, List.nil_append, Nat.add_eq_zero_iff, a_nl_i, a_nl_r, a_nl_n, true_or, or_true, eq_self, a_isRA_22, a_isRA_24, a_isRA_32, a_isA_20, ok_4, ok_5, ok_6, ok_7, ok_9, ok_20, ok_21, ok_30, ok_50, ok_180, ok_192, ok_200]
  refine ⟨fun _ => ?_, fun _ => ?_⟩
  all_goals
    first
      | (refine ck_refuse hZ (fun J z => ?_)
         simp only [q149_8, q149_11, k_0 hS, z_C hS, as_nil, as_i, as_r, Nat.reduceAdd, Nat.reduceLeDiff, z_eq0, z_eq1, z_or, z_em, Classical.not_not, not_false_eq_true, not_true_eq_false, true_and, and_true, false_and, and_false, and_self, true_implies, false_implies, implies_true, Option.toList_some, Option.toList_none, List.cons_append, List.nil_append, Nat.add_eq_zero_iff, a_nl_i, a_nl_r, a_nl_n, true_or, or_true, eq_self, a_isRA_22, a_isRA_24, a_isRA_32, a_isA_20, ok_4, ok_5, ok_6, ok_7, ok_9, ok_20, ok_21, ok_30, ok_50, ok_180, ok_192, ok_200]
         exact hq _ _ _ z)
      | (refine ck_find hZ (fun v J R2 z e1 e2 e3 e4 => ?_)
         have hS := z.2.1.1.s
         have hN : rnP C R2 (J (C + 35) 7) := by rw [e1]; exact e3
         simp only [q149_19, q149_20, q149_21, q149_22, q149_25, q149_26, q149_29, q149_30, q149_33, q149_34, q149_37, k_0 hS, z_C hS, r_0_7 hS, k_35 hS, z_35, as_nil, as_i, as_r, Nat.reduceAdd, Nat.reduceLeDiff, z_eq0, z_eq1, z_or, z_em, Classical.not_not, not_false_eq_true, not_true_eq_false, true_and, and_true, false_and, and_false, and_self, true_implies, false_implies, implies_true, Option.toList_some, Option.toList_none, List.cons_append, List.nil_append, Nat.add_eq_zero_iff, a_nl_i, a_nl_r, a_nl_n, true_or, or_true, eq_self, a_isRA_22, a_isRA_24, a_isRA_32, a_isA_20, ok_4, ok_5, ok_6, ok_7, ok_9, ok_20, ok_21, ok_30, ok_50, ok_180, ok_192, ok_200]
         refine ⟨fun _ => ?_, fun _ => ?_⟩
         · first
             | exact hq _ _ _ z
             | (refine ck_memberAt z.2.1.1 hN (fun v2 => ?_)
                simp only [q149_34, q149_37, k_0 hS, z_C hS, as_nil, as_i, as_r, Nat.reduceAdd, Nat.reduceLeDiff, z_eq0, z_eq1, z_or, z_em, Classical.not_not, not_false_eq_true, not_true_eq_false, true_and, and_true, false_and, and_false, and_self, true_implies, false_implies, implies_true, Option.toList_some, Option.toList_none, List.cons_append, List.nil_append, Nat.add_eq_zero_iff, a_nl_i, a_nl_r, a_nl_n, true_or, or_true, eq_self, a_isRA_22, a_isRA_24, a_isRA_32, a_isA_20, ok_4, ok_5, ok_6, ok_7, ok_9, ok_20, ok_21, ok_30, ok_50, ok_180, ok_192, ok_200]
                exact hq _ _ _ z)
         · first
             | exact hq _ _ _ z
             | (refine ck_memberAt z.2.1.1 hN (fun v2 => ?_)
                simp only [q149_34, q149_37, k_0 hS, z_C hS, as_nil, as_i, as_r, Nat.reduceAdd, Nat.reduceLeDiff, z_eq0, z_eq1, z_or, z_em, Classical.not_not, not_false_eq_true, not_true_eq_false, true_and, and_true, false_and, and_false, and_self, true_implies, false_implies, implies_true, Option.toList_some, Option.toList_none, List.cons_append, List.nil_append, Nat.add_eq_zero_iff, a_nl_i, a_nl_r, a_nl_n, true_or, or_true, eq_self, a_isRA_22, a_isRA_24, a_isRA_32, a_isA_20, ok_4, ok_5, ok_6, ok_7, ok_9, ok_20, ok_21, ok_30, ok_50, ok_180, ok_192, ok_200]
                exact hq _ _ _ z))
theorem cu_best (hH : cH C c (n + 1) t K L I R) {x y r w : Int32} (hP : ∀ v n' t' K' L' J R', cZ C (c + 4) (n + 1) K L I R (n' + 1) t' K' L' J R' → P (some (.int v)) (n' + 1, t', K', L', J, R')) : a_does (d + 70) 128 [a_rf C, .int x, .int y, .int r, .int w] (n + 1, t, K, L, I, R) P := by
  have hT := hH.1
  have hS := hT.s
  have hZ := cZ_refl hH
  have hq : ∀ v J R1, cZ C c (n + 1) K L I R (n + 1) t K L J R1 → P (some (.int v)) (n + 1, t, K, L, J, R1) := fun v J R1 z => hP v n t K L J R1 (cZ_le z (by omega))
  clear hP
  have hgo : (0 ≤ x ∧ x < 200) → (0 ≤ y ∧ y < 200) → a_at (d + 69) (a_xm a_m128) 93 [some (a_rf C), some (.int x), some (.int y), some (.int r), some (.int w)] [] (n + 1, t, K, L, I, R) P := fun hx hy => by
    simp only [q128_93, q128_94, q128_97, q128_98, q128_99, q128_100, k_0 hS, z_C hS, r_0_6 hS, k_27 hS, z_27, as_nil, as_i, as_r, Nat.reduceAdd, Nat.reduceLeDiff, z_eq0, z_eq1, z_or, z_em, Classical.not_not, not_false_eq_true, not_true_eq_false, true_and, and_true, false_and, and_false, and_self, true_implies, false_implies, implies_true, Option.toList_some, Option.toList_none, List.cons_append, List.nil_append, Nat.add_eq_zero_iff, a_nl_i, a_nl_r, a_nl_n, true_or, or_true, eq_self, a_isRA_22, a_isRA_24, a_isRA_32, a_isA_20, ok_4, ok_5, ok_6, ok_7, ok_9, ok_20, ok_21, ok_30, ok_50, ok_180, ok_192, ok_200]
    refine ck_search ⟨hx.1, by clear hq hZ hT hH hS; grind⟩ (by clear hq hZ hT hH hS; grind) hZ (fun J R2 z hN => ?_)
    have hS := z.2.1.1.s
    simp only [q128_103, q128_105, q128_106, q128_109, q128_110, q128_113, q128_116, q128_119, q128_120, q128_123, q128_125, q128_128, k_0 hS, z_C hS, r_0_6 hS, k_27 hS, z_27, as_nil, as_i, as_r, Nat.reduceAdd, Nat.reduceLeDiff, z_eq0, z_eq1, z_or, z_em, Classical.not_not, not_false_eq_true, not_true_eq_false, true_and, and_true, false_and, and_false, and_self, true_implies, false_implies, implies_true, Option.toList_some, Option.toList_none, List.cons_append, List.nil_append, Nat.add_eq_zero_iff, a_nl_i, a_nl_r, a_nl_n, true_or, or_true, eq_self, a_isRA_22, a_isRA_24, a_isRA_32, a_isA_20, ok_4, ok_5, ok_6, ok_7, ok_9, ok_20, ok_21, ok_30, ok_50, ok_180, ok_192, ok_200]
    refine ⟨fun _ => ?_, fun _ => ?_⟩
    · first
        | exact hq _ _ _ z
        | (refine ck_spotOf z.2.1.1 hN (fun v2 => ?_)
           simp only [q128_128, as_nil, as_i, as_r, Nat.reduceAdd, Nat.reduceLeDiff, z_eq0, z_eq1, z_or, z_em, Classical.not_not, not_false_eq_true, not_true_eq_false, true_and, and_true, false_and, and_false, and_self, true_implies, false_implies, implies_true, Option.toList_some, Option.toList_none, List.cons_append, List.nil_append, Nat.add_eq_zero_iff, a_nl_i, a_nl_r, a_nl_n, true_or, or_true, eq_self, a_isRA_22, a_isRA_24, a_isRA_32, a_isA_20, ok_4, ok_5, ok_6, ok_7, ok_9, ok_20, ok_21, ok_30, ok_50, ok_180, ok_192, ok_200]
           exact hq _ _ _ z)
    · first
        | exact hq _ _ _ z
        | (refine ck_spotOf z.2.1.1 hN (fun v2 => ?_)
           simp only [q128_128, as_nil, as_i, as_r, Nat.reduceAdd, Nat.reduceLeDiff, z_eq0, z_eq1, z_or, z_em, Classical.not_not, not_false_eq_true, not_true_eq_false, true_and, and_true, false_and, and_false, and_self, true_implies, false_implies, implies_true, Option.toList_some, Option.toList_none, List.cons_append, List.nil_append, Nat.add_eq_zero_iff, a_nl_i, a_nl_r, a_nl_n, true_or, or_true, eq_self, a_isRA_22, a_isRA_24, a_isRA_32, a_isA_20, ok_4, ok_5, ok_6, ok_7, ok_9, ok_20, ok_21, ok_30, ok_50, ok_180, ok_192, ok_200]
           exact hq _ _ _ z)
  rw [a_enter1 (M := a_m128) rfl (a_cat_rf (a_cat_int (a_cat_int (a_cat_int (a_cat_int a_cat_nil))))) (show 5 ≤ 5 by decide)]
  show a_at _ (a_xm a_m128) 0 [some (a_rf C), some (.int x), some (.int y), some (.int r), some (.int w)] [] _ _
  repeat' first
    | with_reducible apply And.intro
    | with_reducible assumption
    | with_reducible intro _
    | exact hq _ _ _ hZ
    | exact hq _ _ _ (by assumption)
    | exact hq _ _ _ (cZ_C hZ (by assumption))
    | exact hq _ _ _ (cZ_G hZ (by assumption))
    | exact hq _ _ _ (cZ_L hZ (by assumption))
    | refine ck_refuse hZ (fun _ _ => ?_)
    | refine ck_refuse (cZ_C hZ (by assumption)) (fun _ _ => ?_)
    | exact dC_T (by assumption)
    | exact dG_refl hT
    | with_reducible apply ck_areAsks hT
    | with_reducible apply ck_isIn
    | with_reducible apply ck_bitCount
    | with_reducible apply ck_areAllFree hT
    | with_reducible apply hgo
    | simp only [q128_0, q128_1, q128_2, q128_5, q128_8, q128_9, q128_12, q128_13, q128_16, q128_19, q128_21, q128_24, q128_25, q128_27, q128_30, q128_33, q128_34, q128_35, q128_38, q128_39, q128_41, q128_42, q128_45, q128_46, q128_48, q128_51, q128_52, q128_53, q128_54, q128_55, q128_57, q128_60, q128_61, q128_64, q128_65, q128_68, q128_69, q128_71, q128_74, q128_75, q128_76, q128_79, q128_80, q128_83, q128_86, q128_87, q128_89, q128_92, k_0 hS, z_C hS, r_0_4 hS, k_14 hS, z_14, sp_areShifts, as_nil, as_i, as_r, Nat.reduceAdd, Nat.reduceLeDiff, z_eq0, z_eq1, z_or, z_em, Classical.not_not, not_false_eq_true, not_true_eq_false, true_and, and_true, false_and, and_false, and_self, true_implies, false_implies, implies_true, Option.toList_some, Option.toList_none, List.cons_append, List.nil_append, Nat.add_eq_zero_iff, a_nl_i, a_nl_r, a_nl_n, true_or, or_true, eq_self, a_isRA_22, a_isRA_24, a_isRA_32, a_isA_20, ok_4, ok_5, ok_6, ok_7, ok_9, ok_20, ok_21, ok_30, ok_50, ok_180, ok_192, ok_200]
  all_goals ((try clear hgo); (try clear hq); (try clear hZ); (try clear hH); (try clear hT); grind [ui_ap])
end KJ
end
section
/-! the class: public methods that make something -/
section KK
variable {d n t C c n0 n' n'' t' : Nat} {K L K0 L0 K' L' K'' L'' : Nat → Nat} {I I0 J J0 J1 J2 : Nat → Nat → Int32} {R R0 R' R'' : Nat → Nat → Nat} {P : Option Value → AH → Prop}
theorem cf_ui {a : Nat} (ha : K a = 1) (hT : cT C K L I R) {v s : Int32} : ∀ (k : Nat) (i : Int32) (f : Nat), (f = 0 ∨ K f = 11) → cf C R (a_ui I a 16 v) s k i f = cf C R I s k i f := by
  have a1 := (hT.g_ask a ha).1
  have e1 : a_ui I a 16 v (C + 7) 3 = I (C + 7) 3 := by rw [ui_ap, if_neg (by omega)]
  have e2 : ∀ x j, K x = 11 → a_ui I a 16 v x j = I x j := fun x j hx => by
    rw [ui_ap, if_neg (fun e => by rw [e.1, ha] at hx; cases hx)]
  intro k
  induction k with
  | zero => intro i f _; rfl
  | succ k ih =>
    intro i f hf
    unfold cf
    rw [e1]
    have hX := hT.g_textsR i.toNatClampNeg
    generalize R (C + 8) i.toNatClampNeg = x at hX
    have ec : (¬ x = 0 ∧ a_ui I a 16 v x 0 = 79 ∧ (a_ui I a 16 v x 1 ≤ s ∧ s < a_ui I a 16 v x 3) ∧ (f = 0 ∨ a_ui I a 16 v f 1 ≤ a_ui I a 16 v x 1)) = (¬ x = 0 ∧ I x 0 = 79 ∧ (I x 1 ≤ s ∧ s < I x 3) ∧ (f = 0 ∨ I f 1 ≤ I x 1)) := by
      rcases hX with hX | hX
      · simp [hX]
      · rw [e2 x 0 hX, e2 x 1 hX, e2 x 3 hX]
        rcases hf with hf | hf
        · simp [hf]
        · rw [e2 f 1 hf]
    simp only [ec]
    rw [ih _ _ (by split; rename_i q; exact Or.inr (hX.resolve_left q.1); exact hf)]
theorem hw_ui {a : Nat} (ha : K a = 1) (hT : cT C K L I R) {v : Int32} : hw C L R (a_ui I a 16 v) a = hw C L R I a := by
  have a1 := (hT.g_ask a ha).1
  have e : ∀ j, ¬ j = 16 → a_ui I a 16 v a j = I a j := fun j hj => by rw [ui_ap, if_neg (fun q => hj q.2)]
  have e1 : a_ui I a 16 v (C + 3) = I (C + 3) := by funext j; rw [ui_ap, if_neg (by omega)]
  have e2 : lw C (a_ui I a 16 v) a = lw C I a := by unfold lw; rw [e 13 (by decide), e 14 (by decide), e 2 (by decide), e1]
  have e3 : ∀ b s w, lq (a_ui I a 16 v) a b s w = lq I a b s w := fun b s w => by
    funext j
    simp only [lq, e 12 (by decide), e 9 (by decide), e 2 (by decide), e 1 (by decide), e 0 (by decide), e 5 (by decide)]
  have e4 := cf_ui ha hT (v := v) (s := I a 14) 30 0 0 (Or.inl rfl)
  have e5 := cf_11 hT (s := I a 14) 30 0 0 (Or.inl rfl)
  unfold hw
  rw [e 13 (by decide), e2]
  simp only [ow, e 14 (by decide), e 13 (by decide), e 2 (by decide), e4, e3]
  generalize cf C R I (I a 14) 30 0 0 = x at e5
  rcases e5 with e5 | e5
  · simp [e5]
  · have x1 := hT.g_txt x e5
    have n1 : ¬ R x 2 = a := fun q => by rw [q, ha] at x1; have := x1.2.2.1; cases this
    have : a_ui I a 16 v (R x 2) = I (R x 2) := by funext j; rw [ui_ap, if_neg (fun q => n1 q.1)]
    rw [this]
theorem cu_withdraw (hH : cH C c (n + 1) t K L I R) {q : Int32} (hP : ∀ v n' t' K' L' J R', cZ C (c + 4) (n + 1) K L I R (n' + 1) t' K' L' J R' → P (some (.int v)) (n' + 1, t', K', L', J, R')) : a_does (d + 70) 44 [a_rf C, .int q] (n + 1, t, K, L, I, R) P := by
  have hT := hH.1
  have hS := hT.s
  have hZ := cZ_refl hH
  have hq : ∀ v J R1, cZ C c (n + 1) K L I R (n + 1) t K L J R1 → P (some (.int v)) (n + 1, t, K, L, J, R1) := fun v J R1 z => hP v n t K L J R1 (cZ_le z (by omega))
  have hA : ∀ v n' t' K' L' J R', cZ C c (n + 1) K L I R (n' + 1) t' K' L' J R' → P (some (.int v)) (n' + 1, t', K', L', J, R') := fun v n' t' K' L' J R' z => hP v n' t' K' L' J R' (cZ_le z (by omega))
  have hB : ∀ v n' t' K' L' J R', cZ C (c + 1) (n + 1) K L I R (n' + 1) t' K' L' J R' → P (some (.int v)) (n' + 1, t', K', L', J, R') := fun v n' t' K' L' J R' z => hP v n' t' K' L' J R' (cZ_le z (by omega))
  have hB2 : ∀ v n' t' K' L' J R', cZ C (c + 1 + 1) (n + 1) K L I R (n' + 1) t' K' L' J R' → P (some (.int v)) (n' + 1, t', K', L', J, R') := fun v n' t' K' L' J R' z => hP v n' t' K' L' J R' (cZ_le z (by omega))
  clear hP
  have gA := hT.g_asksR
  have gB := hT.g_benchesR
  have gX := hT.g_textsR
  have gi := gA q.toNatClampNeg
  have ga := fun h => hT.g_ask (R (C + 15) q.toNatClampNeg) (gi.resolve_left h)
  have hw : ¬ R (C + 15) q.toNatClampNeg = 0 → cZ C c (n + 1) K L I R (n + 1) t K L (a_ui I (R (C + 15) q.toNatClampNeg) 15 1) R := fun h => cZ_G hZ (dG_askf (dG_refl hT) (ga h).1 (gi.resolve_left h) (by decide))
  rw [a_enter1 (M := a_m44) rfl (a_cat_rf (a_cat_int a_cat_nil)) (show 2 ≤ 3 by decide)]
  show a_at _ (a_xm a_m44) 0 [some (a_rf C), some (.int q), none] [] _ _
  repeat' first
    | with_reducible apply And.intro
    | with_reducible assumption
    | with_reducible intro _
    | exact hq _ _ _ hZ
    | exact hq _ _ _ (by assumption)
    | exact hq _ _ _ (cZ_C hZ (by assumption))
    | exact hq _ _ _ (cZ_G hZ (by assumption))
    | exact hq _ _ _ (cZ_L hZ (by assumption))
    | refine ck_refuse hZ (fun _ _ => ?_)
    | refine ck_refuse (cZ_C hZ (by assumption)) (fun _ _ => ?_)
    | exact dC_T (by assumption)
    | exact dG_refl hT
    | exact hA _ _ _ _ _ _ _ (cZ_Q (hw (by assumption)) (by assumption) (by assumption))
    | refine ck_clear (gi.resolve_left (by assumption)) (hw (by assumption)).2.1 (fun _ _ _ _ _ _ _ _ => ?_)
    | simp only [q44_0, q44_1, q44_4, q44_5, q44_8, q44_9, q44_10, q44_13, q44_14, q44_15, q44_18, q44_19, q44_20, q44_23, q44_26, q44_27, q44_29, q44_32, q44_33, q44_34, q44_35, q44_38, q44_39, q44_42, q44_43, q44_46, q44_47, k_0 hS, z_C hS, r_0_4 hS, k_14 hS, z_14, sp_askAt hS gA, as_nil, as_i, as_r, Nat.reduceAdd, Nat.reduceLeDiff, z_eq0, z_eq1, z_or, z_em, Classical.not_not, not_false_eq_true, not_true_eq_false, true_and, and_true, false_and, and_false, and_self, true_implies, false_implies, implies_true, Option.toList_some, Option.toList_none, List.cons_append, List.nil_append, Nat.add_eq_zero_iff, a_nl_i, a_nl_r, a_nl_n, true_or, or_true, eq_self, a_isRA_22, a_isRA_24, a_isRA_32, a_isA_20, ok_4, ok_5, ok_6, ok_7, ok_9, ok_20, ok_21, ok_30, ok_50, ok_180, ok_192, ok_200]
  all_goals ((try clear hq); (try clear hA); (try clear hB); (try clear hB2); (try clear hZ); (try clear hH); (try clear hT); grind [ui_ap])
theorem cu_take (hH : cH C c (n + 1) t K L I R) {q : Int32} (hP : ∀ v n' t' K' L' J R', cZ C (c + 4) (n + 1) K L I R (n' + 1) t' K' L' J R' → P (some (.int v)) (n' + 1, t', K', L', J, R')) : a_does (d + 70) 116 [a_rf C, .int q] (n + 1, t, K, L, I, R) P := by
  have hT := hH.1
  have hS := hT.s
  have hZ := cZ_refl hH
  have hq : ∀ v J R1, cZ C c (n + 1) K L I R (n + 1) t K L J R1 → P (some (.int v)) (n + 1, t, K, L, J, R1) := fun v J R1 z => hP v n t K L J R1 (cZ_le z (by omega))
  have hA : ∀ v n' t' K' L' J R', cZ C c (n + 1) K L I R (n' + 1) t' K' L' J R' → P (some (.int v)) (n' + 1, t', K', L', J, R') := fun v n' t' K' L' J R' z => hP v n' t' K' L' J R' (cZ_le z (by omega))
  have hB : ∀ v n' t' K' L' J R', cZ C (c + 1) (n + 1) K L I R (n' + 1) t' K' L' J R' → P (some (.int v)) (n' + 1, t', K', L', J, R') := fun v n' t' K' L' J R' z => hP v n' t' K' L' J R' (cZ_le z (by omega))
  have hB2 : ∀ v n' t' K' L' J R', cZ C (c + 1 + 1) (n + 1) K L I R (n' + 1) t' K' L' J R' → P (some (.int v)) (n' + 1, t', K', L', J, R') := fun v n' t' K' L' J R' z => hP v n' t' K' L' J R' (cZ_le z (by omega))
  clear hP
  have gA := hT.g_asksR
  have gB := hT.g_benchesR
  have gX := hT.g_textsR
  have gi := gA q.toNatClampNeg
  have ga := fun h => hT.g_ask (R (C + 15) q.toNatClampNeg) (gi.resolve_left h)
  rw [a_enter1 (M := a_m116) rfl (a_cat_rf (a_cat_int a_cat_nil)) (show 2 ≤ 3 by decide)]
  show a_at _ (a_xm a_m116) 0 [some (a_rf C), some (.int q), none] [] _ _
  repeat' first
    | with_reducible apply And.intro
    | with_reducible assumption
    | with_reducible intro _
    | exact hq _ _ _ hZ
    | exact hq _ _ _ (by assumption)
    | exact hq _ _ _ (cZ_C hZ (by assumption))
    | exact hq _ _ _ (cZ_G hZ (by assumption))
    | exact hq _ _ _ (cZ_L hZ (by assumption))
    | refine ck_refuse hZ (fun _ _ => ?_)
    | refine ck_refuse (cZ_C hZ (by assumption)) (fun _ _ => ?_)
    | exact dC_T (by assumption)
    | exact dG_refl hT
    | exact hA _ _ _ _ _ _ _ (cZ_Q hZ (by assumption) (by assumption))
    | refine ck_clear (gi.resolve_left (by assumption)) hH (fun _ _ _ _ _ _ _ _ => ?_)
    | simp only [q116_0, q116_1, q116_4, q116_5, q116_8, q116_9, q116_10, q116_13, q116_14, q116_15, q116_18, q116_19, q116_20, q116_23, q116_24, q116_27, q116_30, q116_31, q116_33, q116_36, q116_37, q116_38, q116_41, q116_42, q116_45, q116_46, k_0 hS, z_C hS, r_0_4 hS, k_14 hS, z_14, sp_askAt hS gA, sp_mayMove hS, as_nil, as_i, as_r, Nat.reduceAdd, Nat.reduceLeDiff, z_eq0, z_eq1, z_or, z_em, Classical.not_not, not_false_eq_true, not_true_eq_false, true_and, and_true, false_and, and_false, and_self, true_implies, false_implies, implies_true, Option.toList_some, Option.toList_none, List.cons_append, List.nil_append, Nat.add_eq_zero_iff, a_nl_i, a_nl_r, a_nl_n, true_or, or_true, eq_self, a_isRA_22, a_isRA_24, a_isRA_32, a_isA_20, ok_4, ok_5, ok_6, ok_7, ok_9, ok_20, ok_21, ok_30, ok_50, ok_180, ok_192, ok_200]
  all_goals ((try clear hq); (try clear hA); (try clear hB); (try clear hB2); (try clear hZ); (try clear hH); (try clear hT); grind [ui_ap])
theorem cu_danger (hH : cH C c (n + 1) t K L I R) {q v : Int32} (hP : ∀ v n' t' K' L' J R', cZ C (c + 4) (n + 1) K L I R (n' + 1) t' K' L' J R' → P (some (.int v)) (n' + 1, t', K', L', J, R')) : a_does (d + 70) 146 [a_rf C, .int q, .int v] (n + 1, t, K, L, I, R) P := by
  have hT := hH.1
  have hS := hT.s
  have hZ := cZ_refl hH
  have hq : ∀ v J R1, cZ C c (n + 1) K L I R (n + 1) t K L J R1 → P (some (.int v)) (n + 1, t, K, L, J, R1) := fun v J R1 z => hP v n t K L J R1 (cZ_le z (by omega))
  have hA : ∀ v n' t' K' L' J R', cZ C c (n + 1) K L I R (n' + 1) t' K' L' J R' → P (some (.int v)) (n' + 1, t', K', L', J, R') := fun v n' t' K' L' J R' z => hP v n' t' K' L' J R' (cZ_le z (by omega))
  have hB : ∀ v n' t' K' L' J R', cZ C (c + 1) (n + 1) K L I R (n' + 1) t' K' L' J R' → P (some (.int v)) (n' + 1, t', K', L', J, R') := fun v n' t' K' L' J R' z => hP v n' t' K' L' J R' (cZ_le z (by omega))
  have hB2 : ∀ v n' t' K' L' J R', cZ C (c + 1 + 1) (n + 1) K L I R (n' + 1) t' K' L' J R' → P (some (.int v)) (n' + 1, t', K', L', J, R') := fun v n' t' K' L' J R' z => hP v n' t' K' L' J R' (cZ_le z (by omega))
  clear hP
  have gA := hT.g_asksR
  have gB := hT.g_benchesR
  have gX := hT.g_textsR
  have gi := gA q.toNatClampNeg
  have ga := fun h => hT.g_ask (R (C + 15) q.toNatClampNeg) (gi.resolve_left h)
  have hw : ¬ R (C + 15) q.toNatClampNeg = 0 → cZ C c (n + 1) K L I R (n + 1) t K L (a_ui I (R (C + 15) q.toNatClampNeg) 9 v) R := fun h => cZ_G hZ (dG_askf (dG_refl hT) (ga h).1 (gi.resolve_left h) (by decide))
  rw [a_enter1 (M := a_m146) rfl (a_cat_rf (a_cat_int (a_cat_int a_cat_nil))) (show 3 ≤ 4 by decide)]
  show a_at _ (a_xm a_m146) 0 [some (a_rf C), some (.int q), some (.int v), none] [] _ _
  repeat' first
    | with_reducible apply And.intro
    | with_reducible assumption
    | with_reducible intro _
    | exact hq _ _ _ hZ
    | exact hq _ _ _ (by assumption)
    | exact hq _ _ _ (cZ_C hZ (by assumption))
    | exact hq _ _ _ (cZ_G hZ (by assumption))
    | exact hq _ _ _ (cZ_L hZ (by assumption))
    | refine ck_refuse hZ (fun _ _ => ?_)
    | refine ck_refuse (cZ_C hZ (by assumption)) (fun _ _ => ?_)
    | exact dC_T (by assumption)
    | exact dG_refl hT
    | exact hA _ _ _ _ _ _ _ (cZ_Q (hw (by assumption)) (by assumption) (by assumption))
    | refine ck_clearUnfit (gi.resolve_left (by assumption)) (hw (by assumption)).2.1 (fun _ _ _ _ _ _ _ _ _ => ?_)
    | simp only [q146_0, q146_1, q146_4, q146_5, q146_8, q146_9, q146_10, q146_13, q146_14, q146_15, q146_18, q146_19, q146_20, q146_23, q146_24, q146_26, q146_29, q146_30, q146_31, q146_33, q146_36, q146_37, q146_39, q146_42, q146_43, q146_44, q146_45, q146_48, q146_49, q146_52, q146_53, q146_56, q146_59, q146_60, q146_63, q146_64, k_0 hS, z_C hS, r_0_4 hS, k_14 hS, z_14, sp_askAt hS gA, as_nil, as_i, as_r, Nat.reduceAdd, Nat.reduceLeDiff, z_eq0, z_eq1, z_or, z_em, Classical.not_not, not_false_eq_true, not_true_eq_false, true_and, and_true, false_and, and_false, and_self, true_implies, false_implies, implies_true, Option.toList_some, Option.toList_none, List.cons_append, List.nil_append, Nat.add_eq_zero_iff, a_nl_i, a_nl_r, a_nl_n, true_or, or_true, eq_self, a_isRA_22, a_isRA_24, a_isRA_32, a_isA_20, ok_4, ok_5, ok_6, ok_7, ok_9, ok_20, ok_21, ok_30, ok_50, ok_180, ok_192, ok_200]
  all_goals ((try clear hq); (try clear hA); (try clear hB); (try clear hB2); (try clear hZ); (try clear hH); (try clear hT); grind [ui_ap])
theorem cu_again (hH : cH C c (n + 1) t K L I R) (hP : ∀ v n' t' K' L' J R', cZ C (c + 4) (n + 1) K L I R (n' + 1) t' K' L' J R' → P (some (.int v)) (n' + 1, t', K', L', J, R')) : a_does (d + 70) 143 [a_rf C] (n + 1, t, K, L, I, R) P := by
  have hT := hH.1
  have hS := hT.s
  have hZ := cZ_refl hH
  have hq : ∀ v J R1, cZ C c (n + 1) K L I R (n + 1) t K L J R1 → P (some (.int v)) (n + 1, t, K, L, J, R1) := fun v J R1 z => hP v n t K L J R1 (cZ_le z (by omega))
  have hA : ∀ v n' t' K' L' J R', cZ C c (n + 1) K L I R (n' + 1) t' K' L' J R' → P (some (.int v)) (n' + 1, t', K', L', J, R') := fun v n' t' K' L' J R' z => hP v n' t' K' L' J R' (cZ_le z (by omega))
  have hB : ∀ v n' t' K' L' J R', cZ C (c + 1) (n + 1) K L I R (n' + 1) t' K' L' J R' → P (some (.int v)) (n' + 1, t', K', L', J, R') := fun v n' t' K' L' J R' z => hP v n' t' K' L' J R' (cZ_le z (by omega))
  have hB2 : ∀ v n' t' K' L' J R', cZ C (c + 1 + 1) (n + 1) K L I R (n' + 1) t' K' L' J R' → P (some (.int v)) (n' + 1, t', K', L', J, R') := fun v n' t' K' L' J R' z => hP v n' t' K' L' J R' (cZ_le z (by omega))
  clear hP
  rw [a_enter1 (M := a_m143) rfl (a_cat_rf a_cat_nil) (show 1 ≤ 1 by decide)]
  show a_at _ (a_xm a_m143) 0 [some (a_rf C)] [] _ _
  simp only [q143_0, q143_1, q143_4, k_0 hS, z_C hS, r_0_5 hS, k_22 hS, z_22, as_nil, as_i, as_r, Nat.reduceAdd, Nat.reduceLeDiff, z_eq0, z_eq1, z_or, z_em, Classical.not_not, not_false_eq_true, not_true_eq_false, true_and, and_true, false_and, and_false, and_self, true_implies, false_implies, implies_true, Option.toList_some, Option.toList_none, List.cons_append, List.nil_append, Nat.add_eq_zero_iff, a_nl_i, a_nl_r, a_nl_n, true_or, or_true, eq_self, a_isRA_22, a_isRA_24, a_isRA_32, a_isA_20, ok_4, ok_5, ok_6, ok_7, ok_9, ok_20, ok_21, ok_30, ok_50, ok_180, ok_192, ok_200]
  refine ck_planAgain hZ (fun v n' t' K' L' J R' z => ?_)
  simp only [q143_7, as_nil, as_i, as_r, Nat.reduceAdd, Nat.reduceLeDiff, z_eq0, z_eq1, z_or, z_em, Classical.not_not, not_false_eq_true, not_true_eq_false, true_and, and_true, false_and, and_false, and_self, true_implies, false_implies, implies_true, Option.toList_some, Option.toList_none, List.cons_append, List.nil_append, Nat.add_eq_zero_iff, a_nl_i, a_nl_r, a_nl_n, true_or, or_true, eq_self, a_isRA_22, a_isRA_24, a_isRA_32, a_isA_20, ok_4, ok_5, ok_6, ok_7, ok_9, ok_20, ok_21, ok_30, ok_50, ok_180, ok_192, ok_200]
  exact hA v n' t' K' L' J R' z
theorem cu_swap (hH : cH C c (n + 1) t K L I R) (hP : ∀ v n' t' K' L' J R', cZ C (c + 4) (n + 1) K L I R (n' + 1) t' K' L' J R' → P (some (.int v)) (n' + 1, t', K', L', J, R')) : a_does (d + 70) 158 [a_rf C] (n + 1, t, K, L, I, R) P := by
  have hT := hH.1
  have hS := hT.s
  have hZ := cZ_refl hH
  have hq : ∀ v J R1, cZ C c (n + 1) K L I R (n + 1) t K L J R1 → P (some (.int v)) (n + 1, t, K, L, J, R1) := fun v J R1 z => hP v n t K L J R1 (cZ_le z (by omega))
  have hA : ∀ v n' t' K' L' J R', cZ C c (n + 1) K L I R (n' + 1) t' K' L' J R' → P (some (.int v)) (n' + 1, t', K', L', J, R') := fun v n' t' K' L' J R' z => hP v n' t' K' L' J R' (cZ_le z (by omega))
  have hB : ∀ v n' t' K' L' J R', cZ C (c + 1) (n + 1) K L I R (n' + 1) t' K' L' J R' → P (some (.int v)) (n' + 1, t', K', L', J, R') := fun v n' t' K' L' J R' z => hP v n' t' K' L' J R' (cZ_le z (by omega))
  have hB2 : ∀ v n' t' K' L' J R', cZ C (c + 1 + 1) (n + 1) K L I R (n' + 1) t' K' L' J R' → P (some (.int v)) (n' + 1, t', K', L', J, R') := fun v n' t' K' L' J R' z => hP v n' t' K' L' J R' (cZ_le z (by omega))
  clear hP
  rw [a_enter1 (M := a_m158) rfl (a_cat_rf a_cat_nil) (show 1 ≤ 1 by decide)]
  show a_at _ (a_xm a_m158) 0 [some (a_rf C)] [] _ _
  simp only [q158_0, q158_1, q158_4, k_0 hS, z_C hS, r_0_7 hS, k_35 hS, z_35, as_nil, as_i, as_r, Nat.reduceAdd, Nat.reduceLeDiff, z_eq0, z_eq1, z_or, z_em, Classical.not_not, not_false_eq_true, not_true_eq_false, true_and, and_true, false_and, and_false, and_self, true_implies, false_implies, implies_true, Option.toList_some, Option.toList_none, List.cons_append, List.nil_append, Nat.add_eq_zero_iff, a_nl_i, a_nl_r, a_nl_n, true_or, or_true, eq_self, a_isRA_22, a_isRA_24, a_isRA_32, a_isA_20, ok_4, ok_5, ok_6, ok_7, ok_9, ok_20, ok_21, ok_30, ok_50, ok_180, ok_192, ok_200]
  refine ck_find hZ (fun v J R2 z e1 e2 e3 e4 => ?_)
  have hS := z.2.1.1.s
  simp only [q158_7, q158_10, q158_11, q158_13, q158_16, q158_17, q158_18, q158_21, k_0 hS, z_C hS, r_0_7 hS, k_35 hS, z_35, as_nil, as_i, as_r, Nat.reduceAdd, Nat.reduceLeDiff, z_eq0, z_eq1, z_or, z_em, Classical.not_not, not_false_eq_true, not_true_eq_false, true_and, and_true, false_and, and_false, and_self, true_implies, false_implies, implies_true, Option.toList_some, Option.toList_none, List.cons_append, List.nil_append, Nat.add_eq_zero_iff, a_nl_i, a_nl_r, a_nl_n, true_or, or_true, eq_self, a_isRA_22, a_isRA_24, a_isRA_32, a_isA_20, ok_4, ok_5, ok_6, ok_7, ok_9, ok_20, ok_21, ok_30, ok_50, ok_180, ok_192, ok_200]
  refine ⟨fun h => ?_, fun h => ?_⟩
  all_goals first
    | (refine ck_refuse z (fun J2 z2 => ?_)
       simp only [q158_16, as_nil, as_i, as_r, Nat.reduceAdd, Nat.reduceLeDiff, z_eq0, z_eq1, z_or, z_em, Classical.not_not, not_false_eq_true, not_true_eq_false, true_and, and_true, false_and, and_false, and_self, true_implies, false_implies, implies_true, Option.toList_some, Option.toList_none, List.cons_append, List.nil_append, Nat.add_eq_zero_iff, a_nl_i, a_nl_r, a_nl_n, true_or, or_true, eq_self, a_isRA_22, a_isRA_24, a_isRA_32, a_isA_20, ok_4, ok_5, ok_6, ok_7, ok_9, ok_20, ok_21, ok_30, ok_50, ok_180, ok_192, ok_200]
       exact hq _ _ _ z2)
    | (have hv := e2.resolve_left h
       refine ck_turn (m := v) (Int32.le_trans (by decide) hv.1) hv.2 e3 e4 e1 z (fun v2 n' t' K' L' J' R' z2 => ?_)
       simp only [q158_24, as_nil, as_i, as_r, Nat.reduceAdd, Nat.reduceLeDiff, z_eq0, z_eq1, z_or, z_em, Classical.not_not, not_false_eq_true, not_true_eq_false, true_and, and_true, false_and, and_false, and_self, true_implies, false_implies, implies_true, Option.toList_some, Option.toList_none, List.cons_append, List.nil_append, Nat.add_eq_zero_iff, a_nl_i, a_nl_r, a_nl_n, true_or, or_true, eq_self, a_isRA_22, a_isRA_24, a_isRA_32, a_isA_20, ok_4, ok_5, ok_6, ok_7, ok_9, ok_20, ok_21, ok_30, ok_50, ok_180, ok_192, ok_200]
       exact hA _ _ _ _ _ _ _ z2)
theorem cu_draft (hH : cH C c (n + 1) t K L I R) {g l m w : Int32} (hP : ∀ v n' t' K' L' J R', cZ C (c + 4) (n + 1) K L I R (n' + 1) t' K' L' J R' → P (some (.int v)) (n' + 1, t', K', L', J, R')) : a_does (d + 70) 36 [a_rf C, .int g, .int l, .int m, .int w] (n + 1, t, K, L, I, R) P := by
  have hT := hH.1
  have hS := hT.s
  have hZ := cZ_refl hH
  have hq : ∀ v J R1, cZ C c (n + 1) K L I R (n + 1) t K L J R1 → P (some (.int v)) (n + 1, t, K, L, J, R1) := fun v J R1 z => hP v n t K L J R1 (cZ_le z (by omega))
  have hA : ∀ v n' t' K' L' J R', cZ C c (n + 1) K L I R (n' + 1) t' K' L' J R' → P (some (.int v)) (n' + 1, t', K', L', J, R') := fun v n' t' K' L' J R' z => hP v n' t' K' L' J R' (cZ_le z (by omega))
  have hB : ∀ v n' t' K' L' J R', cZ C (c + 1) (n + 1) K L I R (n' + 1) t' K' L' J R' → P (some (.int v)) (n' + 1, t', K', L', J, R') := fun v n' t' K' L' J R' z => hP v n' t' K' L' J R' (cZ_le z (by omega))
  have hB2 : ∀ v n' t' K' L' J R', cZ C (c + 1 + 1) (n + 1) K L I R (n' + 1) t' K' L' J R' → P (some (.int v)) (n' + 1, t', K', L', J, R') := fun v n' t' K' L' J R' z => hP v n' t' K' L' J R' (cZ_le z (by omega))
  clear hP
  have f0 : (n + 1 = 0) = False := eq_false (by omega)
  have hC := hH.2.2.1
  have nC : (C = n + 1) = False := eq_false (by omega)
  have hgo : (1 ≤ m ∧ m ≤ 4) → a_at (d + 69) (a_xm a_m36) 61 [some (a_rf C), some (.int g), some (.int l), some (.int m), some (.int w)] [] (n + 1, t, K, L, I, R) P := fun hm => by
    simp only [q36_61, q36_62, q36_65, q36_66, q36_67, q36_68, q36_69, q36_71, as_nil, as_i, as_r, Nat.reduceAdd, Nat.reduceLeDiff, z_eq0, z_eq1, z_or, z_em, Classical.not_not, not_false_eq_true, not_true_eq_false, true_and, and_true, false_and, and_false, and_self, true_implies, false_implies, implies_true, Option.toList_some, Option.toList_none, List.cons_append, List.nil_append, Nat.add_eq_zero_iff, a_nl_i, a_nl_r, a_nl_n, true_or, or_true, eq_self, a_isRA_22, a_isRA_24, a_isRA_32, a_isA_20, ok_4, ok_5, ok_6, ok_7, ok_9, ok_20, ok_21, ok_30, ok_50, ok_180, ok_192, ok_200, f0]
    refine ck_Ainit hZ hm (fun t' K' L' J R' z k1 k2 => ?_)
    have hS := z.2.1.1.s
    simp only [q36_74, q36_77, q36_78, k_0 hS, z_C hS, as_nil, as_i, as_r, Nat.reduceAdd, Nat.reduceLeDiff, z_eq0, z_eq1, z_or, z_em, Classical.not_not, not_false_eq_true, not_true_eq_false, true_and, and_true, false_and, and_false, and_self, true_implies, false_implies, implies_true, Option.toList_some, Option.toList_none, List.cons_append, List.nil_append, Nat.add_eq_zero_iff, a_nl_i, a_nl_r, a_nl_n, true_or, or_true, eq_self, a_isRA_22, a_isRA_24, a_isRA_32, a_isA_20, ok_4, ok_5, ok_6, ok_7, ok_9, ok_20, ok_21, ok_30, ok_50, ok_180, ok_192, ok_200, ui_ap, cc_ne, cc_n0, cc_0n, Nat.reduceEqDiff, reduceIte, if_true, if_false]
    exact hB _ _ _ _ _ _ _ (cZ_Rd z (Or.inr k1))
  rw [a_enter1 (M := a_m36) rfl (a_cat_rf (a_cat_int (a_cat_int (a_cat_int (a_cat_int a_cat_nil))))) (show 5 ≤ 5 by decide)]
  show a_at _ (a_xm a_m36) 0 [some (a_rf C), some (.int g), some (.int l), some (.int m), some (.int w)] [] _ _
  repeat' first
    | with_reducible apply And.intro
    | with_reducible assumption
    | with_reducible intro _
    | exact hq _ _ _ hZ
    | exact hq _ _ _ (by assumption)
    | exact hq _ _ _ (cZ_C hZ (by assumption))
    | exact hq _ _ _ (cZ_G hZ (by assumption))
    | exact hq _ _ _ (cZ_L hZ (by assumption))
    | refine ck_refuse hZ (fun _ _ => ?_)
    | refine ck_refuse (cZ_C hZ (by assumption)) (fun _ _ => ?_)
    | exact dC_T (by assumption)
    | exact dG_refl hT
    | with_reducible apply hgo
    | simp only [q36_0, q36_1, q36_4, q36_5, q36_7, q36_10, q36_11, q36_14, q36_15, q36_16, q36_19, q36_20, q36_21, q36_24, q36_25, q36_26, q36_27, q36_30, q36_32, q36_35, q36_36, q36_38, q36_41, q36_42, q36_43, q36_44, q36_47, q36_49, q36_51, q36_54, q36_55, q36_57, q36_60, k_0 hS, z_C hS, as_nil, as_i, as_r, Nat.reduceAdd, Nat.reduceLeDiff, z_eq0, z_eq1, z_or, z_em, Classical.not_not, not_false_eq_true, not_true_eq_false, true_and, and_true, false_and, and_false, and_self, true_implies, false_implies, implies_true, Option.toList_some, Option.toList_none, List.cons_append, List.nil_append, Nat.add_eq_zero_iff, a_nl_i, a_nl_r, a_nl_n, true_or, or_true, eq_self, a_isRA_22, a_isRA_24, a_isRA_32, a_isA_20, ok_4, ok_5, ok_6, ok_7, ok_9, ok_20, ok_21, ok_30, ok_50, ok_180, ok_192, ok_200]
  all_goals ((try clear hgo); (try clear hq); (try clear hA); (try clear hB); (try clear hB2); (try clear hZ); (try clear hH); (try clear hT); grind [ui_ap])
theorem ck_addAsk2 {a : Nat} (ha : K a = 1) (hZ : cZ C c n0 K0 L0 I0 R0 n t K L I R) (hP : ∀ v J R', cZ C c n0 K0 L0 I0 R0 n t K L J R' → P (some (.int v)) (n, t, K, L, J, R')) : a_does (d + 1) 43 [a_rf (C + 14), a_rf a] (n, t, K, L, I, R) P := by
  by_cases hc : 30 ≤ I (C + 14) 4
  · have hS := hZ.2.1.1.s
    rw [a_enter1 (M := a_m43) rfl (a_cat_rf (a_cat_rf a_cat_nil)) (show 2 ≤ 2 by decide)]
    show a_at _ (a_xm a_m43) 0 [some (a_rf (C + 14)), some (a_rf a)] [] _ _
    have hc2 : ¬ I (C + 14) 4 < 30 := Int32.not_lt.mpr hc
    have h0 := fun v => hP v I R hZ
    simp only [q43_0, q43_1, q43_4, q43_6, q43_9, q43_11, k_14 hS, z_14, as_nil, as_i, as_r, Nat.reduceAdd, Nat.reduceLeDiff, z_eq0, z_eq1, z_or, z_em, Classical.not_not, not_false_eq_true, not_true_eq_false, true_and, and_true, false_and, and_false, and_self, true_implies, false_implies, implies_true, Option.toList_some, Option.toList_none, List.cons_append, List.nil_append, Nat.add_eq_zero_iff, a_nl_i, a_nl_r, a_nl_n, true_or, or_true, eq_self, a_isRA_22, a_isRA_24, a_isRA_32, a_isA_20, ok_4, ok_5, ok_6, ok_7, ok_9, ok_20, ok_21, ok_30, ok_50, ok_180, ok_192, ok_200, hc, hc2]
    first
      | exact h0 _
      | exact ⟨fun h => absurd h hc2, fun _ => h0 _⟩
  · exact ck_addAsk ha hZ hc hP
theorem cu_ask (hH : cH C c (n + 1) t K L I R) {k bs ms g dg x y : Int32} (hP : ∀ v n' t' K' L' J R', cZ C (c + 4) (n + 1) K L I R (n' + 1) t' K' L' J R' → P (some (.int v)) (n' + 1, t', K', L', J, R')) : a_does (d + 70) 38 [a_rf C, .int k, .int bs, .int ms, .int g, .int dg, .int x, .int y] (n + 1, t, K, L, I, R) P := by
  have hT := hH.1
  have hS := hT.s
  have hZ := cZ_refl hH
  have hq : ∀ v J R1, cZ C c (n + 1) K L I R (n + 1) t K L J R1 → P (some (.int v)) (n + 1, t, K, L, J, R1) := fun v J R1 z => hP v n t K L J R1 (cZ_le z (by omega))
  have hA : ∀ v n' t' K' L' J R', cZ C c (n + 1) K L I R (n' + 1) t' K' L' J R' → P (some (.int v)) (n' + 1, t', K', L', J, R') := fun v n' t' K' L' J R' z => hP v n' t' K' L' J R' (cZ_le z (by omega))
  have hB : ∀ v n' t' K' L' J R', cZ C (c + 1) (n + 1) K L I R (n' + 1) t' K' L' J R' → P (some (.int v)) (n' + 1, t', K', L', J, R') := fun v n' t' K' L' J R' z => hP v n' t' K' L' J R' (cZ_le z (by omega))
  have hB2 : ∀ v n' t' K' L' J R', cZ C (c + 1 + 1) (n + 1) K L I R (n' + 1) t' K' L' J R' → P (some (.int v)) (n' + 1, t', K', L', J, R') := fun v n' t' K' L' J R' z => hP v n' t' K' L' J R' (cZ_le z (by omega))
  clear hP
  have gA := hT.g_asksR
  have gB := hT.g_benchesR
  have gX := hT.g_textsR
  have gd := hT.g_draft
  have gi := gA x.toNatClampNeg
  have hgo : ¬ R C 11 = 0 → ∀ u, a_at (d + 69) (a_xm a_m38) 152 [some (a_rf C), some (.int k), some (.int bs), some (.int ms), some (.int g), some (.int dg), some (.int x), some (.int y), u] [] (n + 1, t, K, L, I, R) P := fun h0 u => by
    have ha := gd.resolve_left h0
    have a1 := (hT.g_ask _ ha).1
    simp only [q38_152, q38_153, q38_156, q38_158, q38_160, q38_161, q38_162, q38_164, q38_166, k_0 hS, z_C hS, as_nil, as_i, as_r, Nat.reduceAdd, Nat.reduceLeDiff, z_eq0, z_eq1, z_or, z_em, Classical.not_not, not_false_eq_true, not_true_eq_false, true_and, and_true, false_and, and_false, and_self, true_implies, false_implies, implies_true, Option.toList_some, Option.toList_none, List.cons_append, List.nil_append, Nat.add_eq_zero_iff, a_nl_i, a_nl_r, a_nl_n, true_or, or_true, eq_self, a_isRA_22, a_isRA_24, a_isRA_32, a_isA_20, ok_4, ok_5, ok_6, ok_7, ok_9, ok_20, ok_21, ok_30, ok_50, ok_180, ok_192, ok_200, ha, h0]
    refine ck_want ha (dG_refl hT) (fun J1 g1 => ?_)
    simp only [q38_169, q38_171, q38_172, q38_174, q38_176, k_0 hS, z_C hS, as_nil, as_i, as_r, Nat.reduceAdd, Nat.reduceLeDiff, z_eq0, z_eq1, z_or, z_em, Classical.not_not, not_false_eq_true, not_true_eq_false, true_and, and_true, false_and, and_false, and_self, true_implies, false_implies, implies_true, Option.toList_some, Option.toList_none, List.cons_append, List.nil_append, Nat.add_eq_zero_iff, a_nl_i, a_nl_r, a_nl_n, true_or, or_true, eq_self, a_isRA_22, a_isRA_24, a_isRA_32, a_isA_20, ok_4, ok_5, ok_6, ok_7, ok_9, ok_20, ok_21, ok_30, ok_50, ok_180, ok_192, ok_200, ha, h0]
    refine ck_bind ha g1 (fun J2 g2 => ?_)
    have z2 := cZ_Rd (v := 0) (cZ_G hZ g2) (Or.inl rfl)
    have e0 : a_rf 0 = .null := rfl
    simp only [q38_179, q38_180, q38_181, q38_184, q38_185, q38_188, q38_190, k_0 hS, z_C hS, r_0_4 hS, k_14 hS, z_14, as_nil, as_i, as_r, Nat.reduceAdd, Nat.reduceLeDiff, z_eq0, z_eq1, z_or, z_em, Classical.not_not, not_false_eq_true, not_true_eq_false, true_and, and_true, false_and, and_false, and_self, true_implies, false_implies, implies_true, Option.toList_some, Option.toList_none, List.cons_append, List.nil_append, Nat.add_eq_zero_iff, a_nl_i, a_nl_r, a_nl_n, true_or, or_true, eq_self, a_isRA_22, a_isRA_24, a_isRA_32, a_isA_20, ok_4, ok_5, ok_6, ok_7, ok_9, ok_20, ok_21, ok_30, ok_50, ok_180, ok_192, ok_200, ur_ap, cc_ne, cc_n0, cc_0n, Nat.reduceEqDiff, if_false, ha, h0]
    refine ck_addAsk2 ha z2 (fun v J4 R4 z5 => ?_)
    simp only [q38_193, as_nil, as_i, as_r, Nat.reduceAdd, Nat.reduceLeDiff, z_eq0, z_eq1, z_or, z_em, Classical.not_not, not_false_eq_true, not_true_eq_false, true_and, and_true, false_and, and_false, and_self, true_implies, false_implies, implies_true, Option.toList_some, Option.toList_none, List.cons_append, List.nil_append, Nat.add_eq_zero_iff, a_nl_i, a_nl_r, a_nl_n, true_or, or_true, eq_self, a_isRA_22, a_isRA_24, a_isRA_32, a_isA_20, ok_4, ok_5, ok_6, ok_7, ok_9, ok_20, ok_21, ok_30, ok_50, ok_180, ok_192, ok_200]
    exact hq _ _ _ z5
  rw [a_enter1 (M := a_m38) rfl (a_cat_rf (a_cat_int (a_cat_int (a_cat_int (a_cat_int (a_cat_int (a_cat_int (a_cat_int a_cat_nil)))))))) (show 8 ≤ 9 by decide)]
  show a_at _ (a_xm a_m38) 0 [some (a_rf C), some (.int k), some (.int bs), some (.int ms), some (.int g), some (.int dg), some (.int x), some (.int y), none] [] _ _
  repeat' first
    | with_reducible apply And.intro
    | with_reducible assumption
    | with_reducible intro _
    | exact hq _ _ _ hZ
    | exact hq _ _ _ (by assumption)
    | exact hq _ _ _ (cZ_C hZ (by assumption))
    | exact hq _ _ _ (cZ_G hZ (by assumption))
    | exact hq _ _ _ (cZ_L hZ (by assumption))
    | refine ck_refuse hZ (fun _ _ => ?_)
    | refine ck_refuse (cZ_C hZ (by assumption)) (fun _ _ => ?_)
    | exact dC_T (by assumption)
    | exact dG_refl hT
    | with_reducible apply ck_daysBelow
    | with_reducible apply ck_daysAbove
    | with_reducible apply hgo
    | simp only [q38_0, q38_1, q38_4, q38_7, q38_8, q38_10, q38_13, q38_14, q38_15, q38_18, q38_19, q38_20, q38_23, q38_24, q38_26, q38_29, q38_30, q38_31, q38_34, q38_35, q38_38, q38_40, q38_43, q38_44, q38_46, q38_48, q38_51, q38_54, q38_55, q38_57, q38_60, q38_61, q38_62, q38_64, q38_67, q38_68, q38_70, q38_73, q38_75, q38_77, q38_80, q38_81, q38_83, q38_85, q38_88, q38_91, q38_92, q38_95, q38_98, q38_100, q38_103, q38_104, q38_106, q38_109, q38_110, q38_112, q38_113, q38_116, q38_118, q38_120, q38_123, q38_124, q38_125, q38_128, q38_129, q38_130, q38_131, q38_134, q38_135, q38_138, q38_140, q38_143, q38_146, q38_147, q38_148, q38_151, k_0 hS, z_C hS, r_0_4 hS, k_14 hS, z_14, sp_askAt hS gA, as_nil, as_i, as_r, Nat.reduceAdd, Nat.reduceLeDiff, z_eq0, z_eq1, z_or, z_em, Classical.not_not, not_false_eq_true, not_true_eq_false, true_and, and_true, false_and, and_false, and_self, true_implies, false_implies, implies_true, Option.toList_some, Option.toList_none, List.cons_append, List.nil_append, Nat.add_eq_zero_iff, a_nl_i, a_nl_r, a_nl_n, true_or, or_true, eq_self, a_isRA_22, a_isRA_24, a_isRA_32, a_isA_20, ok_4, ok_5, ok_6, ok_7, ok_9, ok_20, ok_21, ok_30, ok_50, ok_180, ok_192, ok_200]
  all_goals ((try clear hgo); (try clear hq); (try clear hA); (try clear hB); (try clear hB2); (try clear hZ); (try clear hH); (try clear hT); grind [ui_ap])
theorem cu_owe (hH : cH C c (n + 1) t K L I R) {q : Int32} (hP : ∀ v n' t' K' L' J R', cZ C (c + 4) (n + 1) K L I R (n' + 1) t' K' L' J R' → P (some (.int v)) (n' + 1, t', K', L', J, R')) : a_does (d + 70) 141 [a_rf C, .int q] (n + 1, t, K, L, I, R) P := by
  have hT := hH.1
  have hS := hT.s
  have hZ := cZ_refl hH
  have hq : ∀ v J R1, cZ C c (n + 1) K L I R (n + 1) t K L J R1 → P (some (.int v)) (n + 1, t, K, L, J, R1) := fun v J R1 z => hP v n t K L J R1 (cZ_le z (by omega))
  have hA : ∀ v n' t' K' L' J R', cZ C c (n + 1) K L I R (n' + 1) t' K' L' J R' → P (some (.int v)) (n' + 1, t', K', L', J, R') := fun v n' t' K' L' J R' z => hP v n' t' K' L' J R' (cZ_le z (by omega))
  have hB : ∀ v n' t' K' L' J R', cZ C (c + 1) (n + 1) K L I R (n' + 1) t' K' L' J R' → P (some (.int v)) (n' + 1, t', K', L', J, R') := fun v n' t' K' L' J R' z => hP v n' t' K' L' J R' (cZ_le z (by omega))
  have hB2 : ∀ v n' t' K' L' J R', cZ C (c + 1 + 1) (n + 1) K L I R (n' + 1) t' K' L' J R' → P (some (.int v)) (n' + 1, t', K', L', J, R') := fun v n' t' K' L' J R' z => hP v n' t' K' L' J R' (cZ_le z (by omega))
  clear hP
  have gA := hT.g_asksR
  have gB := hT.g_benchesR
  have gX := hT.g_textsR
  have gi := gA q.toNatClampNeg
  have ga := fun h => hT.g_ask (R (C + 15) q.toNatClampNeg) (gi.resolve_left h)
  have hgo : ¬ R (C + 15) q.toNatClampNeg = 0 → ∀ J1, dC C K L R I J1 → ¬ hw C L R I (R (C + 15) q.toNatClampNeg) = 0 → a_at (d + 69) (a_xm a_m141) 74 [some (a_rf C), some (.int q), some (a_rf (R (C + 15) q.toNatClampNeg))] [] (n + 1, t, K, L, J1, R) P := fun h0 J1 j1 hv => by
    have ha := gi.resolve_left h0
    have a1 := (ga h0).1
    have hT1 := j1.1
    have z1 := cZ_C hZ j1
    have g2 : dG C K L R J1 (a_ui J1 (R (C + 15) q.toNatClampNeg) 16 1) := dG_askf (dG_refl hT1) a1 ha (by decide)
    have z2 := cZ_G z1 g2
    have e1 : hw C L R (a_ui J1 (R (C + 15) q.toNatClampNeg) 16 1) (R (C + 15) q.toNatClampNeg) = hw C L R I (R (C + 15) q.toNatClampNeg) := (hw_ui ha hT1).trans (hw_C j1 ha hT)
    have hr := hw_rng ha hT
    have hm : 1 ≤ hw C L R I (R (C + 15) q.toNatClampNeg) ∧ hw C L R I (R (C + 15) q.toNatClampNeg) ≤ 4 := by
      generalize hw C L R I (R (C + 15) q.toNatClampNeg) = w at hv hr
      clear hq hA hB hB2 hZ hH hT hT1 z1 z2 g2 ga gi gA gB gX e1
      grind
    simp only [q141_74, q141_75, q141_76, q141_79, q141_80, q141_83, q141_84, q141_85, q141_88, q141_89, k_0 hS, z_C hS, r_0_4 hS, k_14 hS, z_14, as_nil, as_i, as_r, Nat.reduceAdd, Nat.reduceLeDiff, z_eq0, z_eq1, z_or, z_em, Classical.not_not, not_false_eq_true, not_true_eq_false, true_and, and_true, false_and, and_false, and_self, true_implies, false_implies, implies_true, Option.toList_some, Option.toList_none, List.cons_append, List.nil_append, Nat.add_eq_zero_iff, a_nl_i, a_nl_r, a_nl_n, true_or, or_true, eq_self, a_isRA_22, a_isRA_24, a_isRA_32, a_isA_20, ok_4, ok_5, ok_6, ok_7, ok_9, ok_20, ok_21, ok_30, ok_50, ok_180, ok_192, ok_200, ui_ap, cc_ne, cc_n0, cc_0n, Nat.reduceEqDiff, reduceIte, if_true, if_false, ha, h0]
    refine ck_hallOwed ha g2.1 (fun J3 j3 => ?_)
    have z3 := cZ_C z2 j3
    rw [e1]
    simp only [q141_92, k_0 hS, z_C hS, as_nil, as_i, as_r, Nat.reduceAdd, Nat.reduceLeDiff, z_eq0, z_eq1, z_or, z_em, Classical.not_not, not_false_eq_true, not_true_eq_false, true_and, and_true, false_and, and_false, and_self, true_implies, false_implies, implies_true, Option.toList_some, Option.toList_none, List.cons_append, List.nil_append, Nat.add_eq_zero_iff, a_nl_i, a_nl_r, a_nl_n, true_or, or_true, eq_self, a_isRA_22, a_isRA_24, a_isRA_32, a_isA_20, ok_4, ok_5, ok_6, ok_7, ok_9, ok_20, ok_21, ok_30, ok_50, ok_180, ok_192, ok_200, ha, h0]
    refine ck_owedOne ha z3 hm (fun t' K' L' J' R' z4 k1 k2 => ?_)
    have hS := z4.2.1.1.s
    simp only [q141_95, k_0 hS, z_C hS, as_nil, as_i, as_r, Nat.reduceAdd, Nat.reduceLeDiff, z_eq0, z_eq1, z_or, z_em, Classical.not_not, not_false_eq_true, not_true_eq_false, true_and, and_true, false_and, and_false, and_self, true_implies, false_implies, implies_true, Option.toList_some, Option.toList_none, List.cons_append, List.nil_append, Nat.add_eq_zero_iff, a_nl_i, a_nl_r, a_nl_n, true_or, or_true, eq_self, a_isRA_22, a_isRA_24, a_isRA_32, a_isA_20, ok_4, ok_5, ok_6, ok_7, ok_9, ok_20, ok_21, ok_30, ok_50, ok_180, ok_192, ok_200]
    refine ⟨k_14 hS, ck_addAsk2 k1 z4 (fun v J4 R4 z5 => ?_)⟩
    simp only [q141_98, as_nil, as_i, as_r, Nat.reduceAdd, Nat.reduceLeDiff, z_eq0, z_eq1, z_or, z_em, Classical.not_not, not_false_eq_true, not_true_eq_false, true_and, and_true, false_and, and_false, and_self, true_implies, false_implies, implies_true, Option.toList_some, Option.toList_none, List.cons_append, List.nil_append, Nat.add_eq_zero_iff, a_nl_i, a_nl_r, a_nl_n, true_or, or_true, eq_self, a_isRA_22, a_isRA_24, a_isRA_32, a_isA_20, ok_4, ok_5, ok_6, ok_7, ok_9, ok_20, ok_21, ok_30, ok_50, ok_180, ok_192, ok_200]
    exact hB _ _ _ _ _ _ _ z5
  rw [a_enter1 (M := a_m141) rfl (a_cat_rf (a_cat_int a_cat_nil)) (show 2 ≤ 3 by decide)]
  show a_at _ (a_xm a_m141) 0 [some (a_rf C), some (.int q), none] [] _ _
  repeat' first
    | with_reducible apply And.intro
    | with_reducible assumption
    | with_reducible intro _
    | exact hq _ _ _ hZ
    | exact hq _ _ _ (by assumption)
    | exact hq _ _ _ (cZ_C hZ (by assumption))
    | exact hq _ _ _ (cZ_G hZ (by assumption))
    | exact hq _ _ _ (cZ_L hZ (by assumption))
    | refine ck_refuse hZ (fun _ _ => ?_)
    | refine ck_refuse (cZ_C hZ (by assumption)) (fun _ _ => ?_)
    | exact dC_T (by assumption)
    | exact dG_refl hT
    | refine ck_hallOwed (gi.resolve_left (by assumption)) hT (fun _ _ => ?_)
    | exact hgo (by assumption) _ (by assumption) (by assumption)
    | with_reducible apply ck_loss ?_ hT
    | simp only [q141_0, q141_1, q141_4, q141_5, q141_8, q141_9, q141_10, q141_13, q141_14, q141_15, q141_18, q141_19, q141_20, q141_23, q141_26, q141_27, q141_30, q141_31, q141_34, q141_37, q141_38, q141_41, q141_42, q141_45, q141_48, q141_49, q141_51, q141_54, q141_55, q141_56, q141_59, q141_62, q141_64, q141_67, q141_68, q141_70, q141_73, k_0 hS, z_C hS, r_0_4 hS, k_14 hS, z_14, sp_askAt hS gA, as_nil, as_i, as_r, Nat.reduceAdd, Nat.reduceLeDiff, z_eq0, z_eq1, z_or, z_em, Classical.not_not, not_false_eq_true, not_true_eq_false, true_and, and_true, false_and, and_false, and_self, true_implies, false_implies, implies_true, Option.toList_some, Option.toList_none, List.cons_append, List.nil_append, Nat.add_eq_zero_iff, a_nl_i, a_nl_r, a_nl_n, true_or, or_true, eq_self, a_isRA_22, a_isRA_24, a_isRA_32, a_isA_20, ok_4, ok_5, ok_6, ok_7, ok_9, ok_20, ok_21, ok_30, ok_50, ok_180, ok_192, ok_200]
  all_goals ((try clear hgo); (try clear hq); (try clear hA); (try clear hB); (try clear hB2); (try clear hZ); (try clear hH); (try clear hT); grind [ui_ap])
end KK
end

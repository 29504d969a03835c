/-! the class: rings -/
/-- what trying a ring may change -/
def dR (C : Nat) (K L : Nat → Nat) (R : Nat → Nat → Nat) (I J : Nat → Nat → Int32) : Prop := cT C K L J R ∧ ∀ x j, ¬ x = C + 9 → ¬ x = C + 10 → ¬ x = C + 39 → ¬ x = C + 40 → ¬ x = C + 41 → ¬ (C + 96 < x ∧ (K x = 20 ∨ (K x = 1 ∧ (j = 13 ∨ j = 14)))) → J x j = I x j
def rnP (C : Nat) (R : Nat → Nat → Nat) (m : Int32) : Prop := ∀ i : Int32, 0 ≤ i → i < m → ¬ R (C + 38) i.toNatClampNeg = 0
/-- the next one in a ring of m -/
def nxt (m i : Int32) : Int32 := i + 1 - (i + 1) / m * m
def frP (C : Nat) (J : Nat → Nat → Int32) (R : Nat → Nat → Nat) (m : Int32) : Prop := ∀ i : Int32, 0 ≤ i → i < m → fitP (J (R (C + 38) (nxt m i).toNatClampNeg) 14) (J (R (C + 38) (i).toNatClampNeg) 2)
section KG
variable {d n t C c n0 n' n'' t' : Nat} {K L K0 L0 K' L' K'' L'' : Nat → Nat} {I I0 J J0 J1 J2 : Nat → Nat → Int32} {R R0 R' R'' : Nat → Nat → Nat} {P : Option Value → AH → Prop}
theorem nxt_lt {m i : Int32} (hm : m ≤ 5) (h0 : 0 ≤ i) (h : i < m) : 0 ≤ nxt m i ∧ nxt m i < m := by
  have key : ∀ a b : Fin 6, b.val < a.val → 0 ≤ nxt (Int32.ofNat a.val) (Int32.ofNat b.val) ∧ nxt (Int32.ofNat a.val) (Int32.ofNat b.val) < Int32.ofNat a.val := by decide +kernel
  have c0 : (0 : Int32).toInt = 0 := rfl
  have c5 : (5 : Int32).toInt = 5 := rfl
  have e0 := Int32.le_iff_toInt_le.mp h0
  have e1 := Int32.lt_iff_toInt_lt.mp h
  have e2 := Int32.le_iff_toInt_le.mp hm
  have em : m = Int32.ofNat (⟨m.toInt.toNat, by omega⟩ : Fin 6).val := Int32.toInt_inj.mp (by
    rw [Int32.toInt_ofNat', show Int32.size = 4294967296 from rfl]
    simp only [Int.bmod_def]
    show m.toInt = _
    omega)
  have ei : i = Int32.ofNat (⟨i.toInt.toNat, by omega⟩ : Fin 6).val := Int32.toInt_inj.mp (by
    rw [Int32.toInt_ofNat', show Int32.size = 4294967296 from rfl]
    simp only [Int.bmod_def]
    show i.toInt = _
    omega)
  have := key ⟨m.toInt.toNat, by omega⟩ ⟨i.toInt.toNat, by omega⟩ (by show i.toInt.toNat < m.toInt.toNat; omega)
  rw [← em, ← ei] at this
  exact this
theorem ix4 {i c : Int32} (h : 0 ≤ i ∧ i < 5) (hc : 0 ≤ c ∧ c < 4) : 0 ≤ i * 4 + c ∧ i * 4 + c < 20 := by
  have c0 : (0 : Int32).toInt = 0 := rfl
  have c4 : (4 : Int32).toInt = 4 := rfl
  have c5 : (5 : Int32).toInt = 5 := rfl
  have c20 : (20 : Int32).toInt = 20 := rfl
  have e0 := Int32.le_iff_toInt_le.mp h.1
  have e1 := Int32.lt_iff_toInt_lt.mp h.2
  have e2 := Int32.le_iff_toInt_le.mp hc.1
  have e3 := Int32.lt_iff_toInt_lt.mp hc.2
  have em : (i * 4).toInt = i.toInt * 4 := by
    rw [Int32.toInt_mul, c4]
    simp only [Int.bmod_def]
    omega
  have e : (i * 4 + c).toInt = i.toInt * 4 + c.toInt := by rw [ti_add (by omega), em]
  exact ⟨by rw [Int32.le_iff_toInt_le]; omega, by rw [Int32.lt_iff_toInt_lt]; omega⟩
theorem sh_ok {s l j : Int32} (h : fitP s l) (hl : l ≤ 4) (h0 : 0 ≤ j) (h1 : j < l) : 0 ≤ s + j ∧ s + j < 200 := by
  obtain ⟨q1, q2, q3⟩ := h
  have c0 : (0 : Int32).toInt = 0 := rfl
  have c4 : (4 : Int32).toInt = 4 := rfl
  have c199 : (199 : Int32).toInt = 199 := rfl
  have c200 : (200 : Int32).toInt = 200 := rfl
  have e0 := Int32.le_iff_toInt_le.mp h0
  have e1 := Int32.lt_iff_toInt_lt.mp h1
  have e2 := Int32.le_iff_toInt_le.mp hl
  have e3 := Int32.le_iff_toInt_le.mp q1
  have e4 := Int32.le_iff_toInt_le.mp q2
  have e5 := Int32.le_iff_toInt_le.mp q3
  rw [ti_add (by omega)] at e5
  have e : (s + j).toInt = s.toInt + j.toInt := ti_add (by omega)
  exact ⟨by rw [Int32.le_iff_toInt_le]; omega, by rw [Int32.lt_iff_toInt_lt]; omega⟩
theorem dR_refl (h : cT C K L I R) : dR C K L R I I := ⟨h, fun _ _ _ _ _ _ _ _ => rfl⟩
theorem dR_L (h : dR C K L R I0 I) (h2 : dL C K L R I J) : dR C K L R I0 J := ⟨h2.1, fun x j p q r s u v => (h2.2 x j p q v).trans (h.2 x j p q r s u v)⟩
theorem dR_G (h : dR C K L R I J) : dG C K L R I J := ⟨h.1, fun x j p => h.2 x j (by unfold eD at p; omega) (by unfold eD at p; omega) (by unfold eD at p; omega) (by unfold eD at p; omega) (by unfold eD at p; omega) (by unfold eD at p; omega)⟩
theorem dR_sz (h : dR C K L R I J) : J (C + 35) 7 = I (C + 35) 7 := h.2 _ _ (by omega) (by omega) (by omega) (by omega) (by omega) (by omega)
theorem dL_39 (h : dL C K L R I J) (j : Nat) : J (C + 39) j = I (C + 39) j := h.2 _ _ (by omega) (by omega) (by omega)
theorem dL_40 (h : dL C K L R I J) (j : Nat) : J (C + 40) j = I (C + 40) j := h.2 _ _ (by omega) (by omega) (by omega)
theorem ck_memberAt {q : Int32} (hT : cT C K L I R) (hN : rnP C R (I (C + 35) 7)) (hP : ∀ v, P (some (.int v)) (n, t, K, L, I, R)) : a_does (d + 1) 157 [a_rf (C + 35), .int q] (n, t, K, L, I, R) P := by
  have hS := hT.s
  have g := hT.g_circle
  have gr := hT.g_ringR q.toNatClampNeg
  have hn := hN q
  rw [a_enter1 (M := a_m157) rfl (a_cat_rf (a_cat_int a_cat_nil)) (show 2 ≤ 2 by decide)]
  show a_at _ (a_xm a_m157) 0 [some (a_rf (C + 35)), some (.int q)] [] _ _
  repeat' first
    | with_reducible apply And.intro
    | with_reducible assumption
    | with_reducible intro _
    | with_reducible apply hP
    | simp only [q157_0, q157_1, q157_4, q157_5, q157_6, q157_9, q157_12, q157_13, q157_16, q157_17, q157_18, q157_21, q157_24, q157_26, k_35 hS, z_35, r_35_3 hS, k_38 hS, l_38 hS, z_38, as_nil, as_i, as_r, Nat.reduceAdd, Nat.reduceLeDiff, z_eq0, z_eq1, z_or, z_em, Classical.not_not, not_false_eq_true, not_true_eq_false, true_and, and_true, false_and, and_false, and_self, true_implies, false_implies, implies_true, Option.toList_some, Option.toList_none, List.cons_append, List.nil_append, Nat.add_eq_zero_iff, a_nl_i, a_nl_r, a_nl_n, true_or, or_true, eq_self, a_isRA_22, a_isRA_24, a_isRA_32, a_isA_20, ok_4, ok_5, ok_6, ok_7, ok_9, ok_20, ok_21, ok_30, ok_50, ok_180, ok_192, ok_200]
  all_goals ((try clear ih); (try clear hP); (try clear hl); (try clear hq); (try clear a3); grind [ui_ap])
theorem ck_circleTell {q r w : Int32} (hr : 0 ≤ r ∧ r < 30) (hw : w = 0 ∨ w = 1) (hG : dG C K L R I0 I) (hP : ∀ v J, dG C K L R I0 J → P (some (.int v)) (n, t, K, L, J, R)) : a_does (d + 1) 148 [a_rf (C + 35), .int r, .int q, .int w] (n, t, K, L, I, R) P := by
  have hT := hG.1
  have hS := hT.s
  have hw : ∀ k v, dG C K L R I0 (a_ui I (C + 36) k v) := fun k v => dG_36 hG
  rw [a_enter1 (M := a_m148) rfl (a_cat_rf (a_cat_int (a_cat_int (a_cat_int a_cat_nil)))) (show 4 ≤ 5 by decide)]
  show a_at _ (a_xm a_m148) 0 [some (a_rf (C + 35)), some (.int r), some (.int q), some (.int w), none] [] _ _
  repeat' first
    | with_reducible apply And.intro
    | with_reducible assumption
    | with_reducible intro _
    | with_reducible apply hP
    | with_reducible apply hw
    | simp only [q148_0, q148_1, q148_4, q148_5, q148_6, q148_7, q148_8, q148_9, q148_10, q148_13, q148_14, q148_17, q148_18, q148_20, q148_21, q148_24, q148_25, q148_28, q148_29, q148_30, q148_31, q148_32, q148_33, q148_34, q148_35, q148_36, q148_39, q148_40, q148_43, q148_44, q148_45, q148_46, q148_47, q148_48, q148_49, q148_50, q148_51, q148_52, q148_53, q148_55, q148_56, q148_59, q148_60, q148_63, q148_64, k_35 hS, z_35, r_35_1 hS, k_36 hS, l_36 hS, z_36, as_nil, as_i, as_r, Nat.reduceAdd, Nat.reduceLeDiff, z_eq0, z_eq1, z_or, z_em, Classical.not_not, not_false_eq_true, not_true_eq_false, true_and, and_true, false_and, and_false, and_self, true_implies, false_implies, implies_true, Option.toList_some, Option.toList_none, List.cons_append, List.nil_append, Nat.add_eq_zero_iff, a_nl_i, a_nl_r, a_nl_n, true_or, or_true, eq_self, a_isRA_22, a_isRA_24, a_isRA_32, a_isA_20, ok_4, ok_5, ok_6, ok_7, ok_9, ok_20, ok_21, ok_30, ok_50, ok_180, ok_192, ok_200, ui_ap, cc_ne, cc_n0, cc_0n, Nat.reduceEqDiff, reduceIte, if_true, if_false]
  all_goals ((try clear ih); (try clear hP); (try clear hl); (try clear hq); (try clear a3); grind [ui_ap])
theorem lk_soundWishes_31 {q : Int32} (hq3 : 0 ≤ q ∧ q < 30) {a : Nat} (ha : K a = 1) (hT : cT C K L I R) (hP : ∀ v J, dC C K L R I J → P (some (.int v)) (n, t, K, L, J, R)) : ∀ i : Int32, i ≤ 30 → ∀ J o u, 0 ≤ i → dC C K L R I J → a_at (d + 5) (a_xm a_m151) 31 [some (a_rf (C + 35)), some (.int q), some (a_rf a), some (.int o), some (.int i), u] [] (n, t, K, L, J, R) P := by
  have a1 := (hT.g_ask a ha).1
  have a0 : (a = 0) = False := eq_false (by omega)
  refine up_ind 30 (fun i hk ih => ?_)
  intro J o u q0 hJ
  have hT := hJ.1
  have hS := hT.s
  have gA := hT.g_asksR
  have gB := hT.g_benchesR
  have gX := hT.g_textsR
  have gc := hT.g_asks
  have gi := gA i.toNatClampNeg
  rw [q151_31]
  repeat' first
    | with_reducible apply And.intro
    | with_reducible assumption
    | with_reducible intro _
    | with_reducible apply hP
    | with_reducible apply ih
    | with_reducible apply ck_isIn
    | with_reducible apply ck_suits ha hT
    | with_reducible apply dC_C
    | simp only [q151_33, q151_34, q151_37, q151_40, q151_43, q151_44, q151_47, q151_49, q151_52, q151_54, q151_56, q151_59, q151_60, q151_63, q151_64, q151_65, q151_67, q151_70, q151_73, q151_74, q151_77, q151_79, q151_82, q151_85, q151_87, q151_90, q151_91, q151_94, q151_97, q151_98, q151_101, q151_102, q151_104, q151_107, q151_109, q151_112, q151_115, q151_118, q151_119, q151_120, q151_122, q151_123, q151_124, q151_125, q151_128, q151_131, q151_132, k_35 hS, z_35, r_35_0 hS, k_14 hS, z_14, r_35_1 hS, k_36 hS, l_36 hS, z_36, sp_askAt hS gA, sp_mayMove hS, as_nil, as_i, as_r, Nat.reduceAdd, Nat.reduceLeDiff, z_eq0, z_eq1, z_or, z_em, Classical.not_not, not_false_eq_true, not_true_eq_false, true_and, and_true, false_and, and_false, and_self, true_implies, false_implies, implies_true, Option.toList_some, Option.toList_none, List.cons_append, List.nil_append, Nat.add_eq_zero_iff, a_nl_i, a_nl_r, a_nl_n, true_or, or_true, eq_self, a_isRA_22, a_isRA_24, a_isRA_32, a_isA_20, ok_4, ok_5, ok_6, ok_7, ok_9, ok_20, ok_21, ok_30, ok_50, ok_180, ok_192, ok_200, ha, a0]
  all_goals ((try clear ih); (try clear hP); (try clear hl); (try clear hq); (try clear a3); grind [ui_ap])
theorem ck_soundWishes {q : Int32} (hq3 : 0 ≤ q ∧ q < 30) (hT : cT C K L I R) (hP : ∀ v J, dC C K L R I J → P (some (.int v)) (n, t, K, L, J, R)) : a_does (d + 6) 151 [a_rf (C + 35), .int q] (n, t, K, L, I, R) P := by
  have hS := hT.s
  have gA := hT.g_asksR
  have gB := hT.g_benchesR
  have gX := hT.g_textsR
  have gi := gA q.toNatClampNeg
  have hr := dC_refl hT
  have hl := fun (ha : K (R (C + 15) q.toNatClampNeg) = 1) u => lk_soundWishes_31 (d := d) hq3 ha hT hP 0 (by decide) I 0 u (by decide) hr
  rw [a_enter1 (M := a_m151) rfl (a_cat_rf (a_cat_int a_cat_nil)) (show 2 ≤ 6 by decide)]
  show a_at _ (a_xm a_m151) 0 [some (a_rf (C + 35)), some (.int q), none, none, none, none] [] _ _
  repeat' first
    | with_reducible apply And.intro
    | with_reducible assumption
    | with_reducible intro _
    | with_reducible apply hP
    | with_reducible apply hl
    | simp only [q151_0, q151_1, q151_4, q151_5, q151_8, q151_9, q151_10, q151_13, q151_14, q151_17, q151_18, q151_21, q151_24, q151_25, q151_26, q151_27, q151_28, q151_29, k_35 hS, z_35, r_35_0 hS, k_14 hS, z_14, sp_askAt hS gA, sp_mayMove hS, as_nil, as_i, as_r, Nat.reduceAdd, Nat.reduceLeDiff, z_eq0, z_eq1, z_or, z_em, Classical.not_not, not_false_eq_true, not_true_eq_false, true_and, and_true, false_and, and_false, and_self, true_implies, false_implies, implies_true, Option.toList_some, Option.toList_none, List.cons_append, List.nil_append, Nat.add_eq_zero_iff, a_nl_i, a_nl_r, a_nl_n, true_or, or_true, eq_self, a_isRA_22, a_isRA_24, a_isRA_32, a_isA_20, ok_4, ok_5, ok_6, ok_7, ok_9, ok_20, ok_21, ok_30, ok_50, ok_180, ok_192, ok_200]
  all_goals ((try clear ih); (try clear hP); (try clear hl); (try clear hq); (try clear a3); grind [ui_ap])
theorem lk_isNewGroup_2 {g m : Int32} (hm : m ≤ 5) (hN : rnP C R m) (hT : cT C K L I R) (hP : ∀ v, P (some (.int v)) (n, t, K, L, I, R)) : ∀ i : Int32, i ≤ 5 → 0 ≤ i → a_at d (a_xm a_m156) 2 [some (a_rf (C + 35)), some (.int g), some (.int m), some (.int i)] [] (n, t, K, L, I, R) P := by
  have hS := hT.s
  refine up_ind 5 (fun i hk ih => ?_)
  intro q0
  have gr := hT.g_ringR i.toNatClampNeg
  have hn := hN i q0
  rw [q156_2]
  repeat' first
    | with_reducible apply And.intro
    | with_reducible assumption
    | with_reducible intro _
    | with_reducible apply hP
    | with_reducible apply ih
    | simp only [q156_3, q156_4, q156_7, q156_8, q156_11, q156_12, q156_13, q156_16, q156_17, q156_20, q156_21, q156_22, q156_25, q156_28, q156_29, k_35 hS, z_35, r_35_3 hS, k_38 hS, l_38 hS, z_38, as_nil, as_i, as_r, Nat.reduceAdd, Nat.reduceLeDiff, z_eq0, z_eq1, z_or, z_em, Classical.not_not, not_false_eq_true, not_true_eq_false, true_and, and_true, false_and, and_false, and_self, true_implies, false_implies, implies_true, Option.toList_some, Option.toList_none, List.cons_append, List.nil_append, Nat.add_eq_zero_iff, a_nl_i, a_nl_r, a_nl_n, true_or, or_true, eq_self, a_isRA_22, a_isRA_24, a_isRA_32, a_isA_20, ok_4, ok_5, ok_6, ok_7, ok_9, ok_20, ok_21, ok_30, ok_50, ok_180, ok_192, ok_200]
  all_goals ((try clear ih); (try clear hP); (try clear hl); (try clear hq); (try clear a3); grind [ui_ap])
theorem ck_isNewGroup {g m : Int32} (hm : m ≤ 5) (hN : rnP C R m) (hT : cT C K L I R) (hP : ∀ v, P (some (.int v)) (n, t, K, L, I, R)) : a_does (d + 1) 156 [a_rf (C + 35), .int g, .int m] (n, t, K, L, I, R) P := by
  have hS := hT.s
  have hl := lk_isNewGroup_2 (d := d) (g := g) hm hN hT hP 0 (by decide) (by decide)
  rw [a_enter1 (M := a_m156) rfl (a_cat_rf (a_cat_int (a_cat_int a_cat_nil))) (show 3 ≤ 4 by decide)]
  show a_at _ (a_xm a_m156) 0 [some (a_rf (C + 35)), some (.int g), some (.int m), none] [] _ _
  repeat' first
    | with_reducible apply And.intro
    | with_reducible assumption
    | with_reducible intro _
    | with_reducible apply hl
    | simp only [q156_0, q156_1, as_nil, as_i, as_r, Nat.reduceAdd, Nat.reduceLeDiff, z_eq0, z_eq1, z_or, z_em, Classical.not_not, not_false_eq_true, not_true_eq_false, true_and, and_true, false_and, and_false, and_self, true_implies, false_implies, implies_true, Option.toList_some, Option.toList_none, List.cons_append, List.nil_append, Nat.add_eq_zero_iff, a_nl_i, a_nl_r, a_nl_n, true_or, or_true, eq_self, a_isRA_22, a_isRA_24, a_isRA_32, a_isA_20, ok_4, ok_5, ok_6, ok_7, ok_9, ok_20, ok_21, ok_30, ok_50, ok_180, ok_192, ok_200]
  all_goals ((try clear ih); (try clear hP); (try clear hl); (try clear hq); (try clear a3); grind [ui_ap])
theorem lk_keep_52 {i : Int32} (hi : 0 ≤ i ∧ i < 5) (hn : ¬ (R (C + 38) (i).toNatClampNeg) = 0) {x : Nat} (hx : x = 0 ∨ (K x = 3 ∧ 0 ≤ I (R (C + 38) (i).toNatClampNeg) 13)) (hT0 : cT C K L I R) (hP : ∀ J2, cT C K L J2 R → (∀ x j, ¬ x = C + 41 → J2 x j = J x j) → ∀ u, a_at d (a_xm a_m154) 94 [some (a_rf (C + 35)), some (.int i), some (a_rf (R (C + 38) (i).toNatClampNeg)), some (a_rf x), u] [] (n, t, K, L, J2, R) P) (hJ : cT C K L J R) (hF : (∀ x j, ¬ x = C + 39 → ¬ x = C + 40 → ¬ x = C + 41 → J x j = I x j)) : ∀ j : Int32, j ≤ 4 → ∀ J2, 0 ≤ j → cT C K L J2 R → (∀ x j, ¬ x = C + 41 → J2 x j = J x j) → a_at d (a_xm a_m154) 52 [some (a_rf (C + 35)), some (.int i), some (a_rf (R (C + 38) (i).toNatClampNeg)), some (a_rf x), some (.int j)] [] (n, t, K, L, J2, R) P := by
  have ha := (hT0.g_ringR i.toNatClampNeg).resolve_left hn
  obtain ⟨a1, a2, a4, a3⟩ := hT0.g_ask _ ha
  refine up_ind 4 (fun j hk ih => ?_)
  intro J2 q0 hT hF2
  have hS := hT.s
  have e2 : J2 (R (C + 38) (i).toNatClampNeg) 2 = I (R (C + 38) (i).toNatClampNeg) 2 := by rw [hF2 _ _ (by omega), hF _ _ (by omega) (by omega) (by omega)]
  have e14 : J2 (R (C + 38) (i).toNatClampNeg) 14 = I (R (C + 38) (i).toNatClampNeg) 14 := by rw [hF2 _ _ (by omega), hF _ _ (by omega) (by omega) (by omega)]
  have hend := hP J2 hT hF2
  rw [q154_52]
  simp only [q154_54, q154_55, q154_58, q154_61, q154_62, k_35 hS, z_35, as_nil, as_i, as_r, Nat.reduceAdd, Nat.reduceLeDiff, z_eq0, z_eq1, z_or, z_em, Classical.not_not, not_false_eq_true, not_true_eq_false, true_and, and_true, false_and, and_false, and_self, true_implies, false_implies, implies_true, Option.toList_some, Option.toList_none, List.cons_append, List.nil_append, Nat.add_eq_zero_iff, a_nl_i, a_nl_r, a_nl_n, true_or, or_true, eq_self, a_isRA_22, a_isRA_24, a_isRA_32, a_isA_20, ok_4, ok_5, ok_6, ok_7, ok_9, ok_20, ok_21, ok_30, ok_50, ok_180, ok_192, ok_200, ha, hn, e2]
  refine ⟨fun _ => hend _, fun h1 => ⟨fun _ => hend _, fun h2 => ?_⟩⟩
  obtain ⟨hb, hp⟩ := hx.resolve_left h2
  have hs := sh_ok (a3 hp) a2.2 q0 (Int32.not_le.mp h1)
  have hj4 : 0 ≤ j ∧ j < 4 := by clear hP ih hT0 hT hJ hF hF2; grind
  have h20 := ix4 hi hj4
  obtain ⟨b1, -, ⟨s1, s2, s3⟩, -⟩ := hT.g_bnc x hb
  have s0 : (R x 3 = 0) = False := eq_false (by omega)
  have ih := fun v => ih hj4.2 (a_ui J2 (C + 41) (i * 4 + j).toNatClampNeg v) (by clear hP ih hT0 hT hJ hF hF2; grind) (sT_Circle_stood hT) (fun y k e => by rw [ui_ap, if_neg (fun e2 => e e2.1)]; exact hF2 y k e)
  simp only [q154_65, q154_66, q154_69, q154_70, q154_71, q154_72, q154_74, q154_75, q154_76, q154_79, q154_80, q154_83, q154_85, q154_86, q154_87, q154_88, q154_91, k_35 hS, z_35, r_35_6 hS, k_41 hS, l_41 hS, z_41, as_nil, as_i, as_r, Nat.reduceAdd, Nat.reduceLeDiff, z_eq0, z_eq1, z_or, z_em, Classical.not_not, not_false_eq_true, not_true_eq_false, true_and, and_true, false_and, and_false, and_self, true_implies, false_implies, implies_true, Option.toList_some, Option.toList_none, List.cons_append, List.nil_append, Nat.add_eq_zero_iff, a_nl_i, a_nl_r, a_nl_n, true_or, or_true, eq_self, a_isRA_22, a_isRA_24, a_isRA_32, a_isA_20, ok_4, ok_5, ok_6, ok_7, ok_9, ok_20, ok_21, ok_30, ok_50, ok_180, ok_192, ok_200, ui_ap, cc_ne, cc_n0, cc_0n, Nat.reduceEqDiff, reduceIte, if_true, if_false, ha, hn, hb, h2, s0, s2, s3, e14]
  repeat' first
    | with_reducible apply And.intro
    | exact hs.1
    | exact hs.2
    | exact h20.1
    | exact h20.2
    | exact ih _
theorem lk_keep_2 (hT0 : cT C K L I R) (hN : rnP C R (I (C + 35) 7)) (hP : ∀ J, cT C K L J R → (∀ x j, ¬ x = C + 39 → ¬ x = C + 40 → ¬ x = C + 41 → J x j = I x j) → (∀ k : Int32, 0 ≤ k → k < I (C + 35) 7 → J (C + 39) k.toNatClampNeg = I (R (C + 38) (k).toNatClampNeg) 13 ∧ J (C + 40) k.toNatClampNeg = I (R (C + 38) (k).toNatClampNeg) 14) → P none (n, t, K, L, J, R)) : ∀ i : Int32, i ≤ 5 → ∀ J u w v, 0 ≤ i → cT C K L J R → (∀ x j, ¬ x = C + 39 → ¬ x = C + 40 → ¬ x = C + 41 → J x j = I x j) → (∀ k : Int32, 0 ≤ k → k < i → J (C + 39) k.toNatClampNeg = I (R (C + 38) (k).toNatClampNeg) 13 ∧ J (C + 40) k.toNatClampNeg = I (R (C + 38) (k).toNatClampNeg) 14) → a_at (d + 1) (a_xm a_m154) 2 [some (a_rf (C + 35)), some (.int i), u, w, v] [] (n, t, K, L, J, R) P := by
  refine up_ind 5 (fun i hk ih => ?_)
  intro J u w v q0 hT hF hK
  have hS := hT.s
  have gA := hT.g_asksR
  have gB := hT.g_benchesR
  have gX := hT.g_textsR
  have gs := hT.g_circle
  have es : J (C + 35) 7 = I (C + 35) 7 := hF _ _ (by omega) (by omega) (by omega)
  rw [q154_2]
  simp only [q154_3, q154_4, q154_7, q154_10, q154_11, q154_14, q154_15, k_35 hS, z_35, r_35_3 hS, k_38 hS, l_38 hS, z_38, as_nil, as_i, as_r, Nat.reduceAdd, Nat.reduceLeDiff, z_eq0, z_eq1, z_or, z_em, Classical.not_not, not_false_eq_true, not_true_eq_false, true_and, and_true, false_and, and_false, and_self, true_implies, false_implies, implies_true, Option.toList_some, Option.toList_none, List.cons_append, List.nil_append, Nat.add_eq_zero_iff, a_nl_i, a_nl_r, a_nl_n, true_or, or_true, eq_self, a_isRA_22, a_isRA_24, a_isRA_32, a_isA_20, ok_4, ok_5, ok_6, ok_7, ok_9, ok_20, ok_21, ok_30, ok_50, ok_180, ok_192, ok_200]
  refine ⟨fun h1 => ?_, fun h1 => ?_⟩
  · simp only [q154_100, as_nil, as_i, as_r, Nat.reduceAdd, Nat.reduceLeDiff, z_eq0, z_eq1, z_or, z_em, Classical.not_not, not_false_eq_true, not_true_eq_false, true_and, and_true, false_and, and_false, and_self, true_implies, false_implies, implies_true, Option.toList_some, Option.toList_none, List.cons_append, List.nil_append, Nat.add_eq_zero_iff, a_nl_i, a_nl_r, a_nl_n, true_or, or_true, eq_self, a_isRA_22, a_isRA_24, a_isRA_32, a_isA_20, ok_4, ok_5, ok_6, ok_7, ok_9, ok_20, ok_21, ok_30, ok_50, ok_180, ok_192, ok_200]
    exact hP J hT hF (fun k k0 k1 => hK k k0 (by rw [← es] at k1; clear hP ih hK hF hT hN; grind))
  · have hi : 0 ≤ i ∧ i < 5 := by clear hP ih hK hF hT hN; grind
    have hn := hN i q0 (by rw [← es]; exact Int32.not_le.mp h1)
    have ha := (hT0.g_ringR i.toNatClampNeg).resolve_left hn
    obtain ⟨a1, a2, a4, a3⟩ := hT0.g_ask _ ha
    have e13 : J (R (C + 38) (i).toNatClampNeg) 13 = I (R (C + 38) (i).toNatClampNeg) 13 := hF _ _ (by omega) (by omega) (by omega)
    have e14 : J (R (C + 38) (i).toNatClampNeg) 14 = I (R (C + 38) (i).toNatClampNeg) 14 := hF _ _ (by omega) (by omega) (by omega)
    have n39 : ((R (C + 38) (i).toNatClampNeg) = C + 39) = False := eq_false (by omega)
    have n40 : ((R (C + 38) (i).toNatClampNeg) = C + 40) = False := eq_false (by omega)
    have gb := gB (I (R (C + 38) (i).toNatClampNeg) 13).toNatClampNeg
    have hT2 : cT C K L (a_ui (a_ui J (C + 39) i.toNatClampNeg (I (R (C + 38) (i).toNatClampNeg) 13)) (C + 40) i.toNatClampNeg (I (R (C + 38) (i).toNatClampNeg) 14)) R := sT_Circle_shift (sT_Circle_bench hT)
    have hF2 : ∀ x j, ¬ x = C + 39 → ¬ x = C + 40 → ¬ x = C + 41 → a_ui (a_ui J (C + 39) i.toNatClampNeg (I (R (C + 38) (i).toNatClampNeg) 13)) (C + 40) i.toNatClampNeg (I (R (C + 38) (i).toNatClampNeg) 14) x j = I x j := fun x j p q r => by rw [ui_ap, if_neg (fun e => q e.1), ui_ap, if_neg (fun e => p e.1)]; exact hF x j p q r
    have hmain : ∀ x, x = 0 ∨ (K x = 3 ∧ 0 ≤ I (R (C + 38) (i).toNatClampNeg) 13) → a_at (d + 1) (a_xm a_m154) 52 [some (a_rf (C + 35)), some (.int i), some (a_rf (R (C + 38) (i).toNatClampNeg)), some (a_rf x), some (.int 0)] [] (n, t, K, L, (a_ui (a_ui J (C + 39) i.toNatClampNeg (I (R (C + 38) (i).toNatClampNeg) 13)) (C + 40) i.toNatClampNeg (I (R (C + 38) (i).toNatClampNeg) 14)), R) P := fun x hx => by
      refine lk_keep_52 hi hn hx hT0 (fun J2 t2 f2 u2 => ?_) hT2 hF2 0 (by decide) _ (by decide) hT2 (fun _ _ _ => rfl)
      simp only [q154_94, q154_97, as_nil, as_i, as_r, Nat.reduceAdd, Nat.reduceLeDiff, z_eq0, z_eq1, z_or, z_em, Classical.not_not, not_false_eq_true, not_true_eq_false, true_and, and_true, false_and, and_false, and_self, true_implies, false_implies, implies_true, Option.toList_some, Option.toList_none, List.cons_append, List.nil_append, Nat.add_eq_zero_iff, a_nl_i, a_nl_r, a_nl_n, true_or, or_true, eq_self, a_isRA_22, a_isRA_24, a_isRA_32, a_isA_20, ok_4, ok_5, ok_6, ok_7, ok_9, ok_20, ok_21, ok_30, ok_50, ok_180, ok_192, ok_200]
      refine ih hi.2 J2 _ _ _ (by clear hP ih hK hF hT hN; grind) t2 (fun y k p q r => by rw [f2 y k r]; exact hF2 y k p q r) (fun k k0 k1 => ?_)
      rw [f2 _ _ (by omega), f2 _ _ (by omega)]
      by_cases e : k = i
      · subst e
        rw [ui_ap, if_neg (by omega), ui_ap, if_pos ⟨rfl, rfl⟩, ui_ap, if_pos ⟨rfl, rfl⟩]
        exact ⟨rfl, rfl⟩
      · have ne : ¬ k.toNatClampNeg = i.toNatClampNeg := fun q => e (cl_inj k0 q0 q)
        rw [ui_ap, if_neg (by omega), ui_ap, if_neg (fun q => ne q.2), ui_ap, if_neg (fun q => ne q.2), ui_ap, if_neg (by omega)]
        exact hK k k0 (by clear hP ih hK hF hT hN; grind)
    refine ⟨hi, ?_⟩
    simp only [q154_16, q154_17, q154_18, q154_21, q154_22, q154_25, q154_28, q154_29, q154_30, q154_33, q154_34, q154_35, q154_38, q154_39, q154_40, q154_43, q154_44, q154_45, q154_48, q154_49, q154_50, k_35 hS, z_35, r_35_0 hS, k_14 hS, z_14, r_35_4 hS, k_39 hS, l_39 hS, z_39, r_35_5 hS, k_40 hS, l_40 hS, z_40, sp_benchAt hS gB, as_nil, as_i, as_r, Nat.reduceAdd, Nat.reduceLeDiff, z_eq0, z_eq1, z_or, z_em, Classical.not_not, not_false_eq_true, not_true_eq_false, true_and, and_true, false_and, and_false, and_self, true_implies, false_implies, implies_true, Option.toList_some, Option.toList_none, List.cons_append, List.nil_append, Nat.add_eq_zero_iff, a_nl_i, a_nl_r, a_nl_n, true_or, or_true, eq_self, a_isRA_22, a_isRA_24, a_isRA_32, a_isA_20, ok_4, ok_5, ok_6, ok_7, ok_9, ok_20, ok_21, ok_30, ok_50, ok_180, ok_192, ok_200, ui_ap, cc_ne, cc_n0, cc_0n, Nat.reduceEqDiff, reduceIte, if_true, if_false, ha, hn, e13, e14, n39, n40]
    repeat' first
      | with_reducible apply And.intro
      | with_reducible intro _
      | exact hi.1
      | exact hi.2
      | exact hmain _ (Or.inl rfl)
      | (refine hmain _ (gb.imp id (fun hk3 => ⟨hk3, ?_⟩)); rename_i h8; exact h8.1)
    all_goals skip
theorem ck_keepPlaces (hT0 : cT C K L I R) (hN : rnP C R (I (C + 35) 7)) (hP : ∀ J, cT C K L J R → (∀ x j, ¬ x = C + 39 → ¬ x = C + 40 → ¬ x = C + 41 → J x j = I x j) → (∀ k : Int32, 0 ≤ k → k < I (C + 35) 7 → J (C + 39) k.toNatClampNeg = I (R (C + 38) (k).toNatClampNeg) 13 ∧ J (C + 40) k.toNatClampNeg = I (R (C + 38) (k).toNatClampNeg) 14) → P none (n, t, K, L, J, R)) : a_does (d + 2) 154 [a_rf (C + 35)] (n, t, K, L, I, R) P := by
  have hS := hT0.s
  have hl := fun u w v => lk_keep_2 (d := d) hT0 hN hP 0 (by decide) I u w v (by decide) hT0 (fun _ _ _ _ _ => rfl) (fun k k0 k1 => absurd k1 (Int32.not_lt.mpr k0))
  rw [a_enter1 (M := a_m154) rfl (a_cat_rf a_cat_nil) (show 1 ≤ 5 by decide)]
  show a_at _ (a_xm a_m154) 0 [some (a_rf (C + 35)), none, none, none, none] [] _ _
  repeat' first
    | with_reducible apply And.intro
    | with_reducible assumption
    | with_reducible intro _
    | with_reducible apply hl
    | simp only [q154_0, q154_1, as_nil, as_i, as_r, Nat.reduceAdd, Nat.reduceLeDiff, z_eq0, z_eq1, z_or, z_em, Classical.not_not, not_false_eq_true, not_true_eq_false, true_and, and_true, false_and, and_false, and_self, true_implies, false_implies, implies_true, Option.toList_some, Option.toList_none, List.cons_append, List.nil_append, Nat.add_eq_zero_iff, a_nl_i, a_nl_r, a_nl_n, true_or, or_true, eq_self, a_isRA_22, a_isRA_24, a_isRA_32, a_isA_20, ok_4, ok_5, ok_6, ok_7, ok_9, ok_20, ok_21, ok_30, ok_50, ok_180, ok_192, ok_200]
  all_goals ((try clear ih); (try clear hP); (try clear hl); (try clear hq); (try clear a3); grind [ui_ap])
theorem lk_restore_44 {i : Int32} (hi : 0 ≤ i ∧ i < 5) {a : Nat} (ha : K a = 1) {x : Nat} (hx : x = 0 ∨ (K x = 3 ∧ fitP (I (C + 40) i.toNatClampNeg) (I a 2))) (hP : ∀ J, dL C K L R I J → (∀ b, K b = 1 → J b 13 = I b 13 ∧ J b 14 = I b 14) → P none (n, t, K, L, J, R)) (hT0 : cT C K L I R) : ∀ j : Int32, j ≤ 4 → ∀ J, 0 ≤ j → dL C K L R I J → (∀ b, K b = 1 → J b 13 = I b 13 ∧ J b 14 = I b 14) → a_at (d + 1) (a_xm a_m155) 44 [some (a_rf (C + 35)), some (.int i), some (a_rf a), some (a_rf x), some (.int j)] [] (n, t, K, L, J, R) P := by
  have a1 := (hT0.g_ask a ha).1
  have a2 := (hT0.g_ask a ha).2.1
  have a0 : (a = 0) = False := eq_false (by omega)
  refine up_ind 4 (fun j hk ih => ?_)
  intro J q0 hL hA
  have hT := hL.1
  have hS := hT.s
  have e2 := dL_at hL hT0 ha 2 (by decide) (by decide)
  have hend := hP J hL hA
  rw [q155_44]
  simp only [q155_46, q155_47, q155_50, q155_53, q155_54, k_35 hS, z_35, as_nil, as_i, as_r, Nat.reduceAdd, Nat.reduceLeDiff, z_eq0, z_eq1, z_or, z_em, Classical.not_not, not_false_eq_true, not_true_eq_false, true_and, and_true, false_and, and_false, and_self, true_implies, false_implies, implies_true, Option.toList_some, Option.toList_none, List.cons_append, List.nil_append, Nat.add_eq_zero_iff, a_nl_i, a_nl_r, a_nl_n, true_or, or_true, eq_self, a_isRA_22, a_isRA_24, a_isRA_32, a_isA_20, ok_4, ok_5, ok_6, ok_7, ok_9, ok_20, ok_21, ok_30, ok_50, ok_180, ok_192, ok_200, ha, a0, e2]
  have hend2 : a_at (d + 1) (a_xm a_m155) 91 [some (a_rf (C + 35)), some (.int i), some (a_rf a), some (a_rf x), some (.int j)] [] (n, t, K, L, J, R) P := by
    simp only [q155_91, as_nil, as_i, as_r, Nat.reduceAdd, Nat.reduceLeDiff, z_eq0, z_eq1, z_or, z_em, Classical.not_not, not_false_eq_true, not_true_eq_false, true_and, and_true, false_and, and_false, and_self, true_implies, false_implies, implies_true, Option.toList_some, Option.toList_none, List.cons_append, List.nil_append, Nat.add_eq_zero_iff, a_nl_i, a_nl_r, a_nl_n, true_or, or_true, eq_self, a_isRA_22, a_isRA_24, a_isRA_32, a_isA_20, ok_4, ok_5, ok_6, ok_7, ok_9, ok_20, ok_21, ok_30, ok_50, ok_180, ok_192, ok_200]
    exact hend
  refine ⟨fun _ => hend2, fun h1 => ⟨fun _ => hend2, fun h2 => ?_⟩⟩
  obtain ⟨hb, hf⟩ := hx.resolve_left h2
  have e40 := dL_40 hL i.toNatClampNeg
  have hs := sh_ok hf a2.2 q0 (Int32.not_le.mp h1)
  have hj4 : 0 ≤ j ∧ j < 4 := by clear hP ih hT0 hT hL hA; grind
  have h20 := ix4 hi hj4
  obtain ⟨b1, ⟨w1, w2, w3⟩, ⟨s1, s2, s3⟩, -⟩ := hT.g_bnc x hb
  have ih := ih hj4.2
  simp only [q155_57, q155_58, q155_59, q155_62, q155_63, q155_64, q155_66, q155_67, q155_68, q155_71, q155_72, q155_75, q155_76, q155_77, q155_78, q155_80, q155_81, q155_82, k_35 hS, z_35, r_35_5 hS, k_40 hS, l_40 hS, z_40, r_35_6 hS, k_41 hS, l_41 hS, z_41, as_nil, as_i, as_r, Nat.reduceAdd, Nat.reduceLeDiff, z_eq0, z_eq1, z_or, z_em, Classical.not_not, not_false_eq_true, not_true_eq_false, true_and, and_true, false_and, and_false, and_self, true_implies, false_implies, implies_true, Option.toList_some, Option.toList_none, List.cons_append, List.nil_append, Nat.add_eq_zero_iff, a_nl_i, a_nl_r, a_nl_n, true_or, or_true, eq_self, a_isRA_22, a_isRA_24, a_isRA_32, a_isA_20, ok_4, ok_5, ok_6, ok_7, ok_9, ok_20, ok_21, ok_30, ok_50, ok_180, ok_192, ok_200, ui_ap, cc_ne, cc_n0, cc_0n, Nat.reduceEqDiff, reduceIte, if_true, if_false, ha, a0, hb, h2, e40]
  refine ⟨hi, h20, ?_⟩
  refine cp_settle hb hT hs ?_
  simp only [q155_85, q155_88, as_nil, as_i, as_r, Nat.reduceAdd, Nat.reduceLeDiff, z_eq0, z_eq1, z_or, z_em, Classical.not_not, not_false_eq_true, not_true_eq_false, true_and, and_true, false_and, and_false, and_self, true_implies, false_implies, implies_true, Option.toList_some, Option.toList_none, List.cons_append, List.nil_append, Nat.add_eq_zero_iff, a_nl_i, a_nl_r, a_nl_n, true_or, or_true, eq_self, a_isRA_22, a_isRA_24, a_isRA_32, a_isA_20, ok_4, ok_5, ok_6, ok_7, ok_9, ok_20, ok_21, ok_30, ok_50, ok_180, ok_192, ok_200]
  refine ih _ (by clear hP ih hT0 hT hL hA; grind) (dL_arr (dL_arr hL w1 w2) s1 s2) (fun b hb1 => ?_)
  have n1 : ¬ b = R x 3 := fun e => by rw [e, s2] at hb1; cases hb1
  have n2 : ¬ b = R x 2 := fun e => by rw [e, w2] at hb1; cases hb1
  rw [ui_ap, if_neg (fun e => n1 e.1), ui_ap, if_neg (fun e => n2 e.1), ui_ap, if_neg (fun e => n1 e.1), ui_ap, if_neg (fun e => n2 e.1)]
  exact hA b hb1
theorem ck_restore {i : Int32} (hi : 0 ≤ i ∧ i < 5) {a : Nat} (ea : R (C + 38) i.toNatClampNeg = a) (ha : K a = 1) (hT : cT C K L I R) (hp : (0 ≤ I (C + 39) i.toNatClampNeg → fitP (I (C + 40) i.toNatClampNeg) (I a 2))) (hP : ∀ J, dL C K L R I J → J a 13 = I (C + 39) i.toNatClampNeg → J a 14 = I (C + 40) i.toNatClampNeg → (∀ b, K b = 1 → ¬ b = a → J b 14 = I b 14) → P none (n, t, K, L, J, R)) : a_does (d + 3) 155 [a_rf (C + 35), .int i] (n, t, K, L, I, R) P := by
  have hS := hT.s
  have gA := hT.g_asksR
  have gB := hT.g_benchesR
  have gX := hT.g_textsR
  obtain ⟨a1, a2, a4, a3⟩ := hT.g_ask a ha
  have a0 : (a = 0) = False := eq_false (by omega)
  have gi := gB (I (C + 39) i.toNatClampNeg).toNatClampNeg
  have n39 : (a = C + 39) = False := eq_false (by omega)
  have n40 : (a = C + 40) = False := eq_false (by omega)
  have n14 : (a = C + 14) = False := eq_false (by omega)
  have m39 : (C + 39 = a) = False := eq_false (by omega)
  have m40 : (C + 40 = a) = False := eq_false (by omega)
  have hL : dL C K L R I (a_ui (a_ui I a 13 (I (C + 39) i.toNatClampNeg)) a 14 (I (C + 40) i.toNatClampNeg)) := dL_place (dL_refl hT) a1 ha (fun h => hp h)
  have f13 : a_ui (a_ui I a 13 (I (C + 39) i.toNatClampNeg)) a 14 (I (C + 40) i.toNatClampNeg) a 13 = I (C + 39) i.toNatClampNeg := by rw [ui_ap, if_neg (by omega), ui_ap, if_pos ⟨rfl, rfl⟩]
  have f14 : a_ui (a_ui I a 13 (I (C + 39) i.toNatClampNeg)) a 14 (I (C + 40) i.toNatClampNeg) a 14 = I (C + 40) i.toNatClampNeg := by rw [ui_ap, if_pos ⟨rfl, rfl⟩]
  have f2 : a_ui (a_ui I a 13 (I (C + 39) i.toNatClampNeg)) a 14 (I (C + 40) i.toNatClampNeg) a 2 = I a 2 := by rw [ui_ap, if_neg (by omega), ui_ap, if_neg (by omega)]
  have f40 : a_ui (a_ui I a 13 (I (C + 39) i.toNatClampNeg)) a 14 (I (C + 40) i.toNatClampNeg) (C + 40) i.toNatClampNeg = I (C + 40) i.toNatClampNeg := by rw [ui_ap, if_neg (by omega), ui_ap, if_neg (by omega)]
  have hmain : ∀ x, x = 0 ∨ (K x = 3 ∧ 0 ≤ I (C + 39) i.toNatClampNeg) → a_at (d + 2) (a_xm a_m155) 44 [some (a_rf (C + 35)), some (.int i), some (a_rf a), some (a_rf x), some (.int 0)] [] (n, t, K, L, (a_ui (a_ui I a 13 (I (C + 39) i.toNatClampNeg)) a 14 (I (C + 40) i.toNatClampNeg)), R) P := fun x hx => by
    have hx2 : x = 0 ∨ (K x = 3 ∧ fitP (a_ui (a_ui I a 13 (I (C + 39) i.toNatClampNeg)) a 14 (I (C + 40) i.toNatClampNeg) (C + 40) i.toNatClampNeg) (a_ui (a_ui I a 13 (I (C + 39) i.toNatClampNeg)) a 14 (I (C + 40) i.toNatClampNeg) a 2)) := by
      rw [f40, f2]
      exact hx.imp id (fun h => ⟨h.1, hp h.2⟩)
    refine lk_restore_44 (d := d + 1) hi ha hx2 (fun J j1 jA => ?_) hL.1 0 (by decide) _ (by decide) (dL_refl hL.1) (fun _ _ => ⟨rfl, rfl⟩)
    have q := jA a ha
    rw [f13, f14] at q
    refine hP J (dL_L hL j1) q.1 q.2 (fun b hb hne => ?_)
    rw [(jA b hb).2, ui_ap, if_neg (fun e => hne e.1), ui_ap, if_neg (fun e => hne e.1)]
  rw [a_enter1 (M := a_m155) rfl (a_cat_rf (a_cat_int a_cat_nil)) (show 2 ≤ 5 by decide)]
  show a_at _ (a_xm a_m155) 0 [some (a_rf (C + 35)), some (.int i), none, none, none] [] _ _
  simp only [q155_0, q155_1, q155_4, q155_5, q155_6, q155_7, q155_8, q155_11, q155_12, q155_15, q155_16, q155_17, q155_20, q155_21, q155_22, q155_23, q155_26, q155_27, q155_28, q155_31, q155_32, q155_33, q155_36, q155_37, q155_38, q155_41, q155_42, k_35 hS, z_35, r_35_3 hS, k_38 hS, l_38 hS, z_38, r_35_0 hS, k_14 hS, z_14, r_35_4 hS, k_39 hS, l_39 hS, z_39, r_35_5 hS, k_40 hS, l_40 hS, z_40, sp_benchAt hS gB, as_nil, as_i, as_r, Nat.reduceAdd, Nat.reduceLeDiff, z_eq0, z_eq1, z_or, z_em, Classical.not_not, not_false_eq_true, not_true_eq_false, true_and, and_true, false_and, and_false, and_self, true_implies, false_implies, implies_true, Option.toList_some, Option.toList_none, List.cons_append, List.nil_append, Nat.add_eq_zero_iff, a_nl_i, a_nl_r, a_nl_n, true_or, or_true, eq_self, a_isRA_22, a_isRA_24, a_isRA_32, a_isA_20, ok_4, ok_5, ok_6, ok_7, ok_9, ok_20, ok_21, ok_30, ok_50, ok_180, ok_192, ok_200, ui_ap, cc_ne, cc_n0, cc_0n, Nat.reduceEqDiff, reduceIte, if_true, if_false, ea, ha, a0, n39, n40, n14, m39, m40]
  repeat' first
    | with_reducible apply And.intro
    | with_reducible intro _
    | exact hi.1
    | exact hi.2
    | exact hmain _ (Or.inl rfl)
    | (refine hmain _ (gi.imp id (fun hk3 => ⟨hk3, ?_⟩)); rename_i h8; exact h8.1)
theorem rn_ask (h : cT C K L I R) {m i : Int32} (hN : rnP C R m) (h0 : 0 ≤ i) (h1 : i < m) : K (R (C + 38) (i).toNatClampNeg) = 1 := (h.g_ringR i.toNatClampNeg).resolve_left (hN i h0 h1)
def kE (C : Nat) (K : Nat → Nat) (m : Int32) (I J : Nat → Nat → Int32) : Prop := (J (C + 35) 7 = m ∧ (∀ k, J (C + 39) k = I (C + 39) k) ∧ (∀ k, J (C + 40) k = I (C + 40) k) ∧ (∀ b, K b = 1 → J b 2 = I b 2))
theorem kE_L (hT : cT C K L J R) {m : Int32} (h : kE C K m I J) (h2 : dL C K L R J J0) : kE C K m I J0 := ⟨(h2.2 _ _ (by omega) (by omega) (by omega)).trans h.1, fun k => (dL_39 h2 k).trans (h.2.1 k), fun k => (dL_40 h2 k).trans (h.2.2.1 k), fun b hb => (dL_at h2 hT hb 2 (by decide) (by decide)).trans (h.2.2.2 b hb)⟩
theorem kE_C (hT : cT C K L J R) {m : Int32} (h : kE C K m I J) (h2 : dC C K L R J J0) : kE C K m I J0 := kE_L hT h (dL_C (dL_refl hT) h2)
theorem lk_turn_lift_6 {m : Int32} (hm : m ≤ 5) (hN : rnP C R m) (hP : ∀ J, dL C K L R I J → kE C K m I J → ∀ u v w q r, a_at (d + 5) (a_xm a_m153) 33 [some (a_rf (C + 35)), u, v, w, q, r] [] (n, t, K, L, J, R) P) : ∀ i : Int32, i ≤ 5 → ∀ J v w q r, 0 ≤ i → dL C K L R I J → kE C K m I J → a_at (d + 5) (a_xm a_m153) 6 [some (a_rf (C + 35)), some (.int i), v, w, q, r] [] (n, t, K, L, J, R) P := by
  refine up_ind 5 (fun i hk ih => ?_)
  intro J v w q r q0 hL hE
  have hT := hL.1
  have hS := hT.s
  have es := hE.1
  rw [q153_6]
  simp only [q153_7, q153_8, q153_11, q153_14, q153_15, q153_18, q153_19, q153_22, q153_23, q153_24, k_35 hS, z_35, r_35_0 hS, k_14 hS, z_14, r_35_3 hS, k_38 hS, l_38 hS, z_38, as_nil, as_i, as_r, Nat.reduceAdd, Nat.reduceLeDiff, z_eq0, z_eq1, z_or, z_em, Classical.not_not, not_false_eq_true, not_true_eq_false, true_and, and_true, false_and, and_false, and_self, true_implies, false_implies, implies_true, Option.toList_some, Option.toList_none, List.cons_append, List.nil_append, Nat.add_eq_zero_iff, a_nl_i, a_nl_r, a_nl_n, true_or, or_true, eq_self, a_isRA_22, a_isRA_24, a_isRA_32, a_isA_20, ok_4, ok_5, ok_6, ok_7, ok_9, ok_20, ok_21, ok_30, ok_50, ok_180, ok_192, ok_200, es]
  refine ⟨fun h1 => hP J hL hE _ _ _ _ _, fun h1 => ?_⟩
  have h1 := Int32.not_le.mp h1
  have hi : 0 ≤ i ∧ i < 5 := by clear hP ih hN hL hE hT; grind
  have ha := rn_ask hT hN q0 h1
  refine ⟨hi, ?_⟩
  refine ck_lift ha hT (fun J2 j2 => ?_)
  simp only [q153_27, q153_30, as_nil, as_i, as_r, Nat.reduceAdd, Nat.reduceLeDiff, z_eq0, z_eq1, z_or, z_em, Classical.not_not, not_false_eq_true, not_true_eq_false, true_and, and_true, false_and, and_false, and_self, true_implies, false_implies, implies_true, Option.toList_some, Option.toList_none, List.cons_append, List.nil_append, Nat.add_eq_zero_iff, a_nl_i, a_nl_r, a_nl_n, true_or, or_true, eq_self, a_isRA_22, a_isRA_24, a_isRA_32, a_isA_20, ok_4, ok_5, ok_6, ok_7, ok_9, ok_20, ok_21, ok_30, ok_50, ok_180, ok_192, ok_200]
  exact ih hi.2 J2 _ _ _ _ (by clear hP ih hN hL hE hT j2; grind) (dL_L hL j2) (kE_L hT hE j2)
theorem lk_turn_lay_37 {m : Int32} (h1m : 1 ≤ m) (hm : m ≤ 5) (hN : rnP C R m) (hP : ∀ J (o : Int32), dL C K L R I J → kE C K m I J → (o = m → ∀ k : Int32, 0 ≤ k → k < m → fitP (I (C + 40) (nxt m k).toNatClampNeg) (I (R (C + 38) (k).toNatClampNeg) 2)) → ∀ v w q r, a_at (d + 5) (a_xm a_m153) 166 [some (a_rf (C + 35)), some (.int o), v, w, q, r] [] (n, t, K, L, J, R) P) : ∀ i : Int32, i ≤ 5 → ∀ J (o : Int32) w q r, 0 ≤ i → i ≤ m → o ≤ i → (o = i → ∀ k : Int32, 0 ≤ k → k < i → fitP (I (C + 40) (nxt m k).toNatClampNeg) (I (R (C + 38) (k).toNatClampNeg) 2)) → dL C K L R I J → kE C K m I J → a_at (d + 5) (a_xm a_m153) 37 [some (a_rf (C + 35)), some (.int o), some (.int i), w, q, r] [] (n, t, K, L, J, R) P := by
  refine up_ind 5 (fun i hk ih => ?_)
  intro J o w q r q0 qm qo hF hL hE
  have hT := hL.1
  have hS := hT.s
  have es := hE.1
  have hm0 : ¬ m = 0 := by clear hP ih hN hL hE hT hF; grind
  have hend : (o = m → ∀ k : Int32, 0 ≤ k → k < m → fitP (I (C + 40) (nxt m k).toNatClampNeg) (I (R (C + 38) (k).toNatClampNeg) 2)) → ∀ v w q r, a_at (d + 5) (a_xm a_m153) 166 [some (a_rf (C + 35)), some (.int o), v, w, q, r] [] (n, t, K, L, J, R) P := fun h => hP J o hL hE h
  rw [q153_37]
  simp only [q153_38, q153_39, q153_42, q153_45, q153_46, q153_47, q153_50, q153_51, q153_52, q153_53, q153_54, q153_57, q153_58, q153_59, q153_60, q153_63, q153_64, q153_65, q153_67, q153_68, q153_71, q153_73, q153_74, q153_77, q153_78, q153_79, q153_80, q153_83, q153_84, q153_85, k_35 hS, z_35, r_35_3 hS, k_38 hS, l_38 hS, z_38, r_35_0 hS, k_14 hS, z_14, r_35_4 hS, k_39 hS, l_39 hS, z_39, r_35_5 hS, k_40 hS, l_40 hS, z_40, as_nil, as_i, as_r, Nat.reduceAdd, Nat.reduceLeDiff, z_eq0, z_eq1, z_or, z_em, Classical.not_not, not_false_eq_true, not_true_eq_false, true_and, and_true, false_and, and_false, and_self, true_implies, false_implies, implies_true, Option.toList_some, Option.toList_none, List.cons_append, List.nil_append, Nat.add_eq_zero_iff, a_nl_i, a_nl_r, a_nl_n, true_or, or_true, eq_self, a_isRA_22, a_isRA_24, a_isRA_32, a_isA_20, ok_4, ok_5, ok_6, ok_7, ok_9, ok_20, ok_21, ok_30, ok_50, ok_180, ok_192, ok_200, es, hm0]
  refine ⟨fun h1 => ?_, fun h1 => ⟨fun h2 => ?_, fun h2 => ?_⟩⟩
  · have e : i = m := by clear hP ih hN hL hE hT hF hend; grind
    refine hend (fun h => ?_) _ _ _ _
    rw [e] at hF
    exact hF h
  · refine hend (fun h => ?_) _ _ _ _
    exfalso
    clear hP ih hN hL hE hT hF hend
    grind
  · have h1 := Int32.not_le.mp h1
    have hi : 0 ≤ i ∧ i < 5 := by clear hP ih hN hL hE hT hF hend; grind
    have hx := nxt_lt hm q0 h1
    have hx5 : 0 ≤ nxt m i ∧ nxt m i < 5 := ⟨hx.1, by clear hP ih hN hL hE hT hF hend; grind⟩
    have hn := hN i q0 h1
    have ha := rn_ask hT hN q0 h1
    have ih := ih hi.2
    have e40 := hE.2.2.1 (nxt m i).toNatClampNeg
    have e39 := hE.2.1 (nxt m i).toNatClampNeg
    have e2 := hE.2.2.2 _ ha
    show (0 ≤ i ∧ i < 5) ∧ (0 ≤ nxt m i ∧ nxt m i < 5) ∧ (0 ≤ nxt m i ∧ nxt m i < 5) ∧ _
    refine ⟨hi, hx5, hx5, ?_⟩
    refine ck_watchOf ha hT (fun v J2 j2 => ?_)
    have hT2 := j2.1
    have hL2 := dL_C hL j2
    have hE2 := kE_C hT hE j2
    have e40 := hE2.2.2.1 (nxt m i).toNatClampNeg
    have e39 := hE2.2.1 (nxt m i).toNatClampNeg
    have e2 := hE2.2.2.2 _ ha
    have o2 : ¬ o + 1 = i → o + 1 ≤ i + 1 := by clear hP ih hN hL hE hT hF hend hT2 hL2 hE2; grind
    have hfail : ∀ w q r, a_at (d + 5) (a_xm a_m153) 160 [some (a_rf (C + 35)), some (.int o), some (.int i), w, q, r] [] (n, t, K, L, J2, R) P := fun w q r => by
      simp only [q153_160, q153_163, as_nil, as_i, as_r, Nat.reduceAdd, Nat.reduceLeDiff, z_eq0, z_eq1, z_or, z_em, Classical.not_not, not_false_eq_true, not_true_eq_false, true_and, and_true, false_and, and_false, and_self, true_implies, false_implies, implies_true, Option.toList_some, Option.toList_none, List.cons_append, List.nil_append, Nat.add_eq_zero_iff, a_nl_i, a_nl_r, a_nl_n, true_or, or_true, eq_self, a_isRA_22, a_isRA_24, a_isRA_32, a_isA_20, ok_4, ok_5, ok_6, ok_7, ok_9, ok_20, ok_21, ok_30, ok_50, ok_180, ok_192, ok_200]
      refine ih J2 o w q r ?_ ?_ ?_ (fun h => ?_) hL2 hE2
      · clear hP ih hN hL hE hT hF hend hT2 hL2 hE2; grind
      · clear hP ih hN hL hE hT hF hend hT2 hL2 hE2; grind
      · clear hP ih hN hL hE hT hF hend hT2 hL2 hE2; grind
      · exfalso
        clear hP ih hN hL hE hT hF hend hT2 hL2 hE2
        grind
    simp only [q153_88, q153_90, q153_91, q153_94, q153_96, q153_97, q153_100, q153_101, q153_102, k_35 hS, z_35, r_35_0 hS, k_14 hS, z_14, r_35_5 hS, k_40 hS, l_40 hS, z_40, as_nil, as_i, as_r, Nat.reduceAdd, Nat.reduceLeDiff, z_eq0, z_eq1, z_or, z_em, Classical.not_not, not_false_eq_true, not_true_eq_false, true_and, and_true, false_and, and_false, and_self, true_implies, false_implies, implies_true, Option.toList_some, Option.toList_none, List.cons_append, List.nil_append, Nat.add_eq_zero_iff, a_nl_i, a_nl_r, a_nl_n, true_or, or_true, eq_self, a_isRA_22, a_isRA_24, a_isRA_32, a_isA_20, ok_4, ok_5, ok_6, ok_7, ok_9, ok_20, ok_21, ok_30, ok_50, ok_180, ok_192, ok_200, ha, hn]
    refine ⟨hx5, ?_⟩
    refine ck_isTooNear ha hT2 (fun v2 => ?_)
    simp only [q153_105, q153_108, q153_109, q153_112, q153_114, q153_115, q153_118, q153_119, q153_120, q153_121, q153_124, q153_125, q153_126, q153_128, k_35 hS, z_35, r_35_0 hS, k_14 hS, z_14, r_35_4 hS, k_39 hS, l_39 hS, z_39, r_35_5 hS, k_40 hS, l_40 hS, z_40, as_nil, as_i, as_r, Nat.reduceAdd, Nat.reduceLeDiff, z_eq0, z_eq1, z_or, z_em, Classical.not_not, not_false_eq_true, not_true_eq_false, true_and, and_true, false_and, and_false, and_self, true_implies, false_implies, implies_true, Option.toList_some, Option.toList_none, List.cons_append, List.nil_append, Nat.add_eq_zero_iff, a_nl_i, a_nl_r, a_nl_n, true_or, or_true, eq_self, a_isRA_22, a_isRA_24, a_isRA_32, a_isA_20, ok_4, ok_5, ok_6, ok_7, ok_9, ok_20, ok_21, ok_30, ok_50, ok_180, ok_192, ok_200, ha, hn]
    refine ⟨fun _ => hfail _ _ _, fun _ => ⟨hx5, hx5, ?_⟩⟩
    refine ck_isOpen ha hT2 (fun v3 hf => ?_)
    simp only [q153_131, q153_134, q153_135, q153_138, q153_140, q153_141, q153_144, q153_145, q153_146, q153_147, q153_150, q153_151, q153_152, q153_154, k_35 hS, z_35, r_35_0 hS, k_14 hS, z_14, r_35_4 hS, k_39 hS, l_39 hS, z_39, r_35_5 hS, k_40 hS, l_40 hS, z_40, as_nil, as_i, as_r, Nat.reduceAdd, Nat.reduceLeDiff, z_eq0, z_eq1, z_or, z_em, Classical.not_not, not_false_eq_true, not_true_eq_false, true_and, and_true, false_and, and_false, and_self, true_implies, false_implies, implies_true, Option.toList_some, Option.toList_none, List.cons_append, List.nil_append, Nat.add_eq_zero_iff, a_nl_i, a_nl_r, a_nl_n, true_or, or_true, eq_self, a_isRA_22, a_isRA_24, a_isRA_32, a_isA_20, ok_4, ok_5, ok_6, ok_7, ok_9, ok_20, ok_21, ok_30, ok_50, ok_180, ok_192, ok_200, ha, hn]
    refine ⟨fun _ => hfail _ _ _, fun h3 => ⟨hx5, hx5, ?_⟩⟩
    have hf : fitP (J2 (C + 40) (nxt m i).toNatClampNeg) (J2 (R (C + 38) (i).toNatClampNeg) 2) := hf h3
    refine ck_lay ha hT2 hf (fun J3 j3 => ?_)
    simp only [q153_157, q153_160, q153_163, as_nil, as_i, as_r, Nat.reduceAdd, Nat.reduceLeDiff, z_eq0, z_eq1, z_or, z_em, Classical.not_not, not_false_eq_true, not_true_eq_false, true_and, and_true, false_and, and_false, and_self, true_implies, false_implies, implies_true, Option.toList_some, Option.toList_none, List.cons_append, List.nil_append, Nat.add_eq_zero_iff, a_nl_i, a_nl_r, a_nl_n, true_or, or_true, eq_self, a_isRA_22, a_isRA_24, a_isRA_32, a_isA_20, ok_4, ok_5, ok_6, ok_7, ok_9, ok_20, ok_21, ok_30, ok_50, ok_180, ok_192, ok_200]
    refine ih J3 _ _ _ _ ?_ ?_ ?_ (fun h k k0 k1 => ?_) (dL_L hL2 j3) (kE_L hT2 hE2 j3)
    · clear hP ih hN hL hE hT hF hend hT2 hL2 hE2 hfail; grind
    · clear hP ih hN hL hE hT hF hend hT2 hL2 hE2 hfail; grind
    · clear hP ih hN hL hE hT hF hend hT2 hL2 hE2 hfail; grind
    · by_cases e : k = i
      · subst e
        rw [e40, e2] at hf
        exact hf
      · refine hF ?_ k k0 ?_
        · clear hP ih hN hL hE hT hF hend hT2 hL2 hE2 hfail; grind
        · clear hP ih hN hL hE hT hF hend hT2 hL2 hE2 hfail; grind
theorem lk_turn_back_168 {m o : Int32} (hm : m ≤ 5) (hN : rnP C R m) (hp : ∀ k : Int32, 0 ≤ k → k < m → 0 ≤ I (C + 39) k.toNatClampNeg → fitP (I (C + 40) k.toNatClampNeg) (I (R (C + 38) (k).toNatClampNeg) 2)) (hs : ∀ k j : Int32, 0 ≤ k → k < m → 0 ≤ j → j < m → (R (C + 38) (k).toNatClampNeg) = (R (C + 38) (j).toNatClampNeg) → I (C + 40) k.toNatClampNeg = I (C + 40) j.toNatClampNeg) (hP : ∀ (v : Int32) J, dL C K L R I J → kE C K m I J → (v = 0 ∨ v = 1) → (¬ v = 0 → o = m) → (∀ k : Int32, 0 ≤ k → k < m → J (R (C + 38) (k).toNatClampNeg) 14 = I (C + 40) k.toNatClampNeg) → P (some (.int v)) (n, t, K, L, J, R)) : ∀ i : Int32, i ≤ 5 → ∀ J w q r, 0 ≤ i → i ≤ m → dL C K L R I J → kE C K m I J → (∀ k : Int32, 0 ≤ k → k < i → J (R (C + 38) (k).toNatClampNeg) 14 = I (C + 40) k.toNatClampNeg) → a_at (d + 5) (a_xm a_m153) 168 [some (a_rf (C + 35)), some (.int o), some (.int i), w, q, r] [] (n, t, K, L, J, R) P := by
  refine up_ind 5 (fun i hk ih => ?_)
  intro J w q r q0 qm hL hE hA
  have hT := hL.1
  have hS := hT.s
  have es := hE.1
  rw [q153_168]
  simp only [q153_169, q153_170, q153_173, q153_176, q153_177, q153_178, k_35 hS, z_35, as_nil, as_i, as_r, Nat.reduceAdd, Nat.reduceLeDiff, z_eq0, z_eq1, z_or, z_em, Classical.not_not, not_false_eq_true, not_true_eq_false, true_and, and_true, false_and, and_false, and_self, true_implies, false_implies, implies_true, Option.toList_some, Option.toList_none, List.cons_append, List.nil_append, Nat.add_eq_zero_iff, a_nl_i, a_nl_r, a_nl_n, true_or, or_true, eq_self, a_isRA_22, a_isRA_24, a_isRA_32, a_isA_20, ok_4, ok_5, ok_6, ok_7, ok_9, ok_20, ok_21, ok_30, ok_50, ok_180, ok_192, ok_200, es]
  refine ⟨fun h1 => ?_, fun h1 => ?_⟩
  · have e : i = m := by clear hP ih hN hL hE hT hA hp hs; grind
    subst e
    simp only [q153_187, q153_188, q153_189, q153_192, q153_195, q153_196, q153_199, q153_200, k_35 hS, z_35, as_nil, as_i, as_r, Nat.reduceAdd, Nat.reduceLeDiff, z_eq0, z_eq1, z_or, z_em, Classical.not_not, not_false_eq_true, not_true_eq_false, true_and, and_true, false_and, and_false, and_self, true_implies, false_implies, implies_true, Option.toList_some, Option.toList_none, List.cons_append, List.nil_append, Nat.add_eq_zero_iff, a_nl_i, a_nl_r, a_nl_n, true_or, or_true, eq_self, a_isRA_22, a_isRA_24, a_isRA_32, a_isA_20, ok_4, ok_5, ok_6, ok_7, ok_9, ok_20, ok_21, ok_30, ok_50, ok_180, ok_192, ok_200, es]
    have h1 := hP 1 J hL hE (Or.inr rfl)
    have h0 := hP 0 J hL hE (Or.inl rfl) (fun h => absurd rfl h) hA
    repeat' first
      | with_reducible apply And.intro
      | with_reducible intro _
      | exact h0
      | (refine h1 (fun _ => ?_) hA; assumption)
      | decide
  · have h1 := Int32.not_le.mp h1
    have hi : 0 ≤ i ∧ i < 5 := by clear hP ih hN hL hE hT hA hp hs; grind
    have ha := rn_ask hT hN q0 h1
    have e40 := hE.2.2.1 i.toNatClampNeg
    have e39 := hE.2.1 i.toNatClampNeg
    have e2 := hE.2.2.2 _ ha
    refine ck_restore hi rfl ha hT (by rw [e39, e40, e2]; exact hp i q0 h1) (fun J2 j2 x1 x2 x3 => ?_)
    simp only [q153_181, q153_184, as_nil, as_i, as_r, Nat.reduceAdd, Nat.reduceLeDiff, z_eq0, z_eq1, z_or, z_em, Classical.not_not, not_false_eq_true, not_true_eq_false, true_and, and_true, false_and, and_false, and_self, true_implies, false_implies, implies_true, Option.toList_some, Option.toList_none, List.cons_append, List.nil_append, Nat.add_eq_zero_iff, a_nl_i, a_nl_r, a_nl_n, true_or, or_true, eq_self, a_isRA_22, a_isRA_24, a_isRA_32, a_isA_20, ok_4, ok_5, ok_6, ok_7, ok_9, ok_20, ok_21, ok_30, ok_50, ok_180, ok_192, ok_200]
    refine ih hi.2 J2 _ _ _ (by clear hP ih hN hL hE hT hA hp hs j2 x3; grind) (by clear hP ih hN hL hE hT hA hp hs j2 x3; grind) (dL_L hL j2) (kE_L hT hE j2) (fun k k0 k1 => ?_)
    have km : k < m := by clear hP ih hN hL hE hT hA hp hs j2 x3; grind
    by_cases e : (R (C + 38) (k).toNatClampNeg) = (R (C + 38) (i).toNatClampNeg)
    · rw [e, x2, e40]
      exact (hs k i k0 km q0 h1 e).symm
    · rw [x3 _ (rn_ask hT hN k0 km) e]
      refine hA k k0 ?_
      have : ¬ k = i := fun h => e (by rw [h])
      clear hP ih hN hL hE hT hA hp hs j2 x3
      grind
theorem ck_canTurn {m : Int32} (h1m : 1 ≤ m) (hm : m ≤ 5) (hN : rnP C R m) (es : I (C + 35) 7 = m) (hT : cT C K L I R) (hP : ∀ (v : Int32) J, dR C K L R I J → (v = 0 ∨ v = 1) → (¬ v = 0 → frP C J R m) → P (some (.int v)) (n, t, K, L, J, R)) : a_does (d + 6) 153 [a_rf (C + 35)] (n, t, K, L, I, R) P := by
  have hS := hT.s
  rw [a_enter1 (M := a_m153) rfl (a_cat_rf a_cat_nil) (show 1 ≤ 6 by decide)]
  show a_at _ (a_xm a_m153) 0 [some (a_rf (C + 35)), none, none, none, none, none] [] _ _
  simp only [q153_0, q153_1, k_35 hS, z_35, as_nil, as_i, as_r, Nat.reduceAdd, Nat.reduceLeDiff, z_eq0, z_eq1, z_or, z_em, Classical.not_not, not_false_eq_true, not_true_eq_false, true_and, and_true, false_and, and_false, and_self, true_implies, false_implies, implies_true, Option.toList_some, Option.toList_none, List.cons_append, List.nil_append, Nat.add_eq_zero_iff, a_nl_i, a_nl_r, a_nl_n, true_or, or_true, eq_self, a_isRA_22, a_isRA_24, a_isRA_32, a_isA_20, ok_4, ok_5, ok_6, ok_7, ok_9, ok_20, ok_21, ok_30, ok_50, ok_180, ok_192, ok_200]
  refine ck_keepPlaces hT (by rw [es]; exact hN) (fun J1 t1 f1 k1 => ?_)
  rw [es] at k1
  simp only [q153_4, q153_5, as_nil, as_i, as_r, Nat.reduceAdd, Nat.reduceLeDiff, z_eq0, z_eq1, z_or, z_em, Classical.not_not, not_false_eq_true, not_true_eq_false, true_and, and_true, false_and, and_false, and_self, true_implies, false_implies, implies_true, Option.toList_some, Option.toList_none, List.cons_append, List.nil_append, Nat.add_eq_zero_iff, a_nl_i, a_nl_r, a_nl_n, true_or, or_true, eq_self, a_isRA_22, a_isRA_24, a_isRA_32, a_isA_20, ok_4, ok_5, ok_6, ok_7, ok_9, ok_20, ok_21, ok_30, ok_50, ok_180, ok_192, ok_200]
  have r1 : dR C K L R I J1 := ⟨t1, fun x j _ _ p q r _ => f1 x j p q r⟩
  have m5 : ∀ k : Int32, k < m → 0 ≤ k → True := fun _ _ _ => trivial
  have ask14 : ∀ k : Int32, 0 ≤ k → k < m → ∀ j, J1 (R (C + 38) (k).toNatClampNeg) j = I (R (C + 38) (k).toNatClampNeg) j := fun k k0 kk j => by
    have := (hT.g_ask _ (rn_ask hT hN k0 kk)).1
    exact f1 _ _ (by omega) (by omega) (by omega)
  have e1 : kE C K m J1 J1 := ⟨by rw [f1 _ _ (by omega) (by omega) (by omega)]; exact es, fun _ => rfl, fun _ => rfl, fun _ _ => rfl⟩
  refine lk_turn_lift_6 hm hN (fun J2 l2 e2 u v w q r => ?_) 0 (by decide) J1 _ _ _ _ (by decide) (dL_refl t1) e1
  simp only [q153_33, q153_34, q153_35, q153_36, as_nil, as_i, as_r, Nat.reduceAdd, Nat.reduceLeDiff, z_eq0, z_eq1, z_or, z_em, Classical.not_not, not_false_eq_true, not_true_eq_false, true_and, and_true, false_and, and_false, and_self, true_implies, false_implies, implies_true, Option.toList_some, Option.toList_none, List.cons_append, List.nil_append, Nat.add_eq_zero_iff, a_nl_i, a_nl_r, a_nl_n, true_or, or_true, eq_self, a_isRA_22, a_isRA_24, a_isRA_32, a_isA_20, ok_4, ok_5, ok_6, ok_7, ok_9, ok_20, ok_21, ok_30, ok_50, ok_180, ok_192, ok_200]
  have fitI : ∀ k : Int32, 0 ≤ k → k < m → 0 ≤ I (R (C + 38) (k).toNatClampNeg) 13 → fitP (I (R (C + 38) (k).toNatClampNeg) 14) (I (R (C + 38) (k).toNatClampNeg) 2) := fun k k0 kk h => (hT.g_ask _ (rn_ask hT hN k0 kk)).2.2.2 h
  have x40 : ∀ J, kE C K m J1 J → ∀ k : Int32, 0 ≤ k → k < m → J (C + 40) k.toNatClampNeg = I (R (C + 38) (k).toNatClampNeg) 14 := fun J h k k0 kk => (h.2.2.1 _).trans (k1 k k0 kk).2
  have x39 : ∀ J, kE C K m J1 J → ∀ k : Int32, 0 ≤ k → k < m → J (C + 39) k.toNatClampNeg = I (R (C + 38) (k).toNatClampNeg) 13 := fun J h k k0 kk => (h.2.1 _).trans (k1 k k0 kk).1
  have x2 : ∀ J, kE C K m J1 J → ∀ k : Int32, 0 ≤ k → k < m → J (R (C + 38) (k).toNatClampNeg) 2 = I (R (C + 38) (k).toNatClampNeg) 2 := fun J h k k0 kk => (h.2.2.2 _ (rn_ask hT hN k0 kk)).trans (ask14 k k0 kk 2)
  have kEr : ∀ J, kE C K m J1 J → kE C K m J J := fun J h => ⟨h.1, fun _ => rfl, fun _ => rfl, fun _ _ => rfl⟩
  have kEt : ∀ J J0, kE C K m J1 J → kE C K m J J0 → kE C K m J1 J0 := fun J J0 h g => ⟨g.1, fun k => (g.2.1 k).trans (h.2.1 k), fun k => (g.2.2.1 k).trans (h.2.2.1 k), fun b hb => (g.2.2.2 b hb).trans (h.2.2.2 b hb)⟩
  refine lk_turn_lay_37 h1m hm hN (fun J3 o l3 e3 g3 v w q r => ?_) 0 (by decide) J2 0 _ _ _ (by decide) (by clear hP k1 m5 ask14 fitI x40 x39 x2 kEr kEt; grind) (by decide) (fun _ k k0 kk => absurd kk (Int32.not_lt.mpr k0)) (dL_refl l2.1) (kEr J2 e2)
  simp only [q153_166, q153_167, as_nil, as_i, as_r, Nat.reduceAdd, Nat.reduceLeDiff, z_eq0, z_eq1, z_or, z_em, Classical.not_not, not_false_eq_true, not_true_eq_false, true_and, and_true, false_and, and_false, and_self, true_implies, false_implies, implies_true, Option.toList_some, Option.toList_none, List.cons_append, List.nil_append, Nat.add_eq_zero_iff, a_nl_i, a_nl_r, a_nl_n, true_or, or_true, eq_self, a_isRA_22, a_isRA_24, a_isRA_32, a_isA_20, ok_4, ok_5, ok_6, ok_7, ok_9, ok_20, ok_21, ok_30, ok_50, ok_180, ok_192, ok_200]
  have e3 := kEt _ _ e2 e3
  refine lk_turn_back_168 (I := J3) hm hN (fun k k0 kk h => ?_) (fun k j k0 kk j0 jj h => ?_) (fun v J4 l4 e4 b4 o4 a4 => ?_) 0 (by decide) J3 _ _ _ (by decide) (by clear hP k1 m5 ask14 fitI x40 x39 x2 kEr kEt; grind) (dL_refl l3.1) (kEr J3 e3) (fun k k0 kk => absurd kk (Int32.not_lt.mpr k0))
  · rw [x39 J3 e3 k k0 kk] at h
    rw [x40 J3 e3 k k0 kk, x2 J3 e3 k k0 kk]
    exact fitI k k0 kk h
  · rw [x40 J3 e3 k k0 kk, x40 J3 e3 j j0 jj, h]
  · have e4 := kEt _ _ e3 e4
    refine hP v J4 (dR_L (dR_L (dR_L r1 l2) l3) l4) b4 (fun hv k k0 kk => ?_)
    obtain ⟨n0, n1⟩ := nxt_lt hm k0 kk
    have g := g3 (o4 hv) k k0 kk
    rw [x40 J2 e2 _ n0 n1, x2 J2 e2 k k0 kk] at g
    rw [a4 _ n0 n1, x40 J3 e3 _ n0 n1, x2 J4 e4 k k0 kk]
    exact g
end KG

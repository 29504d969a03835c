/-! bench -/
section ZO0
variable {d n t C c n0 n' n'' t' : Nat} {K L K0 L0 K' L' K'' L'' : Nat → Nat} {I I0 J J0 J1 J2 : Nat → Nat → Int32} {R R0 R' R'' : Nat → Nat → Nat} {P : Option Value → AH → Prop}
theorem le_Binit_51 {b : Nat} (hb : K b = 3) (b0 : (b = 0) = False) (w0 : (R b 2 = 0) = False) (w2 : K (R b 2) = 20) (w3 : L (R b 2) = 200) (h0 : (R b 4 = 0) = False) (h2 : K (R b 4) = 20) (h3 : L (R b 4) = 200) {p q : Int32} (ne : ¬ R b 2 = R b 4) (hP : ∀ J, (∀ x j, ¬ x = R b 2 → ¬ x = R b 4 → J x j = I x j) → (∀ j, j < 200 → J (R b 2) j = -9 ∧ J (R b 4) j = -9) → P none (n, t, K, L, J, R)) : ∀ i : Int32, i ≤ 200 → ∀ J, 0 ≤ i → (∀ x j, ¬ x = R b 2 → ¬ x = R b 4 → J x j = I x j) → (∀ j, j < i.toNatClampNeg → J (R b 2) j = -9 ∧ J (R b 4) j = -9) → a_at d (a_xm a_m22) 51 [some (a_rf b), some (.int p), some (.int q), some (.int i)] [] (n, t, K, L, J, R) P := by
  refine up_ind 200 (fun i hk ih => ?_)
  intro J q0 hJ hW
  have hend : ¬ i < 200 → P none (n, t, K, L, J, R) := fun e => by
    have : i = 200 := by clear ih hP hJ hW; grind
    subst this
    exact hP J hJ hW
  have hgo : i < 200 → a_at d (a_xm a_m22) 51 [some (a_rf b), some (.int p), some (.int q), some (.int (i + 1))] [] (n, t, K, L, (a_ui (a_ui J (R b 2) i.toNatClampNeg (-9)) (R b 4) i.toNatClampNeg (-9)), R) P := fun e => by
    obtain ⟨-, s2, -, s4⟩ := lp_st q0 e
    refine ih e _ s2 (fun x j e1 e2 => by rw [ui_ap, if_neg (fun e => e2 e.1), ui_ap, if_neg (fun e => e1 e.1)]; exact hJ x j e1 e2) (fun j hj => ?_)
    rw [s4] at hj
    rw [ui_ap, if_neg (fun w => ne w.1), ui_ap, ui_ap, ui_ap, if_neg (c := R b 4 = R b 2 ∧ j = i.toNatClampNeg) (fun w => ne w.1.symm)]
    by_cases e2 : j = i.toNatClampNeg
    · rw [if_pos ⟨rfl, e2⟩, if_pos ⟨rfl, e2⟩]
      exact ⟨rfl, rfl⟩
    · rw [if_neg (fun w => e2 w.2), if_neg (fun w => e2 w.2)]
      exact hW j (by omega)
  clear ih hP hJ hW
  rw [q22_51]
  repeat' first
    | with_reducible apply And.intro
    | with_reducible assumption
    | with_reducible intro _
    | refine hend ?_
    | refine hgo ?_
    | simp only [q22_52, q22_55, q22_58, q22_59, q22_62, q22_63, q22_65, q22_66, q22_67, q22_70, q22_71, q22_73, q22_74, q22_77, q22_80, as_nil, as_i, as_r, Nat.reduceAdd, Nat.reduceLeDiff, z_eq0, z_eq1, z_or, z_em, Classical.not_not, not_false_eq_true, not_true_eq_false, true_and, and_true, false_and, and_false, and_self, true_implies, false_implies, implies_true, Option.toList_some, Option.toList_none, List.cons_append, List.nil_append, Nat.add_eq_zero_iff, a_nl_i, a_nl_r, a_nl_n, true_or, or_true, eq_self, a_isRA_22, a_isRA_24, a_isRA_32, a_isA_20, ok_4, ok_5, ok_6, ok_7, ok_9, ok_20, ok_21, ok_30, ok_50, ok_180, ok_192, ok_200, hb, b0, w0, w2, w3, h0, h2, h3]
  all_goals ((try clear hend); (try clear hgo); grind [ui_ap])
theorem ce_Binit (hn : ∀ x, n + 1 ≤ x → K x = 0) {p q : Int32} (hP : ∀ K' L' J' R', K' (n + 1) = 3 → (∀ x, x < n + 1 → K' x = K x) → (∀ x, n + 1 + 5 ≤ x → K' x = 0) → (∀ x, n + 1 < x → x < n + 1 + 5 → K' x = 20) → (∀ x, x < n + 1 → L' x = L x) → L' (n + 2) = 200 → L' (n + 3) = 200 → L' (n + 4) = 200 → L' (n + 5) = 80 → (∀ x j, x < n + 1 → J' x j = I x j) → (∀ x j, x < n + 1 → R' x j = R x j) → R' (n + 1) 2 = n + 2 → R' (n + 1) 3 = n + 3 → R' (n + 1) 4 = n + 4 → R' (n + 1) 5 = n + 5 → J' (n + 1) 6 = 0 → (J' (n + 1) 0 = p ∧ J' (n + 1) 1 = q) → (∀ j, j < 200 → J' (n + 2) j = -9 ∧ J' (n + 4) j = -9) → (∀ j, J' (n + 3) j = 0) → P none (n + 1 + 5, t + 680, K', L', J', R')) : a_does (d + 1) 22 [a_rf (n + 1), .int p, .int q] (n + 1 + 1, t, a_up K (n + 1) 3, a_up L (n + 1) 7, a_zi I (n + 1), a_zr R (n + 1)) P := by
  have f0 : (n + 1 = 0) = False := eq_false (by omega)
  have f1 : (n + 1 + 1 = 0) = False := eq_false (by omega)
  rw [a_enter1 (M := a_m22) rfl (a_cat_rf (a_cat_int (a_cat_int a_cat_nil))) (show 3 ≤ 4 by decide)]
  show a_at _ (a_xm a_m22) 0 [some (a_rf (n+1)), some (.int p), some (.int q), none] [] _ _
  simp only [q22_0, as_nil, as_i, as_r, Nat.reduceAdd, Nat.reduceLeDiff, z_eq0, z_eq1, z_or, z_em, Classical.not_not, not_false_eq_true, not_true_eq_false, true_and, and_true, false_and, and_false, and_self, true_implies, false_implies, implies_true, Option.toList_some, Option.toList_none, List.cons_append, List.nil_append, Nat.add_eq_zero_iff, a_nl_i, a_nl_r, a_nl_n, true_or, or_true, eq_self, a_isRA_22, a_isRA_24, a_isRA_32, a_isA_20, ok_4, ok_5, ok_6, ok_7, ok_9, ok_20, ok_21, ok_30, ok_50, ok_180, ok_192, ok_200]
  rw [q22_1 (show ¬ n + 1 = 0 by omega) (show a_sum [] ≤ 8 by decide)]
  simp only [q22_4, q22_5, q22_6, q22_9, q22_10, q22_11, q22_14, q22_15, q22_18, q22_20, q22_23, q22_24, q22_27, q22_29, q22_32, q22_33, q22_36, q22_38, q22_41, q22_42, q22_44, q22_46, q22_49, q22_50, as_nil, as_i, as_r, Nat.reduceAdd, Nat.reduceLeDiff, z_eq0, z_eq1, z_or, z_em, Classical.not_not, not_false_eq_true, not_true_eq_false, true_and, and_true, false_and, and_false, and_self, true_implies, false_implies, implies_true, Option.toList_some, Option.toList_none, List.cons_append, List.nil_append, Nat.add_eq_zero_iff, a_nl_i, a_nl_r, a_nl_n, true_or, or_true, eq_self, a_isRA_22, a_isRA_24, a_isRA_32, a_isA_20, ok_4, ok_5, ok_6, ok_7, ok_9, ok_20, ok_21, ok_30, ok_50, ok_180, ok_192, ok_200, up_ap, up_eq, Nat.add_left_cancel_iff, Nat.add_right_cancel_iff, Nat.reduceEqDiff, if_true, if_false, ur_ap, n_ne, cn_200, cn_80, ng_200, ng_80, f0, f1]
  have hne : ∀ x, x < n + 1 → (¬ x = n + 1) ∧ (¬ x = n + 2) ∧ (¬ x = n + 3) ∧ (¬ x = n + 4) ∧ (¬ x = n + 5) := fun x hx => by omega
  have hk : ∀ x : Nat, a_up (a_up (a_up (a_up (a_up K (n + 1) 3) (n + 1 + 1) 20) (n + 2 + 1) 20) (n + 3 + 1) 20) (n + 4 + 1) 20 x = if x = n + 5 then 20 else if x = n + 4 then 20 else if x = n + 3 then 20 else if x = n + 2 then 20 else if x = n + 1 then 3 else K x := fun x => rfl
  have hl : ∀ x : Nat, a_up (a_up (a_up (a_up (a_up L (n + 1) 7) (n + 1 + 1) 200) (n + 2 + 1) 200) (n + 3 + 1) 200) (n + 4 + 1) 80 x = if x = n + 5 then 80 else if x = n + 4 then 200 else if x = n + 3 then 200 else if x = n + 2 then 200 else if x = n + 1 then 7 else L x := fun x => rfl
  generalize a_up (a_up (a_up (a_up (a_up K (n + 1) 3) (n + 1 + 1) 20) (n + 2 + 1) 20) (n + 3 + 1) 20) (n + 4 + 1) 20 = K5 at hk ⊢
  generalize a_up (a_up (a_up (a_up (a_up L (n + 1) 7) (n + 1 + 1) 200) (n + 2 + 1) 200) (n + 3 + 1) 200) (n + 4 + 1) 80 = L5 at hl ⊢
  generalize hr5 : a_ur (a_zr (a_ur (a_zr (a_ur (a_zr (a_ur (a_zr (a_zr R (n + 1)) (n + 1 + 1)) (n + 1) 2 (n + 1 + 1)) (n + 2 + 1)) (n + 1) 3 (n + 2 + 1)) (n + 3 + 1)) (n + 1) 4 (n + 3 + 1)) (n + 4 + 1)) (n + 1) 5 (n + 4 + 1) = R5
  generalize hi5 : a_zi (a_zi (a_zi (a_zi (a_ui (a_ui (a_zi I (n + 1)) (n + 1) 0 p) (n + 1) 1 q) (n + 1 + 1)) (n + 2 + 1)) (n + 3 + 1)) (n + 4 + 1) = I5
  have r2 : R5 (n + 1) 2 = n + 2 := by rw [← hr5]; simp [ur_ap, zr_ap]
  have r3 : R5 (n + 1) 3 = n + 3 := by rw [← hr5]; simp [ur_ap, zr_ap]
  have r4 : R5 (n + 1) 4 = n + 4 := by rw [← hr5]; simp [ur_ap, zr_ap]
  have r5 : R5 (n + 1) 5 = n + 5 := by rw [← hr5]; simp [ur_ap, zr_ap]
  have rx : ∀ x j, x < n + 1 → R5 x j = R x j := fun x j hx => by
    obtain ⟨e1, e2, e3, e4, e5⟩ := hne x hx
    rw [← hr5]
    simp [ur_ap, zr_ap, e1, e2, e3, e4, e5]
  have ix : ∀ x j, x < n + 1 → I5 x j = I x j := fun x j hx => by
    obtain ⟨e1, e2, e3, e4, e5⟩ := hne x hx
    rw [← hi5]
    simp [ui_ap, zi_ap, e1, e2, e3, e4, e5]
  have i6 : I5 (n + 1) 6 = 0 := by rw [← hi5]; simp [ui_ap, zi_ap]
  have i01 : I5 (n + 1) 0 = p ∧ I5 (n + 1) 1 = q := by rw [← hi5]; simp [ui_ap, zi_ap]
  have i3 : ∀ j, I5 (n + 3) j = 0 := fun j => by rw [← hi5]; simp [ui_ap, zi_ap]
  clear hr5 hi5
  refine ⟨by simp, by simp, by simp, by simp, ?_⟩
  refine le_Binit_51 (by rw [hk]; simp) f0 (by rw [r2]; simp) (by rw [r2, hk]; simp) (by rw [r2, hl]; simp) (by rw [r4]; simp) (by rw [r4, hk]; simp) (by rw [r4, hl]; simp) (by rw [r2, r4]; omega) (fun J hJ hW => ?_) 0 (by decide) I5 (by decide) (fun _ _ _ _ => rfl) (fun j hj => absurd hj (Nat.not_lt_zero j))
  rw [r2, r4] at hJ hW
  have e680 : t + 200 + 200 + 200 + 80 = t + 680 := by omega
  rw [e680]
  refine hP K5 L5 J R5 (by rw [hk]; simp) (fun x hx => ?_) (fun x hx => ?_) (fun x h1 h2 => ?_) (fun x hx => ?_) (by rw [hl]; simp) (by rw [hl]; simp) (by rw [hl]; simp) (by rw [hl]; simp) (fun x j hx => ?_) rx r2 r3 r4 r5 ?_ ⟨?_, ?_⟩ hW (fun j => ?_)
  · obtain ⟨e1, e2, e3, e4, e5⟩ := hne x hx
    rw [hk]
    simp [e1, e2, e3, e4, e5]
  · rw [hk, if_neg (by omega), if_neg (by omega), if_neg (by omega), if_neg (by omega), if_neg (by omega)]
    exact hn x (by omega)
  · rw [hk]
    rcases (by omega : x = n + 2 ∨ x = n + 3 ∨ x = n + 4 ∨ x = n + 5) with e | e | e | e <;> subst e <;> simp
  · obtain ⟨e1, e2, e3, e4, e5⟩ := hne x hx
    rw [hl]
    simp [e1, e2, e3, e4, e5]
  · rw [hJ x j (by omega) (by omega)]
    exact ix x j hx
  · rw [hJ _ _ (by omega) (by omega)]
    exact i6
  · rw [hJ _ _ (by omega) (by omega)]
    exact i01.1
  · rw [hJ _ _ (by omega) (by omega)]
    exact i01.2
  · rw [hJ _ _ (by omega) (by omega)]
    exact i3 j
theorem ce_addBench (hH : cH C c (n + 1) t K L I R) {p q : Int32} (hc : ¬ 6 ≤ I (C + 14) 5) (hP : ∀ t' K' L' J R', cH C (c + 1) (n + 1 + 5) t' K' L' (a_ui J (C + 14) 5 (I (C + 14) 5 + 1)) (a_ur R' (C + 16) (I (C + 14) 5).toNatClampNeg (n + 1)) → cT C K' L' J R' → K' (n + 1) = 3 → (∀ x, x < n + 1 → K' x = K x) → (∀ x, x < n + 1 → L' x = L x) → (∀ x j, x < n + 1 → J x j = I x j) → (∀ x j, x < n + 1 → R' x j = R x j) → R' (n + 1) 2 = n + 2 → R' (n + 1) 3 = n + 3 → R' (n + 1) 4 = n + 4 → R' (n + 1) 5 = n + 5 → (J (n + 1) 0 = p ∧ J (n + 1) 1 = q) → (∀ j, j < 200 → J (n + 2) j = -9 ∧ J (n + 4) j = -9) → (∀ j, J (n + 3) j = 0) → (J (n + 1) 6 = 0) → P (some (.int (I (C + 14) 5 + 1 - 1))) (n + 1 + 5, t', K', L', (a_ui J (C + 14) 5 (I (C + 14) 5 + 1)), (a_ur R' (C + 16) (I (C + 14) 5).toNatClampNeg (n + 1)))) : a_does (d + 2) 21 [a_rf (C + 14), .int p, .int q] (n + 1, t, K, L, I, R) P := by
  have hT := hH.1
  have hS := hT.s
  have g := hT.g_benches
  have fr := hH.2.1
  have hC := hH.2.2.1
  have ok6 : 0 ≤ I (C + 14) 5 ∧ I (C + 14) 5 < 6 := ⟨g.1, Int32.not_le.mp hc⟩
  have hc' : I (C + 14) 5 < 6 := ok6.2
  have f1 : (n + 1 = 0) = False := eq_false (by omega)
  rw [a_enter1 (M := a_m21) rfl (a_cat_rf (a_cat_int (a_cat_int a_cat_nil))) (show 3 ≤ 3 by decide)]
  show a_at _ (a_xm a_m21) 0 [some (a_rf (C + 14)), some (.int p), some (.int q)] [] _ _
  simp only [q21_0, q21_1, q21_4, q21_6, q21_9, q21_11, q21_12, q21_13, q21_16, q21_17, q21_20, q21_23, q21_24, q21_25, q21_26, k_14 hS, z_14, r_14_3 hS, k_16 hS, l_16 hS, z_16, as_nil, as_i, as_r, Nat.reduceAdd, Nat.reduceLeDiff, z_eq0, z_eq1, z_or, z_em, Classical.not_not, not_false_eq_true, not_true_eq_false, true_and, and_true, false_and, and_false, and_self, true_implies, false_implies, implies_true, Option.toList_some, Option.toList_none, List.cons_append, List.nil_append, Nat.add_eq_zero_iff, a_nl_i, a_nl_r, a_nl_n, true_or, or_true, eq_self, a_isRA_22, a_isRA_24, a_isRA_32, a_isA_20, ok_4, ok_5, ok_6, ok_7, ok_9, ok_20, ok_21, ok_30, ok_50, ok_180, ok_192, ok_200, hc', hc, f1]
  refine ce_Binit fr (fun K' L' J' R' k1 k2 k3 k4 l0 l2 l3 l4 l5 j1 r1 r2 r3 r4 r5 j6 j01 jW jS => ?_)
  have hT2 : cT C K' L' J' R' := by
    refine cT_grow hT fr hC k2 l0 j1 r1 (fun a h1 h2 => ?_) (fun b h1 h2 => ?_) (fun x h1 h2 => ?_)
    · rcases (by omega : a = n + 1 ∨ (n + 1 < a ∧ a < n + 1 + 5) ∨ n + 1 + 5 ≤ a) with e | e | e
      · rw [e, k1] at h2; cases h2
      · rw [k4 a e.1 e.2] at h2; cases h2
      · rw [k3 a e] at h2; cases h2
    · rcases (by omega : b = n + 1 ∨ (n + 1 < b ∧ b < n + 1 + 5) ∨ n + 1 + 5 ≤ b) with e | e | e
      · subst e
        rw [r2, r3, r4, r5, j6, l2, l3, l4, l5, k4 _ (by omega) (by omega), k4 _ (by omega) (by omega), k4 _ (by omega) (by omega), k4 _ (by omega) (by omega)]
        exact ⟨by omega, ⟨by omega, rfl, rfl⟩, ⟨by omega, rfl, rfl⟩, ⟨by omega, rfl, rfl⟩, ⟨by omega, rfl, 1, rfl, by decide, by decide⟩, by decide, by decide, by decide⟩
      · rw [k4 b e.1 e.2] at h2; cases h2
      · rw [k3 b e] at h2; cases h2
    · rcases (by omega : x = n + 1 ∨ (n + 1 < x ∧ x < n + 1 + 5) ∨ n + 1 + 5 ≤ x) with e | e | e
      · rw [e, k1] at h2; cases h2
      · rw [k4 x e.1 e.2] at h2; cases h2
      · rw [k3 x e] at h2; cases h2
  have e5 : J' (C + 14) 5 = I (C + 14) 5 := j1 _ _ (by omega)
  have hS2 := hT2.s
  have hT3 := sT_addBench hT2 k1 (by rw [e5]; exact hc)
  have hV : cV C L' (a_ur R' (C + 16) (I (C + 14) 5).toNatClampNeg (n + 1)) = cV C L R + 80 := by
    have hi : (I (C + 14) 5).toNatClampNeg < 6 := show _ < (6 : Int32).toNatClampNeg from cl_lt g.1 hc'
    have hv : ∀ i, L' (a_ur R' (C + 16) (I (C + 14) 5).toNatClampNeg (n + 1) (a_ur R' (C + 16) (I (C + 14) 5).toNatClampNeg (n + 1) (C + 16) i) 5) = L (R (R (C + 16) i) 5) + if i = (I (C + 14) 5).toNatClampNeg then 80 else 0 := fun i => by
      rw [ur_ap R' _ _ _ (C + 16) i]
      by_cases e : i = (I (C + 14) 5).toNatClampNeg
      · rw [if_pos ⟨rfl, e⟩, if_pos e, ur_ap, if_neg (by omega), r5, l5, hT.g_benN i (by omega), hH.2.2.2.1.1, hH.2.2.2.1.2]
      · rw [if_neg (fun q => e q.2), if_neg e, r1 _ _ (by omega)]
        rcases hT.g_benchesR i with q | q
        · rw [q, ur_ap, if_neg (by omega), r1 _ _ (by omega), hH.2.2.2.1.1, l0 _ (by omega)]
          rfl
        · have b1 := (hT.g_bnc _ q).1
          have l1 := kn_lt fr q (by decide)
          rw [ur_ap, if_neg (by omega), r1 _ _ l1, l0 _ (kn_lt fr (hT.g_bnc _ q).2.2.2.2.1.2.1 (by decide))]
          rfl
    unfold cV
    rw [hv 0, hv 1, hv 2, hv 3, hv 4, hv 5]
    generalize (I (C + 14) 5).toNatClampNeg = z at hi
    rcases (by omega : z = 0 ∨ z = 1 ∨ z = 2 ∨ z = 3 ∨ z = 4 ∨ z = 5) with e | e | e | e | e | e <;> subst e <;> simp <;> omega
  rw [e5] at hT3
  have hfin := hP (t + 7 + 680) K' L' J' R' ⟨hT3, k3, by omega, ⟨by rw [ur_ap, if_neg (by omega), r1 _ _ (by omega)]; exact hH.2.2.2.1.1, by rw [l0 _ (by omega)]; exact hH.2.2.2.1.2⟩, by rw [hV]; have := hH.2.2.2.2.1; omega, by rw [hV]; have := hH.2.2.2.2.2; omega⟩ hT2 k1 k2 l0 j1 r1 r2 r3 r4 r5 j01 jW jS j6
  have hS := hS2
  simp only [q21_29, q21_30, q21_31, q21_32, q21_35, q21_36, q21_37, q21_40, q21_41, q21_44, q21_45, q21_46, k_14 hS, z_14, as_nil, as_i, as_r, Nat.reduceAdd, Nat.reduceLeDiff, z_eq0, z_eq1, z_or, z_em, Classical.not_not, not_false_eq_true, not_true_eq_false, true_and, and_true, false_and, and_false, and_self, true_implies, false_implies, implies_true, Option.toList_some, Option.toList_none, List.cons_append, List.nil_append, Nat.add_eq_zero_iff, a_nl_i, a_nl_r, a_nl_n, true_or, or_true, eq_self, a_isRA_22, a_isRA_24, a_isRA_32, a_isA_20, ok_4, ok_5, ok_6, ok_7, ok_9, ok_20, ok_21, ok_30, ok_50, ok_180, ok_192, ok_200, ui_ap, cc_ne, cc_n0, cc_0n, Nat.reduceEqDiff, reduceIte, if_true, if_false, k_16 hS, l_16 hS, z_16, e5, k1, hc', g.1]
  repeat' first
    | with_reducible apply And.intro
    | exact hfin
    | exact ok6.1
    | exact hc'
    | (right; rfl)
    | decide
theorem ky_bench (hH : cH C c (n + 1) t K L I R) {p q : Int32} (h1 : (p < 0 ∨ q < 0) → ∀ J, rfQ C c (n + 1) t K L I R J → P (some (.int (-4))) (n + 1, t, K, L, J, R)) (h2 : ¬ (p < 0 ∨ q < 0) → (255 < p ∨ 255 < q ∨ 6 ≤ I (C + 14) 5) → ∀ J, rfQ C c (n + 1) t K L I R J → P (some (.int (-6))) (n + 1, t, K, L, J, R)) (hP : ¬ (p < 0 ∨ q < 0) → ¬ (255 < p ∨ 255 < q ∨ 6 ≤ I (C + 14) 5) → ∀ t' K' L' J R', cH C (c + 1) (n + 1 + 5) t' K' L' (a_ui J (C + 14) 5 (I (C + 14) 5 + 1)) (a_ur R' (C + 16) (I (C + 14) 5).toNatClampNeg (n + 1)) → cT C K' L' J R' → K' (n + 1) = 3 → (∀ x, x < n + 1 → K' x = K x) → (∀ x, x < n + 1 → L' x = L x) → (∀ x j, x < n + 1 → J x j = I x j) → (∀ x j, x < n + 1 → R' x j = R x j) → R' (n + 1) 2 = n + 2 → R' (n + 1) 3 = n + 3 → R' (n + 1) 4 = n + 4 → R' (n + 1) 5 = n + 5 → (J (n + 1) 0 = p ∧ J (n + 1) 1 = q) → (∀ j, j < 200 → J (n + 2) j = -9 ∧ J (n + 4) j = -9) → (∀ j, J (n + 3) j = 0) → (J (n + 1) 6 = 0) → P (some (.int (I (C + 14) 5 + 1 - 1))) (n + 1 + 5, t', K', L', (a_ui J (C + 14) 5 (I (C + 14) 5 + 1)), (a_ur R' (C + 16) (I (C + 14) 5).toNatClampNeg (n + 1)))) : a_does (d + 70) 20 [a_rf C, .int p, .int q] (n + 1, t, K, L, I, R) P := by
  have hT := hH.1
  have hS := hT.s
  have hZ := cZ_refl hH
  have gneg : ¬ p < 0 → 0 ≤ q → ¬ (p < 0 ∨ q < 0) := fun a b e => e.elim a (fun x => absurd b (Int32.not_le.mpr x))
  have hgo : ¬ p < 0 → 0 ≤ q → ¬ 255 < p → ¬ 255 < q → I (C + 14) 5 < 6 → a_at (d + 69) (a_xm a_m20) 48 [some (a_rf C), some (.int p), some (.int q)] [] (n + 1, t, K, L, I, R) P := fun a b c1 d1 e1 => by
    have hP := hP (gneg a b) (fun e => e.elim c1 (fun e => e.elim d1 (fun x => absurd e1 (Int32.not_lt.mpr x))))
    simp only [q20_48, q20_49, q20_52, q20_53, q20_54, k_0 hS, z_C hS, r_0_4 hS, k_14 hS, z_14, as_nil, as_i, as_r, Nat.reduceAdd, Nat.reduceLeDiff, z_eq0, z_eq1, z_or, z_em, Classical.not_not, not_false_eq_true, not_true_eq_false, true_and, and_true, false_and, and_false, and_self, true_implies, false_implies, implies_true, Option.toList_some, Option.toList_none, List.cons_append, List.nil_append, Nat.add_eq_zero_iff, a_nl_i, a_nl_r, a_nl_n, true_or, or_true, eq_self, a_isRA_22, a_isRA_24, a_isRA_32, a_isA_20, ok_4, ok_5, ok_6, ok_7, ok_9, ok_20, ok_21, ok_30, ok_50, ok_180, ok_192, ok_200]
    refine ce_addBench hH (Int32.not_le.mpr e1) (fun t' K' L' J R' g1 g2 g3 g4 g5 g6 g7 g8 g9 ga gb gc gd ge gf => ?_)
    simp only [q20_57, as_nil, as_i, as_r, Nat.reduceAdd, Nat.reduceLeDiff, z_eq0, z_eq1, z_or, z_em, Classical.not_not, not_false_eq_true, not_true_eq_false, true_and, and_true, false_and, and_false, and_self, true_implies, false_implies, implies_true, Option.toList_some, Option.toList_none, List.cons_append, List.nil_append, Nat.add_eq_zero_iff, a_nl_i, a_nl_r, a_nl_n, true_or, or_true, eq_self, a_isRA_22, a_isRA_24, a_isRA_32, a_isA_20, ok_4, ok_5, ok_6, ok_7, ok_9, ok_20, ok_21, ok_30, ok_50, ok_180, ok_192, ok_200]
    exact hP t' K' L' J R' g1 g2 g3 g4 g5 g6 g7 g8 g9 ga gb gc gd ge gf
  rw [a_enter1 (M := a_m20) rfl (a_cat_rf (a_cat_int (a_cat_int a_cat_nil))) (show 3 ≤ 3 by decide)]
  show a_at _ (a_xm a_m20) 0 [some (a_rf C), some (.int p), some (.int q)] [] _ _
  repeat' first
    | with_reducible apply And.intro
    | with_reducible assumption
    | with_reducible intro _
    | refine cr_refuse hH (fun _ _ => ?_)
    | exact h1 (Or.inl (by assumption)) _ (by assumption)
    | exact h1 (Or.inr (Int32.not_le.mp (by assumption))) _ (by assumption)
    | exact h2 (gneg (by assumption) (by assumption)) (Or.inl (by assumption)) _ (by assumption)
    | exact h2 (gneg (by assumption) (by assumption)) (Or.inr (Or.inl (by assumption))) _ (by assumption)
    | exact h2 (gneg (by assumption) (by assumption)) (Or.inr (Or.inr (Int32.not_lt.mp (by assumption)))) _ (by assumption)
    | exact hgo (by assumption) (by assumption) (by assumption) (by assumption) (by assumption)
    | simp only [q20_0, q20_1, q20_4, q20_5, q20_8, q20_9, q20_11, q20_14, q20_15, q20_16, q20_19, q20_22, q20_23, q20_26, q20_29, q20_30, q20_33, q20_36, q20_38, q20_41, q20_42, q20_44, q20_47, k_0 hS, z_C hS, r_0_4 hS, k_14 hS, z_14, as_nil, as_i, as_r, Nat.reduceAdd, Nat.reduceLeDiff, z_eq0, z_eq1, z_or, z_em, Classical.not_not, not_false_eq_true, not_true_eq_false, true_and, and_true, false_and, and_false, and_self, true_implies, false_implies, implies_true, Option.toList_some, Option.toList_none, List.cons_append, List.nil_append, Nat.add_eq_zero_iff, a_nl_i, a_nl_r, a_nl_n, true_or, or_true, eq_self, a_isRA_22, a_isRA_24, a_isRA_32, a_isA_20, ok_4, ok_5, ok_6, ok_7, ok_9, ok_20, ok_21, ok_30, ok_50, ok_180, ok_192, ok_200]
  all_goals ((try clear hgo); (try clear hr); (try clear hs); (try clear hc); (try clear h0); (try clear h1); (try clear h2); (try clear h3); (try clear h4); (try clear h5); (try clear hP); (try clear hZ); (try clear hH); (try clear hT); (try clear hS); grind [ui_ap])
end ZO0
section ZO1
variable {d n t C c : Nat} {K L : Nat → Nat} {I I0 J J0 J1 J2 : Nat → Nat → Int32} {R : Nat → Nat → Nat} {P : Option Value → AH → Prop}
variable {Y Z W : Nat → Nat → Int32} {R' R1 : Nat → Nat → Nat} {K' L' : Nat → Nat}
def bnW (Y : Nat → Nat → Int32) (p q : Int32) : Nat → Nat → Int32 := (upY (upY (upY Y 5 (Y 0 6).toNatClampNeg p) 6 (Y 0 6).toNatClampNeg q) 0 6 (Y 0 6 + 1))
def bnY (Y : Nat → Nat → Int32) (p q : Int32) : Nat → Nat → Int32 := if (p < 0 ∨ q < 0) ∨ (255 < p ∨ 255 < q ∨ Y 0 6 = 6) then Y else bnW Y p q
theorem bn_no {p q : Int32} {k j : Nat} (h : ¬ ((k = 5 ∨ k = 6) ∧ j = (Y 0 6).toNatClampNeg)) (h2 : ¬ (k = 0 ∧ j = 6)) : bnW Y p q k j = Y k j := by
  unfold bnW
  rw [up_no (by omega), up_no (by omega), up_no (by omega)]
theorem bn_at {p q : Int32} : bnW Y p q 5 (Y 0 6).toNatClampNeg = p ∧ bnW Y p q 6 (Y 0 6).toNatClampNeg = q ∧ bnW Y p q 0 6 = Y 0 6 + 1 := by
  unfold bnW upY
  simp only [Nat.reduceEqDiff, reduceCtorEq, and_self, and_true, true_and, and_false, false_and, if_true, if_false]
theorem cu_bnch {m0 : Nat} (hT : cT C K L I R) (hu : cuP C K L I R Y) {X : Nat} {p q : Int32} (h6 : Y 0 6 < 6) (hq : 0 ≤ q ∧ q ≤ 255) (kX : K X = 3) (hX : ∀ b : Int32, 0 ≤ b → b < Y 0 6 → R (C + 16) b.toNatClampNeg + 3 < X ∧ R (R (C + 16) b.toNatClampNeg) 5 < X) (r2 : R X 2 = X + 1) (r3 : R X 3 = X + 2) (r4 : R X 4 = X + 3) (r5 : R X 5 = X + 4) (hD : ∀ k : Int32, 0 ≤ k → k < Y 0 41 → R (R (C + 8) k.toNatClampNeg) 2 < X) (g0 : I X 0 = p ∧ I X 1 = q) (gW : ∀ j, j < 200 → I (X + 1) j = -9) (gS : ∀ j, I (X + 2) j = 0) : cuP C K L (a_ui I (C + 14) 5 (Y 0 6 + 1)) (a_ur R (C + 16) (Y 0 6).toNatClampNeg X) (bnW Y p q) := by
  have hS := hT.s
  have X1 := (hT.g_bnc X kX).1
  obtain ⟨b5, b6, b06⟩ := bn_at (Y := Y) (p := p) (q := q)
  obtain ⟨⟨⟨p1, p2, p3⟩, ⟨q1, q2, q3, q4⟩, ⟨s1, s2, s3, s4⟩, ⟨x1, x2⟩, hy⟩, hse, ⟨sM, sT, ⟨d1, d2⟩, sY⟩, hno, hst⟩ := hu
  have t6 : 0 ≤ Y 0 6 ∧ Y 0 6 < 6 := ⟨hy.2.2.2.2.2.1.1, h6⟩
  obtain ⟨-, u0, u1, nT⟩ := lp_st t6.1 t6.2
  have hlt : ∀ o : Int32, 0 ≤ o → o < Y 0 6 + 1 → ¬ o = Y 0 6 → o < Y 0 6 := fun o o0 o1 e => by clear sM sT sY hst x2 s3 s4 q4 q3 p3 hy hse hX hD; grind
  have zr : ∀ k, ¬ k = 0 → ¬ k = 5 → ¬ k = 6 → bnW Y p q k = Y k := fun k h h2 h3 => funext (fun j => bn_no (by omega) (by omega))
  have z0 : ∀ j, ¬ j = 6 → bnW Y p q 0 j = Y 0 j := fun j h => bn_no (by omega) (by omega)
  have cin : ∀ k j, ¬ (k = 14 ∧ j = 5) → (a_ui I (C + 14) 5 (Y 0 6 + 1)) (C + k) j = I (C + k) j := fun k j h => by rw [ui_ap, if_neg (by omega)]
  have c0 : (a_ui I (C + 14) 5 (Y 0 6 + 1)) C 10 = I C 10 := cin 0 10 (by omega)
  have jx : ∀ x j, C + 43 < x → (a_ui I (C + 14) 5 (Y 0 6 + 1)) x j = I x j := fun x j hx => by rw [ui_ap, if_neg (by omega)]
  have rin : ∀ x j, ¬ (x = C + 16 ∧ j = (Y 0 6).toNatClampNeg) → (a_ur R (C + 16) (Y 0 6).toNatClampNeg X) x j = R x j := fun x j h => by rw [ur_ap, if_neg h]
  have rX : (a_ur R (C + 16) (Y 0 6).toNatClampNeg X) (C + 16) (Y 0 6).toNatClampNeg = X := by rw [ur_ap, if_pos ⟨rfl, rfl⟩]
  have ro : ∀ o : Int32, 0 ≤ o → o < Y 0 6 → (a_ur R (C + 16) (Y 0 6).toNatClampNeg X) (C + 16) o.toNatClampNeg = R (C + 16) o.toNatClampNeg := fun o o0 o1 => rin _ _ (by have := cl_lt o0 o1; omega)
  have rob : ∀ x j, C + 96 < x → (a_ur R (C + 16) (Y 0 6).toNatClampNeg X) x j = R x j := fun x j hx => rin _ _ (by omega)
  have bq1 : ∀ b : Int32, 0 ≤ b → b < Y 0 6 → C + 96 < R (C + 16) b.toNatClampNeg := fun b b0 b1 => (hT.g_bnc _ (q3 b b0 b1).1).1
  have wt : ∀ x, wtY (bnW Y p q) x = wtY Y x := fun x => by
    unfold wtY
    rw [zr 28 (by omega) (by omega) (by omega)]
  have wv : ∀ x, wvY (bnW Y p q) x = wvY Y x := fun x => by
    funext fc
    unfold wvY
    rw [wt, zr 29 (by omega) (by omega) (by omega)]
  have wh : ∀ b : Int32, 0 ≤ b → b < Y 0 6 → whC C (a_ui I (C + 14) 5 (Y 0 6 + 1)) (a_ur R (C + 16) (Y 0 6).toNatClampNeg X) b = whC C I R b := fun b b0 b1 => by
    have g := hT.g_bnc _ (q3 b b0 b1).1
    unfold whC
    rw [ro b b0 b1, rob _ _ g.1]
    exact funext (fun j => jx _ _ (by have := g.2.1.1; omega))
  have sn : ∀ b : Int32, 0 ≤ b → b < Y 0 6 → snC C (a_ui I (C + 14) 5 (Y 0 6 + 1)) (a_ur R (C + 16) (Y 0 6).toNatClampNeg X) b = snC C I R b := fun b b0 b1 => by
    have g := hT.g_bnc _ (q3 b b0 b1).1
    unfold snC
    rw [ro b b0 b1, rob _ _ g.1]
    exact funext (fun j => jx _ _ (by have := g.2.2.1.1; omega))
  have whN : ∀ x : Int32, 0 ≤ x → x < 200 → whC C (a_ui I (C + 14) 5 (Y 0 6 + 1)) (a_ur R (C + 16) (Y 0 6).toNatClampNeg X) (Y 0 6) x.toNatClampNeg = -9 ∧ snC C (a_ui I (C + 14) 5 (Y 0 6 + 1)) (a_ur R (C + 16) (Y 0 6).toNatClampNeg X) (Y 0 6) x.toNatClampNeg = 0 := fun x x0 x1 => by
    unfold whC snC
    rw [rX, rob _ _ X1, rob _ _ X1, r2, r3, jx _ _ (by omega), jx _ _ (by omega)]
    exact ⟨gW _ (show _ < (200 : Int32).toNatClampNeg from cl_lt x0 x1), gS _⟩
  have ea : ∀ o : Int32, 0 ≤ o → o < Y 0 17 → ∀ j, (a_ui I (C + 14) 5 (Y 0 6 + 1)) (R (C + 15) o.toNatClampNeg) j = I (R (C + 15) o.toNatClampNeg) j := fun o o0 o1 j => jx _ _ (by have := (hT.g_ask _ (s2 o o0 o1).1).1; omega)
  obtain ⟨ec, eh⟩ := cmk_e (Y := Y) (Z := bnW Y p q) (fun k j hk => bn_no (by unfold kK at hk; omega) (by unfold kK at hk; omega))
  refine ⟨⟨⟨by rw [cin _ _ (by omega), z0 0 (by omega)]; exact p1, fun j => by rw [cin _ _ (by omega), zr 1 (by omega) (by omega) (by omega)]; exact p2 j, lsP_e p3 (fun j => cin _ _ (by omega)) (fun k j hk => bn_no (by unfold kL at hk; omega) (by unfold kL at hk; omega))⟩, ⟨by rw [ui_ap, if_pos ⟨rfl, rfl⟩, b06], by rw [cin _ _ (by omega), z0 9 (by omega)]; exact q2, fun b b0 b1 => ?_, ?_⟩, ⟨by rw [cin _ _ (by omega), z0 17 (by omega)]; exact s1, fun o o0 o1 => ?_, fun o o0 o1 => ?_, fun o o0 o1 => ?_⟩, ⟨by rw [cin _ _ (by omega), z0 41 (by omega)]; exact x1, fun k k0 k1 => ?_⟩, ?_⟩, ?_, ⟨siM_e sM (fun k j hk => cin _ _ (by omega)) (fun k j hk => bn_no (by unfold kM at hk; omega) (by unfold kM at hk; omega)), siT_e sT (fun k j hk => cin _ _ (by omega)) (fun k j hk => bn_no (by unfold kT at hk; omega) (by unfold kT at hk; omega)), ?_, siY_e sY (fun k j hk => bn_no (by unfold kY at hk; omega) (by unfold kY at hk; omega))⟩, ?_, ?_⟩
  · rw [b06] at b1
    by_cases e : b = Y 0 6
    · rw [e, rX, jx _ _ (by omega), jx _ _ (by omega), b5, b6]
      exact ⟨kX, by omega, g0.1, g0.2⟩
    · have hb := hlt b b0 b1 e
      obtain ⟨k1, k2, k3, k4⟩ := q3 b b0 hb
      have g := (hT.g_bnc _ k1).1
      have := cl_lt b0 hb
      rw [ro b b0 hb, jx _ _ (by omega), jx _ _ (by omega), bn_no (k := 5) (by omega) (by omega), bn_no (k := 6) (by omega) (by omega)]
      exact ⟨k1, k2, k3, k4⟩
  · refine ⟨fun o o0 o1 o2 => ?_, fun b x b0 b1 y0 y1 => ?_⟩
    · rw [z0 17 (by omega)] at o1
      rw [zr 20 (by omega) (by omega) (by omega)] at o2 ⊢
      obtain ⟨w1, w2, w3, w4⟩ := q4.1 o o0 o1 o2
      rw [zr 21 (by omega) (by omega) (by omega), zr 10 (by omega) (by omega) (by omega), zr 22 (by omega) (by omega) (by omega), b06, wh _ o2 w1, sn _ o2 w1]
      refine ⟨?_, w2, w3, w4⟩
      clear sM sT sY hst x2 s3 s4 q4 q3 p3 hy hse hX hD w4
      grind
    · rw [b06] at b1
      rw [z0 17 (by omega), zr 20 (by omega) (by omega) (by omega), zr 21 (by omega) (by omega) (by omega), zr 10 (by omega) (by omega) (by omega)]
      by_cases e : b = Y 0 6
      · rw [e]
        exact Or.inl (whN x y0 y1)
      · have hb := hlt b b0 b1 e
        rw [wh _ b0 hb, sn _ b0 hb]
        exact q4.2 b x b0 hb y0 y1
  · rw [z0 17 (by omega)] at o1
    rw [rin (C + 15) _ (by omega), ea o o0 o1]
    exact s2 o o0 o1
  · rw [z0 17 (by omega)] at o1
    rw [rin (C + 15) _ (by omega), ea o o0 o1, ec, eh]
    exact s3 o o0 o1
  · rw [z0 17 (by omega)] at o1
    have hl := s4 o o0 o1
    have er : ∀ k, 7 ≤ k ∧ k ≤ 21 → bnW Y p q k = Y k := fun k hk => zr k (by omega) (by omega) (by omega)
    rw [rin (C + 15) _ (by omega)]
    unfold alP at hl ⊢
    simp only [ea o o0 o1]
    rw [er 7 (by omega), er 8 (by omega), er 9 (by omega), er 10 (by omega), er 11 (by omega), er 12 (by omega), er 13 (by omega), er 14 (by omega), er 15 (by omega), er 16 (by omega), er 17 (by omega), er 18 (by omega), er 19 (by omega), er 20 (by omega), er 21 (by omega)]
    exact hl
  · rw [z0 41 (by omega)] at k1
    obtain ⟨k11, k12, k13, k14, k15, k16⟩ := x2 k k0 k1
    have g := hT.g_txt _ k11
    have hcd : (a_ui I (C + 14) 5 (Y 0 6 + 1)) (R (R (C + 8) k.toNatClampNeg) 2) = I (R (R (C + 8) k.toNatClampNeg) 2) := funext (fun m => jx _ _ (by omega))
    rw [rin (C + 8) _ (by omega), rob _ _ g.1, jx _ _ (by omega), jx _ _ (by omega), jx _ _ (by omega), hcd, wt, wv, zr 30 (by omega) (by omega) (by omega), zr 31 (by omega) (by omega) (by omega)]
    exact ⟨k11, k12, k13, k14, k15, k16⟩
  · obtain ⟨h1, h2, h3, h4, h5, h6, h7, h8, h9, h10⟩ := hy
    refine ⟨by rw [z0 41 (by omega)]; exact h1, by rw [zr 10 (by omega) (by omega) (by omega)]; exact h2, by rw [z0 17 (by omega), zr 10 (by omega) (by omega) (by omega)]; exact h3, by rw [z0 9 (by omega)]; exact h4, by rw [z0 17 (by omega)]; exact h5, by rw [b06]; exact ⟨u0, u1⟩, ?_, ?_, fun b => ?_, by rw [z0 17 (by omega), zr 7 (by omega) (by omega) (by omega), zr 16 (by omega) (by omega) (by omega)]; exact h10⟩
    · unfold inP at h7 ⊢
      rw [zr 20 (by omega) (by omega) (by omega), zr 21 (by omega) (by omega) (by omega), zr 10 (by omega) (by omega) (by omega)]
      exact h7
    · unfold mkP at h8 ⊢
      rw [zr 38 (by omega) (by omega) (by omega), zr 36 (by omega) (by omega) (by omega)]
      exact h8
    · by_cases e : b = (Y 0 6).toNatClampNeg
      · rw [e, b6]
        exact hq
      · rw [bn_no (by omega) (by omega)]
        exact h9 b
  · obtain ⟨w1, w2, w3, w4⟩ := hse
    unfold seP
    rw [b06, z0 41 (by omega)]
    refine ⟨fun b b0 b1 => ?_, fun b c b0 b1 c0 c1 e => ?_, fun k b k0 k1 b0 b1 => ?_, fun b c b0 b1 c0 c1 => ?_⟩
    · by_cases e : b = Y 0 6
      · rw [e, rX, rob _ _ X1, rob _ _ X1, rob _ _ X1]
        exact ⟨r2, r3, r4⟩
      · have hb := hlt b b0 b1 e
        rw [ro b b0 hb, rob _ _ (bq1 b b0 hb), rob _ _ (bq1 b b0 hb), rob _ _ (bq1 b b0 hb)]
        exact w1 b b0 hb
    · by_cases e1 : b = Y 0 6
      · by_cases e2 : c = Y 0 6
        · rw [e1, e2]
        · have hc := hlt c c0 c1 e2
          rw [e1, rX, ro c c0 hc] at e
          have := (hX c c0 hc).1
          omega
      · have hb := hlt b b0 b1 e1
        by_cases e2 : c = Y 0 6
        · rw [e2, rX, ro b b0 hb] at e
          have := (hX b b0 hb).1
          omega
        · have hc := hlt c c0 c1 e2
          rw [ro b b0 hb, ro c c0 hc] at e
          exact w2 b c b0 hb c0 hc e
    · have g := (hT.g_txt _ (x2 k k0 k1).1).1
      have gd := hD k k0 k1
      rw [rin (C + 8) _ (by omega), rob _ _ g]
      by_cases e : b = Y 0 6
      · rw [e, rX, rob _ _ X1, r5]
        exact ⟨Or.inl (by omega), by omega⟩
      · have hb := hlt b b0 b1 e
        rw [ro b b0 hb, rob _ _ (bq1 b b0 hb)]
        exact w3 k b k0 k1 b0 hb
    · by_cases e1 : b = Y 0 6
      · rw [e1, rX, rob _ _ X1, r5]
        by_cases e2 : c = Y 0 6
        · rw [e2, rX]
          exact Or.inr (by omega)
        · have hc := hlt c c0 c1 e2
          rw [ro c c0 hc]
          have := (hX c c0 hc).1
          exact Or.inr (by omega)
      · have hb := hlt b b0 b1 e1
        rw [ro b b0 hb, rob _ _ (bq1 b b0 hb)]
        by_cases e2 : c = Y 0 6
        · rw [e2, rX]
          have := (hX b b0 hb).2
          exact Or.inl (by omega)
        · have hc := hlt c c0 c1 e2
          rw [ro c c0 hc]
          exact w4 b c b0 hb c0 hc
  · unfold siD
    rw [rin C 11 (by omega), z0 12 (by omega)]
    refine ⟨d1, fun hd => ?_⟩
    obtain ⟨e1, e2, e3, e4⟩ := d2 hd
    have ej : ∀ j, (a_ui I (C + 14) 5 (Y 0 6 + 1)) (R C 11) j = I (R C 11) j := fun j => jx _ _ (by have := (hT.g_ask _ e1).1; omega)
    simp only [ej]
    rw [z0 13 (by omega), z0 14 (by omega), z0 15 (by omega), z0 16 (by omega), z0 17 (by omega)]
    refine ⟨e1, e2, e3, fun i i0 i1 => ?_⟩
    rw [rin (C + 15) _ (by omega)]
    exact e4 i i0 i1
  · unfold noP at hno ⊢
    rw [zr 20 (by omega) (by omega) (by omega), zr 21 (by omega) (by omega) (by omega)]
    exact hno
  · unfold stP
    rw [z0 41 (by omega), zr 31 (by omega) (by omega) (by omega)]
    refine ⟨fun i i0 i1 => ?_, fun i o i0 i1 o0 o1 e => ?_⟩
    · rw [rin (C + 8) _ (by omega), jx _ _ (by have := (hT.g_txt _ (x2 i i0 i1).1).1; omega)]
      exact hst.1 i i0 i1
    · rw [rin (C + 8) i.toNatClampNeg (by omega), rin (C + 8) o.toNatClampNeg (by omega)] at e
      exact hst.2 i o i0 i1 o0 o1 e
theorem ge_bench (hH : cH C c (n + 1) t K L I R) (hu : cuP C K L I R Y) {p q : Int32} (hP : ∀ w n' t' K' L' J R', cH C (c + 4) (n' + 1) t' K' L' J R' → cuP C K' L' J R' (bnY Y p q) → P (some (.int w)) (n' + 1, t', K', L', J, R')) : a_does (d + 70) 20 [a_rf C, .int p, .int q] (n + 1, t, K, L, I, R) P := by
  have hT := hH.1
  have hS := hT.s
  have hc := hu.1
  have e5 : I (C + 14) 5 = Y 0 6 := hc.2.1.1
  have g6 := hT.g_benches
  rw [e5] at g6
  unfold bnY at hP
  refine ky_bench hH (fun z J w => ?_) (fun z z2 J w => ?_) (fun z z2 t' K' L' J R' g1 g2 g3 g4 g5 g6' g7 g8 g9 ga gb gc gd ge gf => ?_)
  · rw [if_pos (Or.inl z)] at hP
    exact hP _ n t K L J R (cH_le w.1 (by omega)) (cu_re hH hu w)
  · rw [e5] at z2
    rw [if_pos (Or.inr (by clear hP hu hc; grind))] at hP
    exact hP _ n t K L J R (cH_le w.1 (by omega)) (cu_re hH hu w)
  · rw [e5] at g1 z2 ⊢
    rw [if_neg (by intro w; rcases w with w | w | w | w; exact z w; exact z2 (Or.inl w); exact z2 (Or.inr (Or.inl w)); exact z2 (Or.inr (Or.inr (by rw [w]; decide))))] at hP
    have hu2 := cu_grow hH hu g4 g5 g6' g7
    have hC := hH.2.2.1
    have bl : ∀ b : Int32, 0 ≤ b → b < Y 0 6 → R (C + 16) b.toNatClampNeg < n + 1 := fun b b0 b1 => kn_lt hH.2.1 (hc.2.1.2.2.1 b b0 b1).1 (by decide)
    exact hP _ (n + 5) t' K' L' _ _ (cH_le g1 (by omega)) (cu_bnch (m0 := 0) (X := n + 1) g2 hu2 (Int32.not_le.mp (fun w => z2 (Or.inr (Or.inr w)))) ⟨Int32.not_lt.mp (fun w => z (Or.inr w)), Int32.not_lt.mp (fun w => z2 (Or.inr (Or.inl w)))⟩ g3 (fun b b0 b1 => by
      have g := hT.g_bnc _ (hc.2.1.2.2.1 b b0 b1).1
      have k4 := kn_lt hH.2.1 g.2.2.2.1.2.1 (by decide)
      have k5 := kn_lt hH.2.1 g.2.2.2.2.1.2.1 (by decide)
      rw [(hu.2.1.1 b b0 b1).2.2] at k4
      rw [g7 (C + 16) _ (by omega), g7 _ _ (bl b b0 b1)]
      exact ⟨k4, k5⟩) g8 g9 ga gb (fun k k0 k1 => by
      have kx := (hc.2.2.2.1.2 k k0 k1).1
      rw [g7 (C + 8) _ (by omega), g7 _ _ (kn_lt hH.2.1 kx (by decide))]
      exact kn_lt hH.2.1 (hT.g_txt _ kx).2.2.1 (by decide)) gc (fun j hj => (gd j hj).1) ge)
end ZO1
section ZO2
variable {d n t M : Nat} {K L : Nat → Nat} {I I0 J J0 J1 J2 : Nat → Nat → Int32} {R : Nat → Nat → Nat} {P : Option Value → AH → Prop} {f : Nat → Int32} {e : Int32}
variable {Y Z W : Nat → Nat → Int32}
theorem xp_bench (hS : m_S M K L R) {I1 : Nat → Nat → Int32} (hm : okY Y) {c : Nat} (hc : c + 130 ≤ 84000) (hF : mF M c I1 I) (hg : gs M I0 I Y) {p q : Int32} (hP : ∀ w J, J M 35 = I M 35 → gs M I0 J (bnY Y p q) → P (some (.int w)) (n, t, K, L, J, R)) : a_does (d + 13) 178 [a_rf M, .int p, .int q] (n, t, K, L, I, R) P := by
  have hy := hm.1
  have h17 := hy.2.2.2.2.1
  have h10 := hy.2.1
  have h6 := hy.2.2.2.2.2.1
  have hl := hy.2.2.1
  have hrf : ∀ k : Nat, mF M (c + 120) I1 (a_ui I (M + 23) k (I (M + 23) k + 1)) ∧ gs M I0 (a_ui I (M + 23) k (I (M + 23) k + 1)) Y := fun k => ⟨mF_le (sF_refused hF) (by omega), gs_ui hg (sR_refused hg.1) (by omega) ⟨by unfold ps1; omega, by omega⟩⟩
  have e17 : I M 17 = Y 0 17 := hg.2.2.1 0 17 (by unfold ps1; omega)
  have e6 : I M 6 = Y 0 6 := hg.2.2.1 0 6 (by unfold ps1; omega)
  have e0 : I M 0 = Y 0 0 := hg.2.2.1 0 0 (by unfold ps1; omega)
  have m17 : ∀ x : Int32, (x ≤ Y 0 17 - 1) = (x < Y 0 17) := fun x => le_m1 h17
  have m6 : ∀ x : Int32, (x ≤ Y 0 6 - 1) = (x < Y 0 6) := fun x => le_m1 ⟨h6.1, Int32.le_trans h6.2 (by decide)⟩
  have m199 : ∀ x : Int32, (x ≤ 199) = (x < 200) := fun x => propext ⟨fun q => Int32.lt_of_le_of_lt q (by decide), fun q => by clear hP hrf hm hg hF; grind⟩
  have g6 := rg_benches hg.1
  have g6' := g6
  rw [e6] at g6'
  unfold bnY at hP
  refine pe_bench (d := d + 11) hS g6 (fun z => ?_) (fun z z2 => ?_) (fun z z2 => ?_)
  · rw [if_pos (Or.inl z)] at hP
    exact hP _ _ (by rw [ui_ap, if_neg (by omega)]) (hrf 4).2
  · rw [e6] at z2
    rw [if_pos (Or.inr z2)] at hP
    exact hP _ _ (by rw [ui_ap, if_neg (by omega)]) (hrf 6).2
  · rw [e6] at z2 ⊢
    rw [if_neg (fun w => w.elim z z2)] at hP
    refine hP _ _ (by rw [ui_ap, if_neg (by omega), ui_ap, if_neg (by omega), ui_ap, if_neg (by omega)]) ?_
    have n6 : ¬ Y 0 6 = 6 := fun w => z2 (Or.inr (Or.inr w))
    have s1 := gs_up2 hg (k := 5) (j := (Y 0 6).toNatClampNeg) (v := p) (by omega) (by omega) (sR_can hg.1)
    have s2 := gs_up2 s1 (k := 6) (j := (Y 0 6).toNatClampNeg) (v := q) (by omega) (by omega) (sR_hostsOf s1.1)
    exact gs_up2 s2 (k := 0) (j := 6) (v := Y 0 6 + 1) (by omega) (by omega) (sR_benches s2.1 (by clear hP hrf hm hy hl hg hF s1 s2; grind))
end ZO2
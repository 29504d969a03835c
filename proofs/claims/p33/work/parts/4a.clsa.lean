/-! the class: what is added -/
section KC
variable {d n t C c n0 n' n'' t' : Nat} {K L K0 L0 K' L' K'' L'' : Nat → Nat} {I I0 J J0 J1 J2 : Nat → Nat → Int32} {R R0 R' R'' : Nat → Nat → Nat} {P : Option Value → AH → Prop}
theorem up_ap (f : Nat → Nat) (a v x : Nat) : a_up f a v x = if x = a then v else f x := rfl
theorem zi_ap (f : Nat → Nat → Int32) (a x j : Nat) : a_zi f a x j = if x = a then 0 else f x j := rfl
theorem zr_ap (f : Nat → Nat → Nat) (a x j : Nat) : a_zr f a x j = if x = a then 0 else f x j := rfl
theorem n_ne (a b : Nat) : (n + a = n + b) = (a = b) := by simp
theorem cn_200 : Int32.toNatClampNeg 200 = 200 := rfl
theorem cn_80 : Int32.toNatClampNeg 80 = 80 := rfl
theorem ng_200 : ((200 : Int32) < 0) = False := eq_false (by decide)
theorem ng_80 : ((80 : Int32) < 0) = False := eq_false (by decide)
theorem lk_Binit_51 {b : Nat} (hb : K b = 3) (b0 : (b = 0) = False) (w0 : (R b 2 = 0) = False) (w2 : K (R b 2) = 20) (w3 : L (R b 2) = 200) (h0 : (R b 4 = 0) = False) (h2 : K (R b 4) = 20) (h3 : L (R b 4) = 200) {p q : Int32} (hP : ∀ J, (∀ x j, ¬ x = R b 2 → ¬ x = R b 4 → J x j = I x j) → P none (n, t, K, L, J, R)) : ∀ i : Int32, i ≤ 200 → ∀ J, 0 ≤ i → (∀ x j, ¬ x = R b 2 → ¬ x = R b 4 → J x j = I x j) → a_at d (a_xm a_m22) 51 [some (a_rf b), some (.int p), some (.int q), some (.int i)] [] (n, t, K, L, J, R) P := by
  refine up_ind 200 (fun i hk ih => ?_)
  intro J q0 hJ
  have hw : ∀ k k2 v v2, ∀ x j, ¬ x = R b 2 → ¬ x = R b 4 → a_ui (a_ui J (R b 2) k v) (R b 4) k2 v2 x j = I x j := fun k k2 v v2 x j e1 e2 => by
    rw [ui_ap, if_neg (fun e => e2 e.1), ui_ap, if_neg (fun e => e1 e.1)]
    exact hJ x j e1 e2
  rw [q22_51]
  repeat' first
    | with_reducible apply And.intro
    | with_reducible assumption
    | with_reducible intro _
    | with_reducible apply hP
    | with_reducible apply ih
    | with_reducible apply hw
    | simp only [q22_52, q22_55, q22_58, q22_59, q22_62, q22_63, q22_65, q22_66, q22_67, q22_70, q22_71, q22_73, q22_74, q22_77, q22_80, as_nil, as_i, as_r, Nat.reduceAdd, Nat.reduceLeDiff, z_eq0, z_eq1, z_or, z_em, Classical.not_not, not_false_eq_true, not_true_eq_false, true_and, and_true, false_and, and_false, and_self, true_implies, false_implies, implies_true, Option.toList_some, Option.toList_none, List.cons_append, List.nil_append, Nat.add_eq_zero_iff, a_nl_i, a_nl_r, a_nl_n, true_or, or_true, eq_self, a_isRA_22, a_isRA_24, a_isRA_32, a_isA_20, ok_4, ok_5, ok_6, ok_7, ok_9, ok_20, ok_21, ok_30, ok_50, ok_180, ok_192, ok_200, hb, b0, w0, w2, w3, h0, h2, h3]
  all_goals ((try clear ih); (try clear hP); (try clear hl); (try clear hq); (try clear a3); grind [ui_ap])
theorem ck_Binit (hn : ∀ x, n + 1 ≤ x → K x = 0) {p q : Int32} (hP : ∀ K' L' J' R', K' (n + 1) = 3 → (∀ x, x < n + 1 → K' x = K x) → (∀ x, n + 1 + 5 ≤ x → K' x = 0) → (∀ x, n + 1 < x → x < n + 1 + 5 → K' x = 20) → (∀ x, x < n + 1 → L' x = L x) → L' (n + 2) = 200 → L' (n + 3) = 200 → L' (n + 4) = 200 → L' (n + 5) = 80 → (∀ x j, x < n + 1 → J' x j = I x j) → (∀ x j, x < n + 1 → R' x j = R x j) → R' (n + 1) 2 = n + 2 → R' (n + 1) 3 = n + 3 → R' (n + 1) 4 = n + 4 → R' (n + 1) 5 = n + 5 → J' (n + 1) 6 = 0 → P none (n + 1 + 5, t + 680, K', L', J', R')) : a_does (d + 1) 22 [a_rf (n + 1), .int p, .int q] (n + 1 + 1, t, a_up K (n + 1) 3, a_up L (n + 1) 7, a_zi I (n + 1), a_zr R (n + 1)) P := by
  have f0 : (n + 1 = 0) = False := eq_false (by omega)
  have f1 : (n + 1 + 1 = 0) = False := eq_false (by omega)
  rw [a_enter1 (M := a_m22) rfl (a_cat_rf (a_cat_int (a_cat_int a_cat_nil))) (show 3 ≤ 4 by decide)]
  show a_at _ (a_xm a_m22) 0 [some (a_rf (n+1)), some (.int p), some (.int q), none] [] _ _
  simp only [q22_0, as_nil, as_i, as_r, Nat.reduceAdd, Nat.reduceLeDiff, z_eq0, z_eq1, z_or, z_em, Classical.not_not, not_false_eq_true, not_true_eq_false, true_and, and_true, false_and, and_false, and_self, true_implies, false_implies, implies_true, Option.toList_some, Option.toList_none, List.cons_append, List.nil_append, Nat.add_eq_zero_iff, a_nl_i, a_nl_r, a_nl_n, true_or, or_true, eq_self, a_isRA_22, a_isRA_24, a_isRA_32, a_isA_20, ok_4, ok_5, ok_6, ok_7, ok_9, ok_20, ok_21, ok_30, ok_50, ok_180, ok_192, ok_200]
  rw [q22_1 (show ¬ n + 1 = 0 by omega) (show a_sum [] ≤ 8 by decide)]
  simp only [q22_4, q22_5, q22_6, q22_9, q22_10, q22_11, q22_14, q22_15, q22_18, q22_20, q22_23, q22_24, q22_27, q22_29, q22_32, q22_33, q22_36, q22_38, q22_41, q22_42, q22_44, q22_46, q22_49, q22_50, as_nil, as_i, as_r, Nat.reduceAdd, Nat.reduceLeDiff, z_eq0, z_eq1, z_or, z_em, Classical.not_not, not_false_eq_true, not_true_eq_false, true_and, and_true, false_and, and_false, and_self, true_implies, false_implies, implies_true, Option.toList_some, Option.toList_none, List.cons_append, List.nil_append, Nat.add_eq_zero_iff, a_nl_i, a_nl_r, a_nl_n, true_or, or_true, eq_self, a_isRA_22, a_isRA_24, a_isRA_32, a_isA_20, ok_4, ok_5, ok_6, ok_7, ok_9, ok_20, ok_21, ok_30, ok_50, ok_180, ok_192, ok_200, up_ap, up_eq, Nat.add_left_cancel_iff, Nat.add_right_cancel_iff, Nat.reduceEqDiff, if_true, if_false, ur_ap, n_ne, cn_200, cn_80, ng_200, ng_80, f0, f1]
  have hne : ∀ x, x < n + 1 → (¬ x = n + 1) ∧ (¬ x = n + 2) ∧ (¬ x = n + 3) ∧ (¬ x = n + 4) ∧ (¬ x = n + 5) := fun x hx => by omega
  have hk : ∀ x : Nat, a_up (a_up (a_up (a_up (a_up K (n + 1) 3) (n + 1 + 1) 20) (n + 2 + 1) 20) (n + 3 + 1) 20) (n + 4 + 1) 20 x = if x = n + 5 then 20 else if x = n + 4 then 20 else if x = n + 3 then 20 else if x = n + 2 then 20 else if x = n + 1 then 3 else K x := fun x => rfl
  have hl : ∀ x : Nat, a_up (a_up (a_up (a_up (a_up L (n + 1) 7) (n + 1 + 1) 200) (n + 2 + 1) 200) (n + 3 + 1) 200) (n + 4 + 1) 80 x = if x = n + 5 then 80 else if x = n + 4 then 200 else if x = n + 3 then 200 else if x = n + 2 then 200 else if x = n + 1 then 7 else L x := fun x => rfl
  generalize a_up (a_up (a_up (a_up (a_up K (n + 1) 3) (n + 1 + 1) 20) (n + 2 + 1) 20) (n + 3 + 1) 20) (n + 4 + 1) 20 = K5 at hk ⊢
  generalize a_up (a_up (a_up (a_up (a_up L (n + 1) 7) (n + 1 + 1) 200) (n + 2 + 1) 200) (n + 3 + 1) 200) (n + 4 + 1) 80 = L5 at hl ⊢
  generalize hr5 : a_ur (a_zr (a_ur (a_zr (a_ur (a_zr (a_ur (a_zr (a_zr R (n + 1)) (n + 1 + 1)) (n + 1) 2 (n + 1 + 1)) (n + 2 + 1)) (n + 1) 3 (n + 2 + 1)) (n + 3 + 1)) (n + 1) 4 (n + 3 + 1)) (n + 4 + 1)) (n + 1) 5 (n + 4 + 1) = R5
  generalize hi5 : a_zi (a_zi (a_zi (a_zi (a_ui (a_ui (a_zi I (n + 1)) (n + 1) 0 p) (n + 1) 1 q) (n + 1 + 1)) (n + 2 + 1)) (n + 3 + 1)) (n + 4 + 1) = I5
  have r2 : R5 (n + 1) 2 = n + 2 := by rw [← hr5]; simp [ur_ap, zr_ap]
  have r3 : R5 (n + 1) 3 = n + 3 := by rw [← hr5]; simp [ur_ap, zr_ap]
  have r4 : R5 (n + 1) 4 = n + 4 := by rw [← hr5]; simp [ur_ap, zr_ap]
  have r5 : R5 (n + 1) 5 = n + 5 := by rw [← hr5]; simp [ur_ap, zr_ap]
  have rx : ∀ x j, x < n + 1 → R5 x j = R x j := fun x j hx => by
    obtain ⟨e1, e2, e3, e4, e5⟩ := hne x hx
    rw [← hr5]
    simp [ur_ap, zr_ap, e1, e2, e3, e4, e5]
  have ix : ∀ x j, x < n + 1 → I5 x j = I x j := fun x j hx => by
    obtain ⟨e1, e2, e3, e4, e5⟩ := hne x hx
    rw [← hi5]
    simp [ui_ap, zi_ap, e1, e2, e3, e4, e5]
  have i6 : I5 (n + 1) 6 = 0 := by rw [← hi5]; simp [ui_ap, zi_ap]
  clear hr5 hi5
  refine ⟨by simp, by simp, by simp, by simp, ?_⟩
  refine lk_Binit_51 (by rw [hk]; simp) f0 (by rw [r2]; simp) (by rw [r2, hk]; simp) (by rw [r2, hl]; simp) (by rw [r4]; simp) (by rw [r4, hk]; simp) (by rw [r4, hl]; simp) (fun J hJ => ?_) 0 (by decide) I5 (by decide) (fun _ _ _ _ => rfl)
  rw [r2, r4] at hJ
  have e680 : t + 200 + 200 + 200 + 80 = t + 680 := by omega
  rw [e680]
  refine hP K5 L5 J R5 (by rw [hk]; simp) (fun x hx => ?_) (fun x hx => ?_) (fun x h1 h2 => ?_) (fun x hx => ?_) (by rw [hl]; simp) (by rw [hl]; simp) (by rw [hl]; simp) (by rw [hl]; simp) (fun x j hx => ?_) rx r2 r3 r4 r5 ?_
  · obtain ⟨e1, e2, e3, e4, e5⟩ := hne x hx
    rw [hk]
    simp [e1, e2, e3, e4, e5]
  · rw [hk, if_neg (by omega), if_neg (by omega), if_neg (by omega), if_neg (by omega), if_neg (by omega)]
    exact hn x (by omega)
  · rw [hk]
    rcases (by omega : x = n + 2 ∨ x = n + 3 ∨ x = n + 4 ∨ x = n + 5) with e | e | e | e <;> subst e <;> simp
  · obtain ⟨e1, e2, e3, e4, e5⟩ := hne x hx
    rw [hl]
    simp [e1, e2, e3, e4, e5]
  · rw [hJ x j (by omega) (by omega)]
    exact ix x j hx
  · rw [hJ _ _ (by omega) (by omega)]
    exact i6
theorem ck_addBench (hH : cH C c (n + 1) t K L I R) {p q : Int32} (hc : ¬ 6 ≤ I (C + 14) 5) (hP : ∀ t' K' L' J R', cH C (c + 1) (n + 1 + 5) t' K' L' J R' → dX C (n + 1) K L (a_ui I (C + 14) 5 (I (C + 14) 5 + 1)) R (n + 1 + 5) K' L' J R' → P (some (.int (I (C + 14) 5 + 1 - 1))) (n + 1 + 5, t', K', L', J, R')) : a_does (d + 2) 21 [a_rf (C + 14), .int p, .int q] (n + 1, t, K, L, I, R) P := by
  have hT := hH.1
  have hS := hT.s
  have g := hT.g_benches
  have fr := hH.2.1
  have hC := hH.2.2.1
  have ok6 : 0 ≤ I (C + 14) 5 ∧ I (C + 14) 5 < 6 := ⟨g.1, Int32.not_le.mp hc⟩
  have hc' : I (C + 14) 5 < 6 := ok6.2
  have f1 : (n + 1 = 0) = False := eq_false (by omega)
  rw [a_enter1 (M := a_m21) rfl (a_cat_rf (a_cat_int (a_cat_int a_cat_nil))) (show 3 ≤ 3 by decide)]
  show a_at _ (a_xm a_m21) 0 [some (a_rf (C + 14)), some (.int p), some (.int q)] [] _ _
  simp only [q21_0, q21_1, q21_4, q21_6, q21_9, q21_11, q21_12, q21_13, q21_16, q21_17, q21_20, q21_23, q21_24, q21_25, q21_26, k_14 hS, z_14, r_14_3 hS, k_16 hS, l_16 hS, z_16, as_nil, as_i, as_r, Nat.reduceAdd, Nat.reduceLeDiff, z_eq0, z_eq1, z_or, z_em, Classical.not_not, not_false_eq_true, not_true_eq_false, true_and, and_true, false_and, and_false, and_self, true_implies, false_implies, implies_true, Option.toList_some, Option.toList_none, List.cons_append, List.nil_append, Nat.add_eq_zero_iff, a_nl_i, a_nl_r, a_nl_n, true_or, or_true, eq_self, a_isRA_22, a_isRA_24, a_isRA_32, a_isA_20, ok_4, ok_5, ok_6, ok_7, ok_9, ok_20, ok_21, ok_30, ok_50, ok_180, ok_192, ok_200, hc', hc, f1]
  refine ck_Binit fr (fun K' L' J' R' k1 k2 k3 k4 l0 l2 l3 l4 l5 j1 r1 r2 r3 r4 r5 j6 => ?_)
  have hT2 : cT C K' L' J' R' := by
    refine cT_grow hT fr hC k2 l0 j1 r1 (fun a h1 h2 => ?_) (fun b h1 h2 => ?_) (fun x h1 h2 => ?_)
    · rcases (by omega : a = n + 1 ∨ (n + 1 < a ∧ a < n + 1 + 5) ∨ n + 1 + 5 ≤ a) with e | e | e
      · rw [e, k1] at h2; cases h2
      · rw [k4 a e.1 e.2] at h2; cases h2
      · rw [k3 a e] at h2; cases h2
    · rcases (by omega : b = n + 1 ∨ (n + 1 < b ∧ b < n + 1 + 5) ∨ n + 1 + 5 ≤ b) with e | e | e
      · subst e
        rw [r2, r3, r4, r5, j6, l2, l3, l4, l5, k4 _ (by omega) (by omega), k4 _ (by omega) (by omega), k4 _ (by omega) (by omega), k4 _ (by omega) (by omega)]
        exact ⟨by omega, ⟨by omega, rfl, rfl⟩, ⟨by omega, rfl, rfl⟩, ⟨by omega, rfl, rfl⟩, ⟨by omega, rfl, 1, rfl, by decide, by decide⟩, by decide, by decide, by decide⟩
      · rw [k4 b e.1 e.2] at h2; cases h2
      · rw [k3 b e] at h2; cases h2
    · rcases (by omega : x = n + 1 ∨ (n + 1 < x ∧ x < n + 1 + 5) ∨ n + 1 + 5 ≤ x) with e | e | e
      · rw [e, k1] at h2; cases h2
      · rw [k4 x e.1 e.2] at h2; cases h2
      · rw [k3 x e] at h2; cases h2
  have e5 : J' (C + 14) 5 = I (C + 14) 5 := j1 _ _ (by omega)
  have hS2 := hT2.s
  have hT3 := sT_addBench hT2 k1 (by rw [e5]; exact hc)
  have hV : cV C L' (a_ur R' (C + 16) (I (C + 14) 5).toNatClampNeg (n + 1)) = cV C L R + 80 := by
    have hi : (I (C + 14) 5).toNatClampNeg < 6 := show _ < (6 : Int32).toNatClampNeg from cl_lt g.1 hc'
    have hv : ∀ i, L' (a_ur R' (C + 16) (I (C + 14) 5).toNatClampNeg (n + 1) (a_ur R' (C + 16) (I (C + 14) 5).toNatClampNeg (n + 1) (C + 16) i) 5) = L (R (R (C + 16) i) 5) + if i = (I (C + 14) 5).toNatClampNeg then 80 else 0 := fun i => by
      rw [ur_ap R' _ _ _ (C + 16) i]
      by_cases e : i = (I (C + 14) 5).toNatClampNeg
      · rw [if_pos ⟨rfl, e⟩, if_pos e, ur_ap, if_neg (by omega), r5, l5, hT.g_benN i (by omega), hH.2.2.2.1.1, hH.2.2.2.1.2]
      · rw [if_neg (fun q => e q.2), if_neg e, r1 _ _ (by omega)]
        rcases hT.g_benchesR i with q | q
        · rw [q, ur_ap, if_neg (by omega), r1 _ _ (by omega), hH.2.2.2.1.1, l0 _ (by omega)]
          rfl
        · have b1 := (hT.g_bnc _ q).1
          have l1 := kn_lt fr q (by decide)
          rw [ur_ap, if_neg (by omega), r1 _ _ l1, l0 _ (kn_lt fr (hT.g_bnc _ q).2.2.2.2.1.2.1 (by decide))]
          rfl
    unfold cV
    rw [hv 0, hv 1, hv 2, hv 3, hv 4, hv 5]
    generalize (I (C + 14) 5).toNatClampNeg = z at hi
    rcases (by omega : z = 0 ∨ z = 1 ∨ z = 2 ∨ z = 3 ∨ z = 4 ∨ z = 5) with e | e | e | e | e | e <;> subst e <;> simp <;> omega
  rw [e5] at hT3
  have hfin := hP (t + 7 + 680) K' L' (a_ui J' (C + 14) 5 (I (C + 14) 5 + 1)) (a_ur R' (C + 16) (I (C + 14) 5).toNatClampNeg (n + 1)) ⟨hT3, k3, by omega, ⟨by rw [ur_ap, if_neg (by omega), r1 _ _ (by omega)]; exact hH.2.2.2.1.1, by rw [l0 _ (by omega)]; exact hH.2.2.2.1.2⟩, by rw [hV]; have := hH.2.2.2.2.1; omega, by rw [hV]; have := hH.2.2.2.2.2; omega⟩ ⟨by omega, k2, l0, fun x j q1 q2 => by rw [ur_ap, if_neg (by omega)]; exact r1 x j (by omega), fun x j q1 q2 => by rw [ui_ap, ui_ap]; split; rfl; exact j1 x j q2⟩
  have hS := hS2
  simp only [q21_29, q21_30, q21_31, q21_32, q21_35, q21_36, q21_37, q21_40, q21_41, q21_44, q21_45, q21_46, k_14 hS, z_14, as_nil, as_i, as_r, Nat.reduceAdd, Nat.reduceLeDiff, z_eq0, z_eq1, z_or, z_em, Classical.not_not, not_false_eq_true, not_true_eq_false, true_and, and_true, false_and, and_false, and_self, true_implies, false_implies, implies_true, Option.toList_some, Option.toList_none, List.cons_append, List.nil_append, Nat.add_eq_zero_iff, a_nl_i, a_nl_r, a_nl_n, true_or, or_true, eq_self, a_isRA_22, a_isRA_24, a_isRA_32, a_isA_20, ok_4, ok_5, ok_6, ok_7, ok_9, ok_20, ok_21, ok_30, ok_50, ok_180, ok_192, ok_200, ui_ap, cc_ne, cc_n0, cc_0n, Nat.reduceEqDiff, reduceIte, if_true, if_false, k_16 hS, l_16 hS, z_16, e5, k1, hc', g.1]
  repeat' first
    | with_reducible apply And.intro
    | exact hfin
    | exact ok6.1
    | exact hc'
    | (right; rfl)
    | decide
theorem ck_Ainit (hZ : cZ C c n0 K0 L0 I0 R0 (n + 1) t K L I R) {g l m w : Int32} (hm : 1 ≤ m ∧ m ≤ 4) (hP : ∀ t' K' L' J R', cZ C (c + 1) n0 K0 L0 I0 R0 (n + 1 + 1) t' K' L' J R' → K' (n + 1) = 1 → (∀ x, x < n + 1 → K' x = K x) → P none (n + 1 + 1, t', K', L', J, R')) : a_does (d + 1) 37 [a_rf (n + 1), .int g, .int l, .int m, .int w] (n + 1 + 1, t + 17, a_up K (n + 1) 1, a_up L (n + 1) 17, a_zi I (n + 1), a_zr R (n + 1)) P := by
  have fr := hZ.2.1.2.1
  have hC := hZ.2.1.2.2.1
  have f0 : (n + 1 = 0) = False := eq_false (by omega)
  rw [a_enter1 (M := a_m37) rfl (a_cat_rf (a_cat_int (a_cat_int (a_cat_int (a_cat_int a_cat_nil))))) (show 5 ≤ 5 by decide)]
  show a_at _ (a_xm a_m37) 0 [some (a_rf (n+1)), some (.int g), some (.int l), some (.int m), some (.int w)] [] _ _
  simp only [q37_0, as_nil, as_i, as_r, Nat.reduceAdd, Nat.reduceLeDiff, z_eq0, z_eq1, z_or, z_em, Classical.not_not, not_false_eq_true, not_true_eq_false, true_and, and_true, false_and, and_false, and_self, true_implies, false_implies, implies_true, Option.toList_some, Option.toList_none, List.cons_append, List.nil_append, Nat.add_eq_zero_iff, a_nl_i, a_nl_r, a_nl_n, true_or, or_true, eq_self, a_isRA_22, a_isRA_24, a_isRA_32, a_isA_20, ok_4, ok_5, ok_6, ok_7, ok_9, ok_20, ok_21, ok_30, ok_50, ok_180, ok_192, ok_200]
  rw [q37_1 (show ¬ n + 1 = 0 by omega) (show a_sum [] ≤ 8 by decide)]
  simp only [q37_4, q37_5, q37_6, q37_9, q37_10, q37_11, q37_14, q37_15, q37_16, q37_19, q37_20, q37_22, q37_25, q37_26, q37_28, q37_31, q37_32, q37_34, q37_37, q37_38, q37_40, q37_43, as_nil, as_i, as_r, Nat.reduceAdd, Nat.reduceLeDiff, z_eq0, z_eq1, z_or, z_em, Classical.not_not, not_false_eq_true, not_true_eq_false, true_and, and_true, false_and, and_false, and_self, true_implies, false_implies, implies_true, Option.toList_some, Option.toList_none, List.cons_append, List.nil_append, Nat.add_eq_zero_iff, a_nl_i, a_nl_r, a_nl_n, true_or, or_true, eq_self, a_isRA_22, a_isRA_24, a_isRA_32, a_isA_20, ok_4, ok_5, ok_6, ok_7, ok_9, ok_20, ok_21, ok_30, ok_50, ok_180, ok_192, ok_200, up_ap, up_eq, Nat.add_left_cancel_iff, Nat.add_right_cancel_iff, Nat.reduceEqDiff, if_true, if_false, f0]
  generalize hi : a_ui (a_ui (a_ui (a_ui (a_ui (a_ui (a_ui (a_zi I (n + 1)) (n + 1) 0 g) (n + 1) 1 l) (n + 1) 2 m) (n + 1) 3 w) (n + 1) 12 (-9)) (n + 1) 13 (-9)) (n + 1) 14 (-9) = I5
  have i2 : I5 (n + 1) 2 = m := by rw [← hi]; simp [ui_ap]
  have i4 : I5 (n + 1) 4 = 0 := by rw [← hi]; simp [ui_ap, zi_ap]
  have i13 : I5 (n + 1) 13 = -9 := by rw [← hi]; simp [ui_ap]
  have ix : ∀ x j, x < n + 1 → I5 x j = I x j := fun x j hx => by
    have e : ¬ x = n + 1 := by omega
    rw [← hi]
    simp [ui_ap, zi_ap, e]
  clear hi
  refine hP (t + 17) _ _ I5 _ (cZ_new (m := 1) (s := 17) hZ (by decide) (by decide) (fun x hx => up_ne (by omega)) (fun x hx => up_ne (by omega)) ix (fun x j hx => zr_ne (by omega)) (fun x hx => ?_) (fun a h1 h2 => ?_) (fun b h1 h2 => ?_) (fun x h1 h2 => ?_)) up_eq (fun x hx => up_ne (by omega))
  · rw [up_ne (by omega)]
    exact fr x (by omega)
  · by_cases e : a = n + 1
    · subst e
      rw [i2, i4, i13]
      exact ⟨by omega, hm, by decide, fun h => absurd h (by decide)⟩
    · rw [up_ne e, fr a (by omega)] at h2; cases h2
  · by_cases e : b = n + 1
    · subst e
      rw [up_eq] at h2; cases h2
    · rw [up_ne e, fr b (by omega)] at h2; cases h2
  · by_cases e : x = n + 1
    · subst e
      rw [up_eq] at h2; cases h2
    · rw [up_ne e, fr x (by omega)] at h2; cases h2
theorem ck_want {a : Nat} (ha : K a = 1) (hG : dG C K L R I0 I) {p q r w : Int32} (hP : ∀ J, dG C K L R I0 J → P none (n, t, K, L, J, R)) : a_does (d + 1) 41 [a_rf a, .int p, .int q, .int r, .int w] (n, t, K, L, I, R) P := by
  have hT := hG.1
  obtain ⟨a1, a2, a4, a3⟩ := hT.g_ask a ha
  have a0 : (a = 0) = False := eq_false (by omega)
  have hw : ∀ J k v, dG C K L R I0 J → (¬ k = 2 ∧ ¬ k = 4 ∧ ¬ k = 13 ∧ ¬ k = 14) → dG C K L R I0 (a_ui J a k v) := fun J k v h hk => dG_askf h a1 ha hk
  rw [a_enter1 (M := a_m41) rfl (a_cat_rf (a_cat_int (a_cat_int (a_cat_int (a_cat_int a_cat_nil))))) (show 5 ≤ 5 by decide)]
  show a_at _ (a_xm a_m41) 0 [some (a_rf a), some (.int p), some (.int q), some (.int r), some (.int w)] [] _ _
  simp only [q41_0, q41_1, q41_2, q41_5, q41_6, q41_7, q41_10, q41_11, q41_12, q41_15, q41_16, q41_18, q41_21, as_nil, as_i, as_r, Nat.reduceAdd, Nat.reduceLeDiff, z_eq0, z_eq1, z_or, z_em, Classical.not_not, not_false_eq_true, not_true_eq_false, true_and, and_true, false_and, and_false, and_self, true_implies, false_implies, implies_true, Option.toList_some, Option.toList_none, List.cons_append, List.nil_append, Nat.add_eq_zero_iff, a_nl_i, a_nl_r, a_nl_n, true_or, or_true, eq_self, a_isRA_22, a_isRA_24, a_isRA_32, a_isA_20, ok_4, ok_5, ok_6, ok_7, ok_9, ok_20, ok_21, ok_30, ok_50, ok_180, ok_192, ok_200, ha, a0]
  exact hP _ (hw _ _ _ (hw _ _ _ (hw _ _ _ (hw _ _ _ hG (by decide)) (by decide)) (by decide)) (by decide))
theorem ck_bind {a : Nat} (ha : K a = 1) (hG : dG C K L R I0 I) {p q r : Int32} (hP : ∀ J, dG C K L R I0 J → P none (n, t, K, L, J, R)) : a_does (d + 1) 42 [a_rf a, .int p, .int q, .int r] (n, t, K, L, I, R) P := by
  have hT := hG.1
  obtain ⟨a1, a2, a4, a3⟩ := hT.g_ask a ha
  have a0 : (a = 0) = False := eq_false (by omega)
  have hw : ∀ J k v, dG C K L R I0 J → (¬ k = 2 ∧ ¬ k = 4 ∧ ¬ k = 13 ∧ ¬ k = 14) → dG C K L R I0 (a_ui J a k v) := fun J k v h hk => dG_askf h a1 ha hk
  rw [a_enter1 (M := a_m42) rfl (a_cat_rf (a_cat_int (a_cat_int (a_cat_int a_cat_nil)))) (show 4 ≤ 4 by decide)]
  show a_at _ (a_xm a_m42) 0 [some (a_rf a), some (.int p), some (.int q), some (.int r)] [] _ _
  simp only [q42_0, q42_1, q42_2, q42_5, q42_6, q42_7, q42_10, q42_11, q42_12, q42_15, as_nil, as_i, as_r, Nat.reduceAdd, Nat.reduceLeDiff, z_eq0, z_eq1, z_or, z_em, Classical.not_not, not_false_eq_true, not_true_eq_false, true_and, and_true, false_and, and_false, and_self, true_implies, false_implies, implies_true, Option.toList_some, Option.toList_none, List.cons_append, List.nil_append, Nat.add_eq_zero_iff, a_nl_i, a_nl_r, a_nl_n, true_or, or_true, eq_self, a_isRA_22, a_isRA_24, a_isRA_32, a_isA_20, ok_4, ok_5, ok_6, ok_7, ok_9, ok_20, ok_21, ok_30, ok_50, ok_180, ok_192, ok_200, ha, a0]
  exact hP _ (hw _ _ _ (hw _ _ _ (hw _ _ _ hG (by decide)) (by decide)) (by decide))
theorem ck_owedOne {a : Nat} (ha : K a = 1) (hZ : cZ C c n0 K0 L0 I0 R0 (n + 1) t K L I R) {m : Int32} (hm : 1 ≤ m ∧ m ≤ 4) (hP : ∀ t' K' L' J R', cZ C (c + 1) n0 K0 L0 I0 R0 (n + 1 + 1) t' K' L' J R' → K' (n + 1) = 1 → (∀ x, x < n + 1 → K' x = K x) → P (some (a_rf (n + 1))) (n + 1 + 1, t', K', L', J, R')) : a_does (d + 2) 142 [a_rf a, .int m] (n + 1, t, K, L, I, R) P := by
  have hT := hZ.2.1.1
  obtain ⟨a1, a2, a4, a3⟩ := hT.g_ask a ha
  have a0 : (a = 0) = False := eq_false (by omega)
  have fr := hZ.2.1.2.1
  have al := kn_lt fr ha (by decide)
  have an : (a = n + 1) = False := eq_false (by omega)
  have f0 : (n + 1 = 0) = False := eq_false (by omega)
  rw [a_enter1 (M := a_m142) rfl (a_cat_rf (a_cat_int a_cat_nil)) (show 2 ≤ 3 by decide)]
  show a_at _ (a_xm a_m142) 0 [some (a_rf a), some (.int m), none] [] _ _
  simp only [q142_0, q142_3, q142_4, q142_5, q142_8, q142_9, q142_12, q142_13, q142_14, q142_17, as_nil, as_i, as_r, Nat.reduceAdd, Nat.reduceLeDiff, z_eq0, z_eq1, z_or, z_em, Classical.not_not, not_false_eq_true, not_true_eq_false, true_and, and_true, false_and, and_false, and_self, true_implies, false_implies, implies_true, Option.toList_some, Option.toList_none, List.cons_append, List.nil_append, Nat.add_eq_zero_iff, a_nl_i, a_nl_r, a_nl_n, true_or, or_true, eq_self, a_isRA_22, a_isRA_24, a_isRA_32, a_isA_20, ok_4, ok_5, ok_6, ok_7, ok_9, ok_20, ok_21, ok_30, ok_50, ok_180, ok_192, ok_200, ha, a0, up_ap, an, f0, if_false]
  refine ck_Ainit hZ hm (fun t' K' L' J R' z k1 k2 => ?_)
  have ha' : K' a = 1 := by rw [k2 a al]; exact ha
  simp only [q142_20, q142_21, q142_22, q142_23, q142_26, q142_27, q142_30, q142_31, q142_34, q142_35, q142_38, as_nil, as_i, as_r, Nat.reduceAdd, Nat.reduceLeDiff, z_eq0, z_eq1, z_or, z_em, Classical.not_not, not_false_eq_true, not_true_eq_false, true_and, and_true, false_and, and_false, and_self, true_implies, false_implies, implies_true, Option.toList_some, Option.toList_none, List.cons_append, List.nil_append, Nat.add_eq_zero_iff, a_nl_i, a_nl_r, a_nl_n, true_or, or_true, eq_self, a_isRA_22, a_isRA_24, a_isRA_32, a_isA_20, ok_4, ok_5, ok_6, ok_7, ok_9, ok_20, ok_21, ok_30, ok_50, ok_180, ok_192, ok_200, a0, ha', k1, f0]
  refine ck_want k1 (dG_refl z.2.1.1) (fun J2 g2 => ?_)
  simp only [q142_41, q142_42, q142_43, q142_44, q142_45, as_nil, as_i, as_r, Nat.reduceAdd, Nat.reduceLeDiff, z_eq0, z_eq1, z_or, z_em, Classical.not_not, not_false_eq_true, not_true_eq_false, true_and, and_true, false_and, and_false, and_self, true_implies, false_implies, implies_true, Option.toList_some, Option.toList_none, List.cons_append, List.nil_append, Nat.add_eq_zero_iff, a_nl_i, a_nl_r, a_nl_n, true_or, or_true, eq_self, a_isRA_22, a_isRA_24, a_isRA_32, a_isA_20, ok_4, ok_5, ok_6, ok_7, ok_9, ok_20, ok_21, ok_30, ok_50, ok_180, ok_192, ok_200, a0, ha', k1, f0]
  refine ck_bind k1 g2 (fun J3 g3 => ?_)
  simp only [q142_48, q142_49, as_nil, as_i, as_r, Nat.reduceAdd, Nat.reduceLeDiff, z_eq0, z_eq1, z_or, z_em, Classical.not_not, not_false_eq_true, not_true_eq_false, true_and, and_true, false_and, and_false, and_self, true_implies, false_implies, implies_true, Option.toList_some, Option.toList_none, List.cons_append, List.nil_append, Nat.add_eq_zero_iff, a_nl_i, a_nl_r, a_nl_n, true_or, or_true, eq_self, a_isRA_22, a_isRA_24, a_isRA_32, a_isA_20, ok_4, ok_5, ok_6, ok_7, ok_9, ok_20, ok_21, ok_30, ok_50, ok_180, ok_192, ok_200, a0, ha', k1, f0]
  exact hP t' K' L' J3 R' (cZ_G z g3) k1 k2
theorem ck_addAsk {a : Nat} (ha : K a = 1) (hZ : cZ C c n0 K0 L0 I0 R0 n t K L I R) (hc : ¬ 30 ≤ I (C + 14) 4) (hP : ∀ v J R', cZ C c n0 K0 L0 I0 R0 n t K L J R' → P (some (.int v)) (n, t, K, L, J, R')) : a_does (d + 1) 43 [a_rf (C + 14), a_rf a] (n, t, K, L, I, R) P := by
  have hT := hZ.2.1.1
  have hS := hT.s
  obtain ⟨a1, a2, a4, a3⟩ := hT.g_ask a ha
  have a0 : (a = 0) = False := eq_false (by omega)
  have g := hT.g_asks
  have h1 := sT_addAsk hT ha hc
  have hC := hT.s.1
  have hc' : I (C + 14) 4 < 30 := Int32.not_le.mp hc
  have g0 : 0 ≤ I (C + 14) 4 := g.1
  have an : (a = C + 14) = False := eq_false (by omega)
  have na : (C + 14 = a) = False := eq_false (by omega)
  have z : cZ C c n0 K0 L0 I0 R0 n t K L (a_ui (a_ui I a 4 (I (C + 14) 4)) (C + 14) 4 (I (C + 14) 4 + 1)) (a_ur R (C + 15) (I (C + 14) 4).toNatClampNeg a) := by
    obtain ⟨z1, ⟨p1, p2, p3, p4, p5, p6⟩, z3⟩ := hZ
    have hv : cV C L (a_ur R (C + 15) (I (C + 14) 4).toNatClampNeg a) = cV C L R := cV_eq (fun i => by
      have e1 : a_ur R (C + 15) (I (C + 14) 4).toNatClampNeg a (C + 16) i = R (C + 16) i := by rw [ur_ap, if_neg (by omega)]
      rw [e1, ur_ap, if_neg ?_]
      intro e
      rcases p1.g_benchesR i with q | q
      · omega
      · have := (p1.g_bnc _ q).1
        omega)
    exact ⟨z1, ⟨h1, p2, p3, by rw [ur_ap, if_neg (by omega)]; exact p4, by rw [hv]; exact p5, by rw [hv]; exact p6⟩, dX_X z3 ⟨Nat.le_refl _, fun _ _ => rfl, fun _ _ => rfl, fun x j p q => by rw [ur_ap, if_neg (by omega)], fun x j p q => by rw [ui_ap, if_neg (fun e => by unfold eD at p; omega), ui_ap, if_neg (fun e => by rw [e.1] at p; unfold eD at p; omega)]⟩⟩
  rw [a_enter1 (M := a_m43) rfl (a_cat_rf (a_cat_rf a_cat_nil)) (show 2 ≤ 2 by decide)]
  show a_at _ (a_xm a_m43) 0 [some (a_rf (C + 14)), some (a_rf a)] [] _ _
  simp only [q43_0, q43_1, q43_4, q43_6, q43_9, q43_11, q43_12, q43_13, q43_16, q43_17, q43_20, q43_21, q43_22, q43_23, q43_24, q43_27, q43_30, q43_31, q43_32, q43_35, q43_36, q43_37, q43_40, q43_41, q43_44, k_14 hS, z_14, r_14_2 hS, k_15 hS, l_15 hS, z_15, as_nil, as_i, as_r, Nat.reduceAdd, Nat.reduceLeDiff, z_eq0, z_eq1, z_or, z_em, Classical.not_not, not_false_eq_true, not_true_eq_false, true_and, and_true, false_and, and_false, and_self, true_implies, false_implies, implies_true, Option.toList_some, Option.toList_none, List.cons_append, List.nil_append, Nat.add_eq_zero_iff, a_nl_i, a_nl_r, a_nl_n, true_or, or_true, eq_self, a_isRA_22, a_isRA_24, a_isRA_32, a_isA_20, ok_4, ok_5, ok_6, ok_7, ok_9, ok_20, ok_21, ok_30, ok_50, ok_180, ok_192, ok_200, ui_ap, cc_ne, cc_n0, cc_0n, Nat.reduceEqDiff, reduceIte, if_true, if_false, ha, a0, hc', hc, g0, an, na]
  have hfin := fun v => hP v _ _ z
  repeat' first
    | with_reducible apply And.intro
    | exact hfin _
    | (right; rfl)
    | decide
theorem ck_written (hZ : cZ C c n0 K0 L0 I0 R0 (n + 1) t K L I R) (hP : ∀ t' K' L' J R', cZ C (c + 1) n0 K0 L0 I0 R0 (n + 1 + 1) t' K' L' J R' → K' (n + 1) = 20 → L' (n + 1) ≤ 50 → P (some (a_rf (n + 1))) (n + 1 + 1, t', K', L', J, R')) : a_does (d + 1) 81 [a_rf (C + 11)] (n + 1, t, K, L, I, R) P := by
  have hT := hZ.2.1.1
  have hS := hT.s
  have fr := hZ.2.1.2.1
  have hC := hZ.2.1.2.2.1
  have g := hT.g_code
  have f0 : (n + 1 = 0) = False := eq_false (by omega)
  have e0 := Int32.le_iff_toInt_le.mp g.1
  have e1 := Int32.le_iff_toInt_le.mp g.2
  have c0 : (0 : Int32).toInt = 0 := rfl
  have c50 : (50 : Int32).toInt = 50 := rfl
  have hm : (I (C + 11) 3).toNatClampNeg ≤ 50 := by
    show (I (C + 11) 3).toInt.toNat ≤ 50
    omega
  have h6 : (I (C + 11) 3).toNatClampNeg ≤ 1000000 := by omega
  have hn0 : (I (C + 11) 3 < 0) = False := eq_false (Int32.not_lt.mpr g.1)
  have n11 : (C + 11 = n + 1) = False := eq_false (by omega)
  have n13 : (C + 13 = n + 1) = False := eq_false (by omega)
  rw [a_enter1 (M := a_m81) rfl (a_cat_rf a_cat_nil) (show 1 ≤ 2 by decide)]
  show a_at _ (a_xm a_m81) 0 [some (a_rf (C + 11)), none] [] _ _
  simp only [q81_0, q81_1, q81_4, q81_6, q81_7, q81_8, q81_11, q81_12, q81_13, q81_14, q81_15, k_11 hS, z_11, r_11_1 hS, k_13 hS, l_13 hS, z_13, as_nil, as_i, as_r, Nat.reduceAdd, Nat.reduceLeDiff, z_eq0, z_eq1, z_or, z_em, Classical.not_not, not_false_eq_true, not_true_eq_false, true_and, and_true, false_and, and_false, and_self, true_implies, false_implies, implies_true, Option.toList_some, Option.toList_none, List.cons_append, List.nil_append, Nat.add_eq_zero_iff, a_nl_i, a_nl_r, a_nl_n, true_or, or_true, eq_self, a_isRA_22, a_isRA_24, a_isRA_32, a_isA_20, ok_4, ok_5, ok_6, ok_7, ok_9, ok_20, ok_21, ok_30, ok_50, ok_180, ok_192, ok_200, up_ap, up_eq, zi_ap, zr_ap, if_true, if_false, hn0, h6, n11, n13, f0, a_copy_eq, a_kd_eq, a_ln_eq, cn00, lt00, Nat.zero_add]
  generalize hk : (I (C + 11) 3).toNatClampNeg = k at hm ⊢
  simp only [q81_18, q81_21, q81_22, as_nil, as_i, as_r, Nat.reduceAdd, Nat.reduceLeDiff, z_eq0, z_eq1, z_or, z_em, Classical.not_not, not_false_eq_true, not_true_eq_false, true_and, and_true, false_and, and_false, and_self, true_implies, false_implies, implies_true, Option.toList_some, Option.toList_none, List.cons_append, List.nil_append, Nat.add_eq_zero_iff, a_nl_i, a_nl_r, a_nl_n, true_or, or_true, eq_self, a_isRA_22, a_isRA_24, a_isRA_32, a_isA_20, ok_4, ok_5, ok_6, ok_7, ok_9, ok_20, ok_21, ok_30, ok_50, ok_180, ok_192, ok_200, up_ap, up_eq, zi_ap, zr_ap, if_true, if_false, k_11 hS, z_11, k_13 hS, l_13 hS, z_13, hn0, hk, n11, n13, f0, a_copy_eq, a_kd_eq, a_ln_eq, cn00, lt00, Nat.zero_add, Nat.le_refl, hm]
  have ix : ∀ x j, x < n + 1 → a_ci (a_zi I (n + 1)) (C + 13) (n + 1) 0 0 k x j = I x j := fun x j hx => by rw [ci_ne (by omega), zi_ne (by omega)]
  have z := cZ_new (m := 1) (s := k) (K' := a_up K (n + 1) 20) (L' := a_up L (n + 1) k) (J := a_ci (a_zi I (n + 1)) (C + 13) (n + 1) 0 0 k) (R' := a_zr R (n + 1)) hZ (by decide) (by omega) (fun x hx => up_ne (by omega)) (fun x hx => up_ne (by omega)) ix (fun x j hx => zr_ne (by omega)) (fun x hx => by rw [up_ne (by omega)]; exact fr x (by omega)) (fun a h1 h2 => by
    by_cases e : a = n + 1
    · rw [e, up_eq] at h2; cases h2
    · rw [up_ne e, fr a (by omega)] at h2; cases h2) (fun a h1 h2 => by
    by_cases e : a = n + 1
    · rw [e, up_eq] at h2; cases h2
    · rw [up_ne e, fr a (by omega)] at h2; cases h2) (fun a h1 h2 => by
    by_cases e : a = n + 1
    · rw [e, up_eq] at h2; cases h2
    · rw [up_ne e, fr a (by omega)] at h2; cases h2)
  exact hP _ _ _ _ _ z up_eq (by rw [up_eq]; exact hm)
theorem ck_addText (hZ : cZ C c n0 K0 L0 I0 R0 (n + 1) t K L I R) {x : Nat} (hx : K x = 20) (x1 : C + 96 < x) (hl : L x ≤ 50) {p q : Int32} (hc : ¬ 20 ≤ I (C + 7) 3) (hP : ∀ t' K' L' J R', cZ C (c + 1) n0 K0 L0 I0 R0 (n + 1 + 1) t' K' L' J R' → J (C + 7) 3 = I (C + 7) 3 → K' (n + 1) = 11 → J (n + 1) 4 = 0 → cH C (c + 1) (n + 1 + 1) t' K' L' J (a_ur R' (C + 8) (I (C + 7) 3).toNatClampNeg (n + 1)) → P (some (.int (I (C + 7) 3 + 1 - 1))) (n + 1 + 1, t', K', L', a_ui J (C + 7) 3 (I (C + 7) 3 + 1), a_ur R' (C + 8) (I (C + 7) 3).toNatClampNeg (n + 1))) : a_does (d + 2) 82 [a_rf (C + 7), .int p, .int q, a_rf x] (n + 1, t, K, L, I, R) P := by
  have hT := hZ.2.1.1
  have hS := hT.s
  have fr := hZ.2.1.2.1
  have hC := hZ.2.1.2.2.1
  have g := hT.g_texts
  have xl := kn_lt fr hx (by decide)
  have hc' : I (C + 7) 3 < 20 := Int32.not_le.mp hc
  have g0 : 0 ≤ I (C + 7) 3 := g.1
  have f0 : (n + 1 = 0) = False := eq_false (by omega)
  have n7 : (C + 7 = n + 1) = False := eq_false (by omega)
  have n8 : (C + 8 = n + 1) = False := eq_false (by omega)
  rw [a_enter1 (M := a_m82) rfl (a_cat_rf (a_cat_int (a_cat_int (a_cat_rf a_cat_nil)))) (show 4 ≤ 4 by decide)]
  show a_at _ (a_xm a_m82) 0 [some (a_rf (C + 7)), some (.int p), some (.int q), some (a_rf x)] [] _ _
  simp only [q82_0, q82_1, q82_4, q82_6, q82_9, q82_11, q82_12, q82_13, q82_16, q82_17, q82_20, q82_23, q82_24, q82_25, q82_26, q82_27, k_7 hS, z_7, r_7_0 hS, k_8 hS, l_8 hS, z_8, as_nil, as_i, as_r, Nat.reduceAdd, Nat.reduceLeDiff, z_eq0, z_eq1, z_or, z_em, Classical.not_not, not_false_eq_true, not_true_eq_false, true_and, and_true, false_and, and_false, and_self, true_implies, false_implies, implies_true, Option.toList_some, Option.toList_none, List.cons_append, List.nil_append, Nat.add_eq_zero_iff, a_nl_i, a_nl_r, a_nl_n, true_or, or_true, eq_self, a_isRA_22, a_isRA_24, a_isRA_32, a_isA_20, ok_4, ok_5, ok_6, ok_7, ok_9, ok_20, ok_21, ok_30, ok_50, ok_180, ok_192, ok_200, up_ap, up_eq, zi_ap, zr_ap, if_true, if_false, hc', hc, n7, n8, f0]
  rw [a_enter1 (M := a_m83) rfl (a_cat_rf (a_cat_int (a_cat_int (a_cat_rf a_cat_nil)))) (show 4 ≤ 4 by decide)]
  show a_at _ (a_xm a_m83) 0 [some (a_rf (n+1)), some (.int p), some (.int q), some (a_rf x)] [] _ _
  simp only [q83_0, as_nil, as_i, as_r, Nat.reduceAdd, Nat.reduceLeDiff, z_eq0, z_eq1, z_or, z_em, Classical.not_not, not_false_eq_true, not_true_eq_false, true_and, and_true, false_and, and_false, and_self, true_implies, false_implies, implies_true, Option.toList_some, Option.toList_none, List.cons_append, List.nil_append, Nat.add_eq_zero_iff, a_nl_i, a_nl_r, a_nl_n, true_or, or_true, eq_self, a_isRA_22, a_isRA_24, a_isRA_32, a_isA_20, ok_4, ok_5, ok_6, ok_7, ok_9, ok_20, ok_21, ok_30, ok_50, ok_180, ok_192, ok_200]
  rw [q83_1 (show ¬ n + 1 = 0 by omega) (show a_sum [] ≤ 8 by decide)]
  simp only [q83_4, q83_5, q83_6, q83_9, q83_10, q83_11, q83_14, q83_15, q83_16, q83_19, q83_20, q83_23, q83_26, as_nil, as_i, as_r, Nat.reduceAdd, Nat.reduceLeDiff, z_eq0, z_eq1, z_or, z_em, Classical.not_not, not_false_eq_true, not_true_eq_false, true_and, and_true, false_and, and_false, and_self, true_implies, false_implies, implies_true, Option.toList_some, Option.toList_none, List.cons_append, List.nil_append, Nat.add_eq_zero_iff, a_nl_i, a_nl_r, a_nl_n, true_or, or_true, eq_self, a_isRA_22, a_isRA_24, a_isRA_32, a_isA_20, ok_4, ok_5, ok_6, ok_7, ok_9, ok_20, ok_21, ok_30, ok_50, ok_180, ok_192, ok_200, up_ap, up_eq, Nat.add_left_cancel_iff, Nat.add_right_cancel_iff, Nat.reduceEqDiff, if_true, if_false, f0]
  generalize hi : a_ui (a_ui (a_ui (a_zi I (n + 1)) (n + 1) 0 p) (n + 1) 1 q) (n + 1) 3 200 = I5
  have ix : ∀ x j, x < n + 1 → I5 x j = I x j := fun x j hx => by
    have e : ¬ x = n + 1 := by omega
    rw [← hi]
    simp [ui_ap, zi_ap, e]
  have i4 : I5 (n + 1) 4 = 0 := by rw [← hi]; simp [ui_ap, zi_ap]
  clear hi
  have z := cZ_new (m := 1) (s := 5) (K' := a_up K (n + 1) 11) (L' := a_up L (n + 1) 5) (J := I5) (R' := a_ur (a_zr R (n + 1)) (n + 1) 2 x) hZ (by decide) (by decide) (fun x hx => up_ne (by omega)) (fun x hx => up_ne (by omega)) ix (fun x j hx => by rw [ur_ap, if_neg (by omega), zr_ne (by omega)]) (fun x hx => by rw [up_ne (by omega)]; exact fr x (by omega)) (fun a h1 h2 => by
    by_cases e : a = n + 1
    · rw [e, up_eq] at h2; cases h2
    · rw [up_ne e, fr a (by omega)] at h2; cases h2) (fun a h1 h2 => by
    by_cases e : a = n + 1
    · rw [e, up_eq] at h2; cases h2
    · rw [up_ne e, fr a (by omega)] at h2; cases h2) (fun a h1 h2 => by
    by_cases e : a = n + 1
    · subst e
      rw [ur_ap, if_pos ⟨rfl, rfl⟩, up_ne (by omega), up_ne (by omega)]
      exact ⟨by omega, x1, hx, hl⟩
    · rw [up_ne e, fr a (by omega)] at h2; cases h2)
  have z2 := cH_R8 z.2.1 (j := (I (C + 7) 3).toNatClampNeg) (Or.inr (up_eq (f := K) (a := n + 1) (v := 11)))
  have e5 : I5 (C + 7) 3 = I (C + 7) 3 := ix _ _ (by omega)
  have hfin := hP _ _ _ _ _ z e5 up_eq i4 z2
  have hS := z.2.1.1.s
  have k11 : a_up K (n + 1) 11 (n + 1) = 11 := up_eq
  simp only [q82_30, q82_31, q82_32, q82_33, q82_36, q82_37, q82_38, q82_41, q82_42, q82_45, q82_46, q82_47, k_7 hS, z_7, as_nil, as_i, as_r, Nat.reduceAdd, Nat.reduceLeDiff, z_eq0, z_eq1, z_or, z_em, Classical.not_not, not_false_eq_true, not_true_eq_false, true_and, and_true, false_and, and_false, and_self, true_implies, false_implies, implies_true, Option.toList_some, Option.toList_none, List.cons_append, List.nil_append, Nat.add_eq_zero_iff, a_nl_i, a_nl_r, a_nl_n, true_or, or_true, eq_self, a_isRA_22, a_isRA_24, a_isRA_32, a_isA_20, ok_4, ok_5, ok_6, ok_7, ok_9, ok_20, ok_21, ok_30, ok_50, ok_180, ok_192, ok_200, ui_ap, cc_ne, cc_n0, cc_0n, Nat.reduceEqDiff, reduceIte, if_true, if_false, k_8 hS, l_8 hS, z_8, e5, k11, hc', g0]
  repeat' first
    | with_reducible apply And.intro
    | exact hfin
    | (right; rfl)
    | decide
end KC
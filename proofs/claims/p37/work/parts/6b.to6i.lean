section
/-! the class's public calls -/
section YL0
variable {d n t C c : Nat} {K L : Nat → Nat} {I I0 J J0 J1 J2 : Nat → Nat → Int32} {R : Nat → Nat → Nat} {P : Option Value → AH → Prop}
variable {Y Z W : Nat → Nat → Int32} {R' R1 : Nat → Nat → Nat} {K' L' : Nat → Nat}
theorem ge_refuse (hH : cH C c (n + 1) t K L I R) (hu : cuP C K L I R Y) {v : Int32} (hP : ∀ J, cH C c (n + 1) t K L J R → cuP C K L J R Y → P (some (.int v)) (n + 1, t, K, L, J, R)) : a_does (d + 1) 10 [a_rf C, .int v] (n + 1, t, K, L, I, R) P := by
  have hT := hH.1
  have hS := hT.s
  have hw : ∀ k w, P (some (.int v)) (n + 1, t, K, L, (a_ui I (C + 42) k w), R) := fun k w => hP _ (cH_J hH (sT_BeamHall_refused hT)) (cu_42 hT hu hH)
  have hw0 := hP I hH hu
  clear hP hu hH hT
  rw [a_enter1 (M := a_m10) rfl (a_cat_rf (a_cat_int a_cat_nil)) (show 2 ≤ 2 by decide)]
  show a_at _ (a_xm a_m10) 0 [some (a_rf C), some (.int v)] [] _ _
  repeat' first
    | with_reducible apply And.intro
    | with_reducible assumption
    | with_reducible intro _
    | with_reducible apply hw0
    | with_reducible apply hw
    | simp only [q10_0, q10_1, q10_4, q10_5, q10_7, q10_10, q10_11, q10_14, q10_15, q10_16, q10_17, q10_18, q10_19, q10_20, q10_21, q10_22, k_0 hS, z_C hS, r_0_8 hS, k_42 hS, l_42 hS, z_42, as_nil, as_i, as_r, Nat.reduceAdd, Nat.reduceLeDiff, z_eq0, z_eq1, z_or, z_em, Classical.not_not, not_false_eq_true, not_true_eq_false, true_and, and_true, false_and, and_false, and_self, true_implies, false_implies, implies_true, Option.toList_some, Option.toList_none, List.cons_append, List.nil_append, Nat.add_eq_zero_iff, a_nl_i, a_nl_r, a_nl_n, true_or, or_true, eq_self, a_isRA_22, a_isRA_24, a_isRA_32, a_isA_20, ok_4, ok_5, ok_6, ok_7, ok_9, ok_20, ok_21, ok_30, ok_50, ok_180, ok_192, ok_200]
  all_goals ((try clear ih); (try clear hP); (try clear hl); (try clear hq); (try clear a3); grind [ui_ap])
theorem cu_Q {m n' : Nat} (hH : cH C c m t K L I R) (hu : cuP C K L I R Y) (hQ : dQ C m K L I R n' K' L' J R') (hc : cpP C K' L' J R' Z) (hse : seP C R' Y) (hs : ssE Y Z) {i : Int32} (hi : 0 ≤ i ∧ i < Y 0 17) (hz : aZ K (R (C + 15) i.toNatClampNeg) I J) (hno : noP Z) : cuP C K' L' J R' Z := ⟨hc, se_b hse (ss_b hs), siP_ss hs (siP_z hH.1 hu.2.2.1 (fz_Q (fz_refl hH) hH.1 hQ (no_not i hi.1 hi.2) hz)), hno, stP_ss hs (stP_z hH.1 hu.1 hu.2.2.2.2 (fz_Q (fz_refl hH) hH.1 hQ (no_not i hi.1 hi.2) hz))⟩
/-- take, give -/
def tkY (Y : Nat → Nat → Int32) (a : Int32) : Int32 × (Nat → Nat → Int32) := if ¬ (0 ≤ a ∧ a < Y 0 17) then (-1, Y) else if ¬ (0 ≤ Y 20 a.toNatClampNeg ∧ ¬ Y 21 a.toNatClampNeg * 8 < Y 0 0) then (-3, Y) else (1, unY Y a)
def gvY (Y : Nat → Nat → Int32) (a b s : Int32) : Int32 × (Nat → Nat → Int32) := if ¬ ((0 ≤ a ∧ a < Y 0 17) ∧ (0 ≤ b ∧ b < Y 0 6) ∧ (0 ≤ s ∧ s < 200)) then (-1, Y) else if ¬ Y 18 a.toNatClampNeg = 0 ∨ 0 ≤ Y 20 a.toNatClampNeg ∨ ¬ ftY Y a b s = 0 then (-3, Y) else (1, puY Y a b s)
def plO (Y : Nat → Nat → Int32) (a b : Int32) : Int32 × (Nat → Nat → Int32) := if ¬ ((0 ≤ a ∧ a < 200) ∧ (0 ≤ b ∧ b < 200) ∧ a ≤ b) then (-1, Y) else (Int32.ofNat ((orP Y).2 - (plY Y a b).2.1), (plY Y a b).1)
theorem ge_take (hH : cH C c (n + 1) t K L I R) (hu : cuP C K L I R Y) {a : Int32} (hP : ∀ n' t' K' L' J R', cH C c (n' + 1) t' K' L' J R' → cuP C K' L' J R' (tkY Y a).2 → P (some (.int (tkY Y a).1)) (n' + 1, t', K', L', J, R')) : a_does (d + 70) 116 [a_rf C, .int a] (n + 1, t, K, L, I, R) P := by
  have hT := hH.1
  have hS := hT.s
  have gA := hT.g_asksR
  have gB := hT.g_benchesR
  have gX := hT.g_textsR
  have hc := hu.1
  have h17 := hc.2.2.2.2.2.2.2.2.1
  have e4 : I (C + 14) 4 = Y 0 17 := hc.2.2.1.1
  have en : I (C + 1) 6 = Y 0 0 := hc.1.1
  unfold tkY at hP
  by_cases c1 : 0 ≤ a ∧ a < Y 0 17
  · rw [if_neg (fun q => q c1)] at hP
    have hac : 0 ≤ a ∧ a < I (C + 14) 4 ∧ a < 30 := ⟨c1.1, by rw [e4]; exact c1.2, Int32.lt_of_lt_of_le c1.2 h17.2⟩
    have ap := aa_of hc c1.1 c1.2
    obtain ⟨-, ⟨ha, an0, a4n⟩, am, al⟩ := id ap
    have a0 : (R (C + 15) a.toNatClampNeg = 0) = False := eq_false an0
    have e13 : I (R (C + 15) a.toNatClampNeg) 13 = Y 20 a.toNatClampNeg := al.2.2.2.1.1
    have e14 : I (R (C + 15) a.toNatClampNeg) 14 = Y 21 a.toNatClampNeg := al.2.2.2.1.2
    by_cases c2 : 0 ≤ Y 20 a.toNatClampNeg ∧ ¬ Y 21 a.toNatClampNeg * 8 < Y 0 0
    · rw [if_neg (fun q => q c2)] at hP
      have hcl : a_does (d + 69) 45 [a_rf (C + 14), a_rf (R (C + 15) a.toNatClampNeg)] (n + 1, t, K, L, I, R) (fun r h' => a_at (d + 69) (a_xm a_m116) 45 [some (a_rf C), some (.int a), some (a_rf (R (C + 15) a.toNatClampNeg))] (r.toList ++ []) h' P) := by
        refine ce_clear (d := d + 64) hH hc hu.2.1 ap rfl (fun n' t' K' L' J R' hH' hQ hc' hse' h15 haz => ?_) c2.1
        have hp := hP n' t' K' L' J R' hH' (cu_Q hH hu hQ hc' hse' ss_un c1 haz (no_un hu.2.2.2.1))
        clear hP hc ap al am hu
        simp only [q116_45, q116_46, as_nil, as_i, as_r, Nat.reduceAdd, Nat.reduceLeDiff, z_eq0, z_eq1, z_or, z_em, Classical.not_not, not_false_eq_true, not_true_eq_false, true_and, and_true, false_and, and_false, and_self, true_implies, false_implies, implies_true, Option.toList_some, Option.toList_none, List.cons_append, List.nil_append, Nat.add_eq_zero_iff, a_nl_i, a_nl_r, a_nl_n, true_or, or_true, eq_self, a_isRA_22, a_isRA_24, a_isRA_32, a_isA_20, ok_4, ok_5, ok_6, ok_7, ok_9, ok_20, ok_21, ok_30, ok_50, ok_180, ok_192, ok_200]
        exact hp
      clear hP hc ap al am hu
      rw [a_enter1 (M := a_m116) rfl (a_cat_rf (a_cat_int a_cat_nil)) (show 2 ≤ 3 by decide)]
      show a_at _ (a_xm a_m116) 0 [some (a_rf C), some (.int a), none] [] _ _
      simp only [q116_0, q116_1, q116_4, q116_5, q116_8, q116_9, q116_10, q116_19, q116_20, q116_23, q116_24, q116_27, q116_37, q116_38, q116_41, q116_42, k_0 hS, z_C hS, r_0_4 hS, k_14 hS, z_14, sp_askAt hS gA, sp_mayMove hS, as_nil, as_i, as_r, Nat.reduceAdd, Nat.reduceLeDiff, z_eq0, z_eq1, z_or, z_em, Classical.not_not, not_false_eq_true, not_true_eq_false, true_and, and_true, false_and, and_false, and_self, true_implies, false_implies, implies_true, Option.toList_some, Option.toList_none, List.cons_append, List.nil_append, Nat.add_eq_zero_iff, a_nl_i, a_nl_r, a_nl_n, true_or, or_true, eq_self, a_isRA_22, a_isRA_24, a_isRA_32, a_isA_20, ok_4, ok_5, ok_6, ok_7, ok_9, ok_20, ok_21, ok_30, ok_50, ok_180, ok_192, ok_200, hac, ha, a0, e13, e14, en, c2]
      try simp only [true_and, and_true, true_implies, false_implies, implies_true, not_true_eq_false, not_false_eq_true]
      first
        | exact hcl
        | grind
    · rw [if_pos c2] at hP
      have hr : a_does (d + 69) 10 [a_rf C, .int (-3)] (n + 1, t, K, L, I, R) (fun r h' => a_at (d + 69) (a_xm a_m116) 36 [some (a_rf C), some (.int a), some (a_rf (R (C + 15) a.toNatClampNeg))] (r.toList ++ []) h' P) := by
        refine ge_refuse (d := d + 68) hH hu (fun J z1 z2 => ?_)
        have hp := hP n t K L J R z1 z2
        clear hP hc ap al am hu
        simp only [q116_36, as_nil, as_i, as_r, Nat.reduceAdd, Nat.reduceLeDiff, z_eq0, z_eq1, z_or, z_em, Classical.not_not, not_false_eq_true, not_true_eq_false, true_and, and_true, false_and, and_false, and_self, true_implies, false_implies, implies_true, Option.toList_some, Option.toList_none, List.cons_append, List.nil_append, Nat.add_eq_zero_iff, a_nl_i, a_nl_r, a_nl_n, true_or, or_true, eq_self, a_isRA_22, a_isRA_24, a_isRA_32, a_isA_20, ok_4, ok_5, ok_6, ok_7, ok_9, ok_20, ok_21, ok_30, ok_50, ok_180, ok_192, ok_200]
        exact hp
      clear hP hc ap al am hu
      rw [a_enter1 (M := a_m116) rfl (a_cat_rf (a_cat_int a_cat_nil)) (show 2 ≤ 3 by decide)]
      show a_at _ (a_xm a_m116) 0 [some (a_rf C), some (.int a), none] [] _ _
      simp only [q116_0, q116_1, q116_4, q116_5, q116_8, q116_9, q116_10, q116_19, q116_20, q116_23, q116_24, q116_27, q116_30, q116_31, q116_33, k_0 hS, z_C hS, r_0_4 hS, k_14 hS, z_14, sp_askAt hS gA, sp_mayMove hS, as_nil, as_i, as_r, Nat.reduceAdd, Nat.reduceLeDiff, z_eq0, z_eq1, z_or, z_em, Classical.not_not, not_false_eq_true, not_true_eq_false, true_and, and_true, false_and, and_false, and_self, true_implies, false_implies, implies_true, Option.toList_some, Option.toList_none, List.cons_append, List.nil_append, Nat.add_eq_zero_iff, a_nl_i, a_nl_r, a_nl_n, true_or, or_true, eq_self, a_isRA_22, a_isRA_24, a_isRA_32, a_isA_20, ok_4, ok_5, ok_6, ok_7, ok_9, ok_20, ok_21, ok_30, ok_50, ok_180, ok_192, ok_200, hac, ha, a0, e13, e14, en, c2]
      try simp only [true_and, and_true, true_implies, false_implies, implies_true, not_true_eq_false, not_false_eq_true]
      first
        | exact hr
        | grind
  · rw [if_pos c1] at hP
    have hac : ¬ (0 ≤ a ∧ a < I (C + 14) 4 ∧ a < 30) := fun q => c1 ⟨q.1, by rw [← e4]; exact q.2.1⟩
    have hr : a_does (d + 69) 10 [a_rf C, .int (-1)] (n + 1, t, K, L, I, R) (fun r h' => a_at (d + 69) (a_xm a_m116) 18 [some (a_rf C), some (.int a), some (a_rf 0)] (r.toList ++ []) h' P) := by
      refine ge_refuse (d := d + 68) hH hu (fun J z1 z2 => ?_)
      have hp := hP n t K L J R z1 z2
      clear hP hc hu
      simp only [q116_18, as_nil, as_i, as_r, Nat.reduceAdd, Nat.reduceLeDiff, z_eq0, z_eq1, z_or, z_em, Classical.not_not, not_false_eq_true, not_true_eq_false, true_and, and_true, false_and, and_false, and_self, true_implies, false_implies, implies_true, Option.toList_some, Option.toList_none, List.cons_append, List.nil_append, Nat.add_eq_zero_iff, a_nl_i, a_nl_r, a_nl_n, true_or, or_true, eq_self, a_isRA_22, a_isRA_24, a_isRA_32, a_isA_20, ok_4, ok_5, ok_6, ok_7, ok_9, ok_20, ok_21, ok_30, ok_50, ok_180, ok_192, ok_200]
      exact hp
    clear hP hc hu
    rw [a_enter1 (M := a_m116) rfl (a_cat_rf (a_cat_int a_cat_nil)) (show 2 ≤ 3 by decide)]
    show a_at _ (a_xm a_m116) 0 [some (a_rf C), some (.int a), none] [] _ _
    simp only [q116_0, q116_1, q116_4, q116_5, q116_8, q116_9, q116_10, q116_13, q116_14, q116_15, k_0 hS, z_C hS, r_0_4 hS, k_14 hS, z_14, sp_askAt hS gA, as_nil, as_i, as_r, Nat.reduceAdd, Nat.reduceLeDiff, z_eq0, z_eq1, z_or, z_em, Classical.not_not, not_false_eq_true, not_true_eq_false, true_and, and_true, false_and, and_false, and_self, true_implies, false_implies, implies_true, Option.toList_some, Option.toList_none, List.cons_append, List.nil_append, Nat.add_eq_zero_iff, a_nl_i, a_nl_r, a_nl_n, true_or, or_true, eq_self, a_isRA_22, a_isRA_24, a_isRA_32, a_isA_20, ok_4, ok_5, ok_6, ok_7, ok_9, ok_20, ok_21, ok_30, ok_50, ok_180, ok_192, ok_200, hac]
    try simp only [true_and, and_true, true_implies, false_implies, implies_true, not_true_eq_false, not_false_eq_true]
    first
      | exact hr
      | grind
theorem ge_plan (hH : cH C c (n + 1) t K L I R) (hu : cuP C K L I R Y) {a b : Int32} (hP : ∀ n' t' K' L' J R', cH C c (n' + 1) t' K' L' J R' → cuP C K' L' J R' (plO Y a b).2 → P (some (.int (plO Y a b).1)) (n' + 1, t', K', L', J, R')) : a_does (d + 70) 118 [a_rf C, .int a, .int b] (n + 1, t, K, L, I, R) P := by
  have hT := hH.1
  have hS := hT.s
  have hc := hu.1
  unfold plO at hP
  by_cases c1 : (0 ≤ a ∧ a < 200) ∧ (0 ≤ b ∧ b < 200) ∧ a ≤ b
  · rw [if_neg (fun q => q c1)] at hP
    have hcl : a_does (d + 69) 119 [a_rf (C + 22), .int a, .int b] (n + 1, t, K, L, I, R) (fun r h' => a_at (d + 69) (a_xm a_m118) 23 [some (a_rf C), some (.int a), some (.int b)] (r.toList ++ []) h' P) := by
      refine ce_planAll (d := d + 61) (Q := noA C R Y) hT hc hu.2.1 hu.2.2.1.1.1.1 no_not ⟨c1.1.1, by clear hP hc hu; grind⟩ (by clear hP hc hu; grind) (fun J R2 hT2 hc2 hb2 hr2 hle hpn hz2 => ?_)
      have hH2 := cH_rf hH hr2 hT2
      have hz : fZ C (n + 1) K (noA C R Y) I R (n + 1) K J R2 := ⟨⟨hH.2.2.1, Nat.le_refl _⟩, hH.2.1, fun _ _ => rfl, hz2, fun x j _ _ a1 a2 a3 => hr2 x j a1 a2 a3⟩
      have hp := hP n t K L J R2 hH2 ⟨hc2, se_b (se_rf hT hc hu.2.1 hr2) (ss_b ss_pl), siP_ss ss_pl (siP_z hT hu.2.2.1 hz), no_pl hu.2.2.2.1, stP_ss ss_pl (stP_z hT hu.1 hu.2.2.2.2 hz)⟩
      clear hP hc hu hc2 hpn
      simp only [q118_23, as_nil, as_i, as_r, Nat.reduceAdd, Nat.reduceLeDiff, z_eq0, z_eq1, z_or, z_em, Classical.not_not, not_false_eq_true, not_true_eq_false, true_and, and_true, false_and, and_false, and_self, true_implies, false_implies, implies_true, Option.toList_some, Option.toList_none, List.cons_append, List.nil_append, Nat.add_eq_zero_iff, a_nl_i, a_nl_r, a_nl_n, true_or, or_true, eq_self, a_isRA_22, a_isRA_24, a_isRA_32, a_isA_20, ok_4, ok_5, ok_6, ok_7, ok_9, ok_20, ok_21, ok_30, ok_50, ok_180, ok_192, ok_200]
      exact hp
    clear hP hc hu
    rw [a_enter1 (M := a_m118) rfl (a_cat_rf (a_cat_int (a_cat_int a_cat_nil))) (show 3 ≤ 3 by decide)]
    show a_at _ (a_xm a_m118) 0 [some (a_rf C), some (.int a), some (.int b)] [] _ _
    simp only [q118_0, q118_1, q118_2, q118_5, q118_14, q118_15, q118_18, q118_19, q118_20, k_0 hS, z_C hS, r_0_5 hS, k_22 hS, z_22, sp_areShifts, as_nil, as_i, as_r, Nat.reduceAdd, Nat.reduceLeDiff, z_eq0, z_eq1, z_or, z_em, Classical.not_not, not_false_eq_true, not_true_eq_false, true_and, and_true, false_and, and_false, and_self, true_implies, false_implies, implies_true, Option.toList_some, Option.toList_none, List.cons_append, List.nil_append, Nat.add_eq_zero_iff, a_nl_i, a_nl_r, a_nl_n, true_or, or_true, eq_self, a_isRA_22, a_isRA_24, a_isRA_32, a_isA_20, ok_4, ok_5, ok_6, ok_7, ok_9, ok_20, ok_21, ok_30, ok_50, ok_180, ok_192, ok_200, c1]
    try simp only [true_and, and_true, true_implies, false_implies, implies_true, not_true_eq_false, not_false_eq_true]
    first
      | exact hcl
      | grind
  · rw [if_pos c1] at hP
    have hr : a_does (d + 69) 10 [a_rf C, .int (-1)] (n + 1, t, K, L, I, R) (fun r h' => a_at (d + 69) (a_xm a_m118) 13 [some (a_rf C), some (.int a), some (.int b)] (r.toList ++ []) h' P) := by
      refine ge_refuse (d := d + 68) hH hu (fun J z1 z2 => ?_)
      have hp := hP n t K L J R z1 z2
      clear hP hc hu
      simp only [q118_13, as_nil, as_i, as_r, Nat.reduceAdd, Nat.reduceLeDiff, z_eq0, z_eq1, z_or, z_em, Classical.not_not, not_false_eq_true, not_true_eq_false, true_and, and_true, false_and, and_false, and_self, true_implies, false_implies, implies_true, Option.toList_some, Option.toList_none, List.cons_append, List.nil_append, Nat.add_eq_zero_iff, a_nl_i, a_nl_r, a_nl_n, true_or, or_true, eq_self, a_isRA_22, a_isRA_24, a_isRA_32, a_isA_20, ok_4, ok_5, ok_6, ok_7, ok_9, ok_20, ok_21, ok_30, ok_50, ok_180, ok_192, ok_200]
      exact hp
    clear hP hc hu
    rw [a_enter1 (M := a_m118) rfl (a_cat_rf (a_cat_int (a_cat_int a_cat_nil))) (show 3 ≤ 3 by decide)]
    show a_at _ (a_xm a_m118) 0 [some (a_rf C), some (.int a), some (.int b)] [] _ _
    simp only [q118_0, q118_1, q118_2, q118_5, q118_8, q118_9, q118_10, k_0 hS, z_C hS, sp_areShifts, as_nil, as_i, as_r, Nat.reduceAdd, Nat.reduceLeDiff, z_eq0, z_eq1, z_or, z_em, Classical.not_not, not_false_eq_true, not_true_eq_false, true_and, and_true, false_and, and_false, and_self, true_implies, false_implies, implies_true, Option.toList_some, Option.toList_none, List.cons_append, List.nil_append, Nat.add_eq_zero_iff, a_nl_i, a_nl_r, a_nl_n, true_or, or_true, eq_self, a_isRA_22, a_isRA_24, a_isRA_32, a_isA_20, ok_4, ok_5, ok_6, ok_7, ok_9, ok_20, ok_21, ok_30, ok_50, ok_180, ok_192, ok_200, c1]
    try simp only [true_and, and_true, true_implies, false_implies, implies_true, not_true_eq_false, not_false_eq_true]
    first
      | exact hr
      | grind
/-- AGAIN of the class -/
theorem ge_again (hH : cH C c (n + 1) t K L I R) (hu : cuP C K L I R Y) (hP : ∀ n' t' K' L' J R', cH C c (n' + 1) t' K' L' J R' → cuP C K' L' J R' (agY Y).1 → P (some (.int (Int32.ofNat (agY Y).2))) (n' + 1, t', K', L', J, R')) : a_does (d + 70) 143 [a_rf C] (n + 1, t, K, L, I, R) P := by
  have hT := hH.1
  have hS := hT.s
  have hcl : a_does (d + 69) 144 [a_rf (C + 22)] (n + 1, t, K, L, I, R) (fun r h' => a_at (d + 69) (a_xm a_m143) 7 [some (a_rf C)] (r.toList ++ []) h' P) := by
    refine ce_planAgain (d := d + 61) (Q := noA C R Y) hH hu.1 hu.2.1 no_not (fun n' t' K' L' J R' hH' hc' hb' hse' hz' => ?_)
    have hp := hP n' t' K' L' J R' hH' ⟨hc', se_b hse' (ss_b ss_ag), siP_ss ss_ag (siP_z hT hu.2.2.1 hz'), no_ag hu.2.2.2.1, stP_ss ss_ag (stP_z hT hu.1 hu.2.2.2.2 hz')⟩
    clear hP hu hc'
    simp only [q143_7, as_nil, as_i, as_r, Nat.reduceAdd, Nat.reduceLeDiff, z_eq0, z_eq1, z_or, z_em, Classical.not_not, not_false_eq_true, not_true_eq_false, true_and, and_true, false_and, and_false, and_self, true_implies, false_implies, implies_true, Option.toList_some, Option.toList_none, List.cons_append, List.nil_append, Nat.add_eq_zero_iff, a_nl_i, a_nl_r, a_nl_n, true_or, or_true, eq_self, a_isRA_22, a_isRA_24, a_isRA_32, a_isA_20, ok_4, ok_5, ok_6, ok_7, ok_9, ok_20, ok_21, ok_30, ok_50, ok_180, ok_192, ok_200]
    exact hp
  clear hP hu
  rw [a_enter1 (M := a_m143) rfl (a_cat_rf a_cat_nil) (show 1 ≤ 1 by decide)]
  show a_at _ (a_xm a_m143) 0 [some (a_rf C)] [] _ _
  simp only [q143_0, q143_1, q143_4, k_0 hS, z_C hS, r_0_5 hS, k_22 hS, z_22, as_nil, as_i, as_r, Nat.reduceAdd, Nat.reduceLeDiff, z_eq0, z_eq1, z_or, z_em, Classical.not_not, not_false_eq_true, not_true_eq_false, true_and, and_true, false_and, and_false, and_self, true_implies, false_implies, implies_true, Option.toList_some, Option.toList_none, List.cons_append, List.nil_append, Nat.add_eq_zero_iff, a_nl_i, a_nl_r, a_nl_n, true_or, or_true, eq_self, a_isRA_22, a_isRA_24, a_isRA_32, a_isA_20, ok_4, ok_5, ok_6, ok_7, ok_9, ok_20, ok_21, ok_30, ok_50, ok_180, ok_192, ok_200]
  exact hcl
theorem ge_give (hH : cH C c (n + 1) t K L I R) (hu : cuP C K L I R Y) {a b s : Int32} (hP : ∀ n' t' K' L' J R', cH C c (n' + 1) t' K' L' J R' → cuP C K' L' J R' (gvY Y a b s).2 → P (some (.int (gvY Y a b s).1)) (n' + 1, t', K', L', J, R')) : a_does (d + 70) 112 [a_rf C, .int a, .int b, .int s] (n + 1, t, K, L, I, R) P := by
  have hT := hH.1
  have hS := hT.s
  have gA := hT.g_asksR
  have gB := hT.g_benchesR
  have gX := hT.g_textsR
  have hc := hu.1
  have h17 := hc.2.2.2.2.2.2.2.2.1
  have h6 := hc.2.2.2.2.2.2.2.2.2.1
  have e4 : I (C + 14) 4 = Y 0 17 := hc.2.2.1.1
  have e5 : I (C + 14) 5 = Y 0 6 := hc.2.1.1
  unfold gvY at hP
  have hr1 : ¬ ((0 ≤ a ∧ a < Y 0 17) ∧ (0 ≤ b ∧ b < Y 0 6) ∧ (0 ≤ s ∧ s < 200)) → ∀ x, a_does (d + 69) 10 [a_rf C, .int (-1)] (n + 1, t, K, L, I, R) (fun r h' => a_at (d + 69) (a_xm a_m112) 38 [some (a_rf C), some (.int a), some (.int b), some (.int s), x] (r.toList ++ []) h' P) := fun q x => by
    rw [if_pos q] at hP
    refine ge_refuse (d := d + 68) hH hu (fun J z1 z2 => ?_)
    have hp := hP n t K L J R z1 z2
    clear hP hc hu
    simp only [q112_38, as_nil, as_i, as_r, Nat.reduceAdd, Nat.reduceLeDiff, z_eq0, z_eq1, z_or, z_em, Classical.not_not, not_false_eq_true, not_true_eq_false, true_and, and_true, false_and, and_false, and_self, true_implies, false_implies, implies_true, Option.toList_some, Option.toList_none, List.cons_append, List.nil_append, Nat.add_eq_zero_iff, a_nl_i, a_nl_r, a_nl_n, true_or, or_true, eq_self, a_isRA_22, a_isRA_24, a_isRA_32, a_isA_20, ok_4, ok_5, ok_6, ok_7, ok_9, ok_20, ok_21, ok_30, ok_50, ok_180, ok_192, ok_200]
    exact hp
  by_cases c1 : 0 ≤ a ∧ a < Y 0 17
  · have hac : 0 ≤ a ∧ a < I (C + 14) 4 ∧ a < 30 := ⟨c1.1, by rw [e4]; exact c1.2, Int32.lt_of_lt_of_le c1.2 h17.2⟩
    have ap := aa_of hc c1.1 c1.2
    obtain ⟨-, ⟨ha, an0, a4n⟩, am, al⟩ := id ap
    have a0 : (R (C + 15) a.toNatClampNeg = 0) = False := eq_false an0
    have e13 : I (R (C + 15) a.toNatClampNeg) 13 = Y 20 a.toNatClampNeg := al.2.2.2.1.1
    have e15 : (I (R (C + 15) a.toNatClampNeg) 15 = 0) = (Y 18 a.toNatClampNeg = 0) := propext al.2.2.2.2.1
    by_cases c2 : 0 ≤ b ∧ b < Y 0 6
    · have hbc : 0 ≤ b ∧ b < I (C + 14) 5 ∧ b < 6 := ⟨c2.1, by rw [e5]; exact c2.2, Int32.lt_of_lt_of_le c2.2 h6.2⟩
      obtain ⟨kb, kb0, -⟩ := hc.2.1.2.2.1 b c2.1 c2.2
      have b0 : (R (C + 16) b.toNatClampNeg = 0) = False := eq_false kb0
      by_cases c3 : 0 ≤ s ∧ s < 200
      · rw [if_neg (fun q => q ⟨c1, c2, c3⟩)] at hP
        have hr3 : (¬ Y 18 a.toNatClampNeg = 0 ∨ 0 ≤ Y 20 a.toNatClampNeg ∨ ¬ ftY Y a b s = 0) → ∀ J, cH C c (n + 1) t K L J R → cuP C K L J R Y → a_does (d + 69) 10 [a_rf C, .int (-3)] (n + 1, t, K, L, J, R) (fun r h' => a_at (d + 69) (a_xm a_m112) 75 [some (a_rf C), some (.int a), some (.int b), some (.int s), some (a_rf (R (C + 15) a.toNatClampNeg))] (r.toList ++ []) h' P) := fun q J hJ huJ => by
          rw [if_pos q] at hP
          refine ge_refuse (d := d + 68) hJ huJ (fun J2 z1 z2 => ?_)
          have hS2 := z1.1.s
          have hp := hP n t K L J2 R z1 z2
          clear hP hc hu
          simp only [q112_75, as_nil, as_i, as_r, Nat.reduceAdd, Nat.reduceLeDiff, z_eq0, z_eq1, z_or, z_em, Classical.not_not, not_false_eq_true, not_true_eq_false, true_and, and_true, false_and, and_false, and_self, true_implies, false_implies, implies_true, Option.toList_some, Option.toList_none, List.cons_append, List.nil_append, Nat.add_eq_zero_iff, a_nl_i, a_nl_r, a_nl_n, true_or, or_true, eq_self, a_isRA_22, a_isRA_24, a_isRA_32, a_isA_20, ok_4, ok_5, ok_6, ok_7, ok_9, ok_20, ok_21, ok_30, ok_50, ok_180, ok_192, ok_200]
          exact hp
        by_cases c4 : Y 18 a.toNatClampNeg = 0
        · by_cases c5 : 0 ≤ Y 20 a.toNatClampNeg
          · have hr := hr3 (Or.inr (Or.inl c5)) I hH hu
            clear hP hc ap al am hu hr1 hr3
            rw [a_enter1 (M := a_m112) rfl (a_cat_rf (a_cat_int (a_cat_int (a_cat_int a_cat_nil)))) (show 4 ≤ 5 by decide)]
            show a_at _ (a_xm a_m112) 0 [some (a_rf C), some (.int a), some (.int b), some (.int s), none] [] _ _
            simp only [q112_0, q112_1, q112_4, q112_5, q112_8, q112_10, q112_12, q112_15, q112_16, q112_19, q112_20, q112_23, q112_26, q112_27, q112_30, q112_33, q112_34, q112_35, q112_38, q112_39, q112_41, q112_44, q112_47, q112_49, q112_52, q112_55, q112_56, q112_59, q112_61, q112_62, q112_63, q112_66, q112_69, q112_70, q112_72, k_0 hS, z_C hS, r_0_4 hS, k_14 hS, z_14, sp_askAt hS gA, sp_benchAt hS gB, sp_isShiftC, sp_isPlaced, as_nil, as_i, as_r, Nat.reduceAdd, Nat.reduceLeDiff, z_eq0, z_eq1, z_or, z_em, Classical.not_not, not_false_eq_true, not_true_eq_false, true_and, and_true, false_and, and_false, and_self, true_implies, false_implies, implies_true, Option.toList_some, Option.toList_none, List.cons_append, List.nil_append, Nat.add_eq_zero_iff, a_nl_i, a_nl_r, a_nl_n, true_or, or_true, eq_self, a_isRA_22, a_isRA_24, a_isRA_32, a_isA_20, ok_4, ok_5, ok_6, ok_7, ok_9, ok_20, ok_21, ok_30, ok_50, ok_180, ok_192, ok_200, hac, hbc, c3, ha, a0, b0, e13, e15, c4, c5]
            try simp only [true_and, and_true, true_implies, false_implies, implies_true, not_true_eq_false, not_false_eq_true]
            first
              | exact hr
              | grind
          · have hfb : a_does (d + 69) 100 [a_rf (C + 14), a_rf (R (C + 15) a.toNatClampNeg), .int b, .int s] (n + 1, t, K, L, I, R) (fun r h' => a_at (d + 69) (a_xm a_m112) 66 [some (a_rf C), some (.int a), some (.int b), some (.int s), some (a_rf (R (C + 15) a.toNatClampNeg))] (r.toList ++ []) h' P) := by
              refine ce_firstBar (d := d + 64) hT hc ap c2 ⟨c3.1, by clear hP hc hu ap al am hr1 hr3; grind⟩ (fun J hJ => ?_)
              have hT2 := hJ.1
              have hS2 := hT2.s
              have hH2 := cH_J hH hT2
              have hu2 := cu_C hT hJ hu hH
              by_cases cf : ftY Y a b s = 0
              · rw [if_neg (fun q => by rcases q with q | q | q; exact q c4; exact c5 q; exact q cf)] at hP
                have hl := hc.2.2.2.2.2.2.1 a c1.1 c1.2
                have hin := ft_in cf ⟨hl, (hc.2.2.2.2.2.1 _).2⟩ ⟨c3.1, by clear hP hc hu ap al am hr1 hr3 hu2; grind⟩
                have s199 : 0 ≤ s ∧ s ≤ 199 := ⟨c3.1, hin.1⟩
                have hpl : a_does (d + 69) 113 [a_rf (C + 14), a_rf (R (C + 15) a.toNatClampNeg), .int b, .int s] (n + 1, t, K, L, J, R) (fun r h' => a_at (d + 69) (a_xm a_m112) 87 [some (a_rf C), some (.int a), some (.int b), some (.int s), some (a_rf (R (C + 15) a.toNatClampNeg))] (r.toList ++ []) h' P) := by
                  refine ce_place (d := d + 63) hT2 hu2.1 hu2.2.1 (aaP_C hT ap hJ) rfl c2 s199 hin.2 c5 (ft_free hT2 hu2.1 hu2.2.1 c1 c2 s199 hin.2 c5 cf) (fun J3 d3 c3' z3 => ?_)
                  have hS3 := d3.1.s
                  have hp := hP n t K L J3 R (cH_J hH2 d3.1) (cu_Q hH2 hu2 (dQ_L d3) c3' hu2.2.1 ss_pu c1 z3 (no_pu c2.1 hu2.2.2.2.1))
                  clear hP hc hu ap al am hr1 hr3 hu2 c3'
                  simp only [q112_87, q112_88, as_nil, as_i, as_r, Nat.reduceAdd, Nat.reduceLeDiff, z_eq0, z_eq1, z_or, z_em, Classical.not_not, not_false_eq_true, not_true_eq_false, true_and, and_true, false_and, and_false, and_self, true_implies, false_implies, implies_true, Option.toList_some, Option.toList_none, List.cons_append, List.nil_append, Nat.add_eq_zero_iff, a_nl_i, a_nl_r, a_nl_n, true_or, or_true, eq_self, a_isRA_22, a_isRA_24, a_isRA_32, a_isA_20, ok_4, ok_5, ok_6, ok_7, ok_9, ok_20, ok_21, ok_30, ok_50, ok_180, ok_192, ok_200]
                  exact hp
                clear hP hc hu ap al am hr1 hr3 hu2
                simp only [q112_66, q112_76, q112_77, q112_80, q112_82, q112_83, q112_84, k_0 hS2, z_C hS2, r_0_4 hS2, k_14 hS2, z_14, as_nil, as_i, as_r, Nat.reduceAdd, Nat.reduceLeDiff, z_eq0, z_eq1, z_or, z_em, Classical.not_not, not_false_eq_true, not_true_eq_false, true_and, and_true, false_and, and_false, and_self, true_implies, false_implies, implies_true, Option.toList_some, Option.toList_none, List.cons_append, List.nil_append, Nat.add_eq_zero_iff, a_nl_i, a_nl_r, a_nl_n, true_or, or_true, eq_self, a_isRA_22, a_isRA_24, a_isRA_32, a_isA_20, ok_4, ok_5, ok_6, ok_7, ok_9, ok_20, ok_21, ok_30, ok_50, ok_180, ok_192, ok_200, cf]
                try simp only [true_and, and_true, true_implies, false_implies, implies_true, not_true_eq_false, not_false_eq_true]
                first
                  | exact hpl
                  | grind
              · have hr := hr3 (Or.inr (Or.inr cf)) J hH2 hu2
                clear hP hc hu ap al am hr1 hr3 hu2
                simp only [q112_66, q112_69, q112_70, q112_72, k_0 hS2, z_C hS2, as_nil, as_i, as_r, Nat.reduceAdd, Nat.reduceLeDiff, z_eq0, z_eq1, z_or, z_em, Classical.not_not, not_false_eq_true, not_true_eq_false, true_and, and_true, false_and, and_false, and_self, true_implies, false_implies, implies_true, Option.toList_some, Option.toList_none, List.cons_append, List.nil_append, Nat.add_eq_zero_iff, a_nl_i, a_nl_r, a_nl_n, true_or, or_true, eq_self, a_isRA_22, a_isRA_24, a_isRA_32, a_isA_20, ok_4, ok_5, ok_6, ok_7, ok_9, ok_20, ok_21, ok_30, ok_50, ok_180, ok_192, ok_200, cf]
                try simp only [true_and, and_true, true_implies, false_implies, implies_true, not_true_eq_false, not_false_eq_true]
                first
                  | exact hr
                  | grind
            clear hP hc ap al am hu hr1 hr3
            rw [a_enter1 (M := a_m112) rfl (a_cat_rf (a_cat_int (a_cat_int (a_cat_int a_cat_nil)))) (show 4 ≤ 5 by decide)]
            show a_at _ (a_xm a_m112) 0 [some (a_rf C), some (.int a), some (.int b), some (.int s), none] [] _ _
            simp only [q112_0, q112_1, q112_4, q112_5, q112_8, q112_10, q112_12, q112_15, q112_16, q112_19, q112_20, q112_23, q112_26, q112_27, q112_30, q112_33, q112_34, q112_35, q112_38, q112_39, q112_41, q112_44, q112_47, q112_49, q112_52, q112_55, q112_56, q112_59, q112_61, q112_62, q112_63, k_0 hS, z_C hS, r_0_4 hS, k_14 hS, z_14, sp_askAt hS gA, sp_benchAt hS gB, sp_isShiftC, sp_isPlaced, as_nil, as_i, as_r, Nat.reduceAdd, Nat.reduceLeDiff, z_eq0, z_eq1, z_or, z_em, Classical.not_not, not_false_eq_true, not_true_eq_false, true_and, and_true, false_and, and_false, and_self, true_implies, false_implies, implies_true, Option.toList_some, Option.toList_none, List.cons_append, List.nil_append, Nat.add_eq_zero_iff, a_nl_i, a_nl_r, a_nl_n, true_or, or_true, eq_self, a_isRA_22, a_isRA_24, a_isRA_32, a_isA_20, ok_4, ok_5, ok_6, ok_7, ok_9, ok_20, ok_21, ok_30, ok_50, ok_180, ok_192, ok_200, hac, hbc, c3, ha, a0, b0, e13, e15, c4, c5]
            try simp only [true_and, and_true, true_implies, false_implies, implies_true, not_true_eq_false, not_false_eq_true]
            first
              | exact hfb
              | grind
        · have hr := hr3 (Or.inl c4) I hH hu
          clear hP hc ap al am hu hr1 hr3
          rw [a_enter1 (M := a_m112) rfl (a_cat_rf (a_cat_int (a_cat_int (a_cat_int a_cat_nil)))) (show 4 ≤ 5 by decide)]
          show a_at _ (a_xm a_m112) 0 [some (a_rf C), some (.int a), some (.int b), some (.int s), none] [] _ _
          simp only [q112_0, q112_1, q112_4, q112_5, q112_8, q112_10, q112_12, q112_15, q112_16, q112_19, q112_20, q112_23, q112_26, q112_27, q112_30, q112_33, q112_34, q112_35, q112_38, q112_39, q112_41, q112_44, q112_47, q112_49, q112_52, q112_55, q112_56, q112_59, q112_61, q112_62, q112_63, q112_66, q112_69, q112_70, q112_72, k_0 hS, z_C hS, r_0_4 hS, k_14 hS, z_14, sp_askAt hS gA, sp_benchAt hS gB, sp_isShiftC, sp_isPlaced, as_nil, as_i, as_r, Nat.reduceAdd, Nat.reduceLeDiff, z_eq0, z_eq1, z_or, z_em, Classical.not_not, not_false_eq_true, not_true_eq_false, true_and, and_true, false_and, and_false, and_self, true_implies, false_implies, implies_true, Option.toList_some, Option.toList_none, List.cons_append, List.nil_append, Nat.add_eq_zero_iff, a_nl_i, a_nl_r, a_nl_n, true_or, or_true, eq_self, a_isRA_22, a_isRA_24, a_isRA_32, a_isA_20, ok_4, ok_5, ok_6, ok_7, ok_9, ok_20, ok_21, ok_30, ok_50, ok_180, ok_192, ok_200, hac, hbc, c3, ha, a0, b0, e13, e15, c4]
          try simp only [true_and, and_true, true_implies, false_implies, implies_true, not_true_eq_false, not_false_eq_true]
          first
            | exact hr
            | grind
      · have hr := hr1 (fun q => c3 q.2.2)
        clear hP hc ap al am hu hr1
        rw [a_enter1 (M := a_m112) rfl (a_cat_rf (a_cat_int (a_cat_int (a_cat_int a_cat_nil)))) (show 4 ≤ 5 by decide)]
        show a_at _ (a_xm a_m112) 0 [some (a_rf C), some (.int a), some (.int b), some (.int s), none] [] _ _
        simp only [q112_0, q112_1, q112_4, q112_5, q112_8, q112_10, q112_12, q112_15, q112_16, q112_19, q112_20, q112_23, q112_26, q112_27, q112_30, q112_33, q112_34, q112_35, k_0 hS, z_C hS, r_0_4 hS, k_14 hS, z_14, sp_askAt hS gA, sp_benchAt hS gB, sp_isShiftC, as_nil, as_i, as_r, Nat.reduceAdd, Nat.reduceLeDiff, z_eq0, z_eq1, z_or, z_em, Classical.not_not, not_false_eq_true, not_true_eq_false, true_and, and_true, false_and, and_false, and_self, true_implies, false_implies, implies_true, Option.toList_some, Option.toList_none, List.cons_append, List.nil_append, Nat.add_eq_zero_iff, a_nl_i, a_nl_r, a_nl_n, true_or, or_true, eq_self, a_isRA_22, a_isRA_24, a_isRA_32, a_isA_20, ok_4, ok_5, ok_6, ok_7, ok_9, ok_20, ok_21, ok_30, ok_50, ok_180, ok_192, ok_200, hac, hbc, c3, ha, a0, b0]
        try simp only [true_and, and_true, true_implies, false_implies, implies_true, not_true_eq_false, not_false_eq_true]
        first
          | exact hr _
          | grind
    · have hbc : ¬ (0 ≤ b ∧ b < I (C + 14) 5 ∧ b < 6) := fun q => c2 ⟨q.1, by rw [← e5]; exact q.2.1⟩
      have hr := hr1 (fun q => c2 q.2.1)
      clear hP hc ap al am hu hr1
      rw [a_enter1 (M := a_m112) rfl (a_cat_rf (a_cat_int (a_cat_int (a_cat_int a_cat_nil)))) (show 4 ≤ 5 by decide)]
      show a_at _ (a_xm a_m112) 0 [some (a_rf C), some (.int a), some (.int b), some (.int s), none] [] _ _
      simp only [q112_0, q112_1, q112_4, q112_5, q112_8, q112_10, q112_12, q112_15, q112_16, q112_19, q112_20, q112_23, q112_26, q112_27, q112_30, q112_33, q112_34, q112_35, k_0 hS, z_C hS, r_0_4 hS, k_14 hS, z_14, sp_askAt hS gA, sp_benchAt hS gB, sp_isShiftC, as_nil, as_i, as_r, Nat.reduceAdd, Nat.reduceLeDiff, z_eq0, z_eq1, z_or, z_em, Classical.not_not, not_false_eq_true, not_true_eq_false, true_and, and_true, false_and, and_false, and_self, true_implies, false_implies, implies_true, Option.toList_some, Option.toList_none, List.cons_append, List.nil_append, Nat.add_eq_zero_iff, a_nl_i, a_nl_r, a_nl_n, true_or, or_true, eq_self, a_isRA_22, a_isRA_24, a_isRA_32, a_isA_20, ok_4, ok_5, ok_6, ok_7, ok_9, ok_20, ok_21, ok_30, ok_50, ok_180, ok_192, ok_200, hac, hbc, ha, a0]
      try simp only [true_and, and_true, true_implies, false_implies, implies_true, not_true_eq_false, not_false_eq_true]
      first
        | exact hr _
        | grind
  · have hac : ¬ (0 ≤ a ∧ a < I (C + 14) 4 ∧ a < 30) := fun q => c1 ⟨q.1, by rw [← e4]; exact q.2.1⟩
    have hr := hr1 (fun q => c1 q.1)
    clear hP hc hu hr1
    rw [a_enter1 (M := a_m112) rfl (a_cat_rf (a_cat_int (a_cat_int (a_cat_int a_cat_nil)))) (show 4 ≤ 5 by decide)]
    show a_at _ (a_xm a_m112) 0 [some (a_rf C), some (.int a), some (.int b), some (.int s), none] [] _ _
    simp only [q112_0, q112_1, q112_4, q112_5, q112_8, q112_10, q112_12, q112_15, q112_16, q112_19, q112_20, q112_23, q112_26, q112_27, q112_30, q112_33, q112_34, q112_35, k_0 hS, z_C hS, r_0_4 hS, k_14 hS, z_14, sp_askAt hS gA, sp_benchAt hS gB, sp_isShiftC, as_nil, as_i, as_r, Nat.reduceAdd, Nat.reduceLeDiff, z_eq0, z_eq1, z_or, z_em, Classical.not_not, not_false_eq_true, not_true_eq_false, true_and, and_true, false_and, and_false, and_self, true_implies, false_implies, implies_true, Option.toList_some, Option.toList_none, List.cons_append, List.nil_append, Nat.add_eq_zero_iff, a_nl_i, a_nl_r, a_nl_n, true_or, or_true, eq_self, a_isRA_22, a_isRA_24, a_isRA_32, a_isA_20, ok_4, ok_5, ok_6, ok_7, ok_9, ok_20, ok_21, ok_30, ok_50, ok_180, ok_192, ok_200, hac]
    try simp only [true_and, and_true, true_implies, false_implies, implies_true, not_true_eq_false, not_false_eq_true]
    first
      | exact hr _
      | grind
end YL0
end
section
/-! the reference's public calls -/
section YM0
variable {d n t M : Nat} {K L : Nat → Nat} {I I0 J J0 J1 J2 : Nat → Nat → Int32} {R : Nat → Nat → Nat} {P : Option Value → AH → Prop} {f : Nat → Int32} {e : Int32}
variable {Y Z W : Nat → Nat → Int32}
theorem le_m1 {x z : Int32} (h : 0 ≤ z ∧ z ≤ 30) : (x ≤ z - 1) = (x < z) := by
  refine propext ⟨fun q => ?_, fun q => ?_⟩
  · grind
  · grind
theorem xp_take (hS : m_S M K L R) {I1 : Nat → Nat → Int32} (hm : okY Y) {c : Nat} (hc : c + 130 ≤ 84000) (hF : mF M c I1 I) (hg : gs M I0 I Y) {a : Int32} (hP : ∀ J, mF M (c + 120) I1 J → gs M I0 J (tkY Y a).2 → P (some (.int (tkY Y a).1)) (n, t, K, L, J, R)) : a_does (d + 13) 233 [a_rf M, .int a] (n, t, K, L, I, R) P := by
  have hy := hm.1
  have h17 := hy.2.2.2.2.1
  have h10 := hy.2.1
  have h6 := hy.2.2.2.2.2.1
  have hl := hy.2.2.1
  have hrf : ∀ k : Nat, mF M (c + 120) I1 (a_ui I (M + 23) k (I (M + 23) k + 1)) ∧ gs M I0 (a_ui I (M + 23) k (I (M + 23) k + 1)) Y := fun k => ⟨mF_le (sF_refused hF) (by omega), gs_ui hg (sR_refused hg.1) (by omega) ⟨by unfold ps1; omega, by omega⟩⟩
  have e17 : I M 17 = Y 0 17 := hg.2.2.1 0 17 (by unfold ps1; omega)
  have e6 : I M 6 = Y 0 6 := hg.2.2.1 0 6 (by unfold ps1; omega)
  have e0 : I M 0 = Y 0 0 := hg.2.2.1 0 0 (by unfold ps1; omega)
  have m17 : ∀ x : Int32, (x ≤ Y 0 17 - 1) = (x < Y 0 17) := fun x => le_m1 h17
  have m6 : ∀ x : Int32, (x ≤ Y 0 6 - 1) = (x < Y 0 6) := fun x => le_m1 ⟨h6.1, Int32.le_trans h6.2 (by decide)⟩
  have m199 : ∀ x : Int32, (x ≤ 199) = (x < 200) := fun x => propext ⟨fun q => Int32.lt_of_le_of_lt q (by decide), fun q => by clear hP hrf hm hg hF; grind⟩
  have e20 : I (M + 20) a.toNatClampNeg = Y 20 a.toNatClampNeg := hg.2.2.1 20 _ (by unfold ps1; omega)
  have e21 : I (M + 21) a.toNatClampNeg = Y 21 a.toNatClampNeg := hg.2.2.1 21 _ (by unfold ps1; omega)
  unfold tkY at hP
  by_cases c1 : 0 ≤ a ∧ a < Y 0 17
  · have ha : 0 ≤ a ∧ a < 30 := ⟨c1.1, Int32.lt_of_lt_of_le c1.2 h17.2⟩
    rw [if_neg (fun q => q c1)] at hP
    by_cases c2 : 0 ≤ Y 20 a.toNatClampNeg ∧ ¬ Y 21 a.toNatClampNeg * 8 < Y 0 0
    · rw [if_neg (fun q => q c2)] at hP
      have hcl : a_does (d + 12) 186 [a_rf M, .int a] (n, t, K, L, I, R) (fun r h' => a_at (d + 12) (a_xm a_m233) 47 [some (a_rf M), some (.int a)] (r.toList ++ []) h' P) := by
        refine xt_takeFrom (d := d + 10) hS hF (by omega) ha (fun J f1 _ y1 => ?_)
        have hp := hP J (mF_le f1 (by omega)) (yR_gs hg y1 (unY_p hg.2.2 ha))
        clear hP hrf hm hy hl hg hF f1 y1
        simp only [q233_47, q233_48, as_nil, as_i, as_r, Nat.reduceAdd, Nat.reduceLeDiff, z_eq0, z_eq1, z_or, z_em, Classical.not_not, not_false_eq_true, not_true_eq_false, true_and, and_true, false_and, and_false, and_self, true_implies, false_implies, implies_true, Option.toList_some, Option.toList_none, List.cons_append, List.nil_append, Nat.add_eq_zero_iff, a_nl_i, a_nl_r, a_nl_n, true_or, or_true, eq_self, ok_4, ok_5, ok_6, ok_7, ok_9, ok_10, ok_20, ok_21, ok_24, ok_30, ok_48, ok_50, ok_60, ok_80, ok_120, ok_180, ok_192, ok_200, ok_900, ok_1000, ok_84000]
        exact hp
      rw [Int32.mul_comm] at c2
      clear hP hrf hm hy hl hg hF
      rw [a_enter1 (M := a_m233) rfl (a_cat_rf (a_cat_int a_cat_nil)) (show 2 ≤ 2 by decide)]
      show a_at _ (a_xm a_m233) 0 [some (a_rf M), some (.int a)] [] _ _
      simp only [q233_0, q233_1, q233_2, q233_5, q233_8, q233_9, q233_10, q233_13, q233_14, q233_15, q233_16, q233_19, q233_22, q233_23, q233_24, q233_27, q233_28, q233_29, q233_32, q233_35, q233_36, q233_38, q233_41, q233_42, q233_43, q233_44, m_0 hS, m_K hS, mR_atShift hS, mK_atShift hS, mL_atShift hS, sp_isAsk hS, sp_refuse_1 hS, sp_refuse_2 hS, sp_refuse_3 hS, sp_refuse_4 hS, sp_refuse_5 hS, sp_refuse_6 hS, sp_hasPlace hS, sp_isBegun hS, as_nil, as_i, as_r, Nat.reduceAdd, Nat.reduceLeDiff, z_eq0, z_eq1, z_or, z_em, Classical.not_not, not_false_eq_true, not_true_eq_false, true_and, and_true, false_and, and_false, and_self, true_implies, false_implies, implies_true, Option.toList_some, Option.toList_none, List.cons_append, List.nil_append, Nat.add_eq_zero_iff, a_nl_i, a_nl_r, a_nl_n, true_or, or_true, eq_self, ok_4, ok_5, ok_6, ok_7, ok_9, ok_10, ok_20, ok_21, ok_24, ok_30, ok_48, ok_50, ok_60, ok_80, ok_120, ok_180, ok_192, ok_200, ok_900, ok_1000, ok_84000, e17, m17, c1, ha, e20, e21, e0, c2]
      try simp only [true_and, and_true, true_implies, false_implies, implies_true, not_true_eq_false, not_false_eq_true]
      first
        | exact hcl
        | grind
    · rw [if_pos c2] at hP
      have hr := hP _ (hrf 3).1 (hrf 3).2
      rw [Int32.mul_comm] at c2
      clear hP hrf hm hy hl hg hF
      rw [a_enter1 (M := a_m233) rfl (a_cat_rf (a_cat_int a_cat_nil)) (show 2 ≤ 2 by decide)]
      show a_at _ (a_xm a_m233) 0 [some (a_rf M), some (.int a)] [] _ _
      simp only [q233_0, q233_1, q233_2, q233_5, q233_8, q233_9, q233_10, q233_13, q233_14, q233_15, q233_16, q233_19, q233_22, q233_23, q233_24, q233_27, q233_28, q233_29, q233_32, q233_35, q233_36, q233_38, q233_41, m_0 hS, m_K hS, mR_atShift hS, mK_atShift hS, mL_atShift hS, sp_isAsk hS, sp_refuse_1 hS, sp_refuse_2 hS, sp_refuse_3 hS, sp_refuse_4 hS, sp_refuse_5 hS, sp_refuse_6 hS, sp_hasPlace hS, sp_isBegun hS, as_nil, as_i, as_r, Nat.reduceAdd, Nat.reduceLeDiff, z_eq0, z_eq1, z_or, z_em, Classical.not_not, not_false_eq_true, not_true_eq_false, true_and, and_true, false_and, and_false, and_self, true_implies, false_implies, implies_true, Option.toList_some, Option.toList_none, List.cons_append, List.nil_append, Nat.add_eq_zero_iff, a_nl_i, a_nl_r, a_nl_n, true_or, or_true, eq_self, ok_4, ok_5, ok_6, ok_7, ok_9, ok_10, ok_20, ok_21, ok_24, ok_30, ok_48, ok_50, ok_60, ok_80, ok_120, ok_180, ok_192, ok_200, ok_900, ok_1000, ok_84000, e17, m17, c1, ha, e20, e21, e0]
      try simp only [true_and, and_true, true_implies, false_implies, implies_true, not_true_eq_false, not_false_eq_true]
      first
        | exact hr
        | grind
  · rw [if_pos c1] at hP
    have hr := hP _ (hrf 1).1 (hrf 1).2
    clear hP hrf hm hy hl hg hF
    rw [a_enter1 (M := a_m233) rfl (a_cat_rf (a_cat_int a_cat_nil)) (show 2 ≤ 2 by decide)]
    show a_at _ (a_xm a_m233) 0 [some (a_rf M), some (.int a)] [] _ _
    simp only [q233_0, q233_1, q233_2, q233_5, q233_8, q233_9, q233_10, q233_13, m_0 hS, m_K hS, sp_isAsk hS, sp_refuse_1 hS, sp_refuse_2 hS, sp_refuse_3 hS, sp_refuse_4 hS, sp_refuse_5 hS, sp_refuse_6 hS, as_nil, as_i, as_r, Nat.reduceAdd, Nat.reduceLeDiff, z_eq0, z_eq1, z_or, z_em, Classical.not_not, not_false_eq_true, not_true_eq_false, true_and, and_true, false_and, and_false, and_self, true_implies, false_implies, implies_true, Option.toList_some, Option.toList_none, List.cons_append, List.nil_append, Nat.add_eq_zero_iff, a_nl_i, a_nl_r, a_nl_n, true_or, or_true, eq_self, ok_4, ok_5, ok_6, ok_7, ok_9, ok_10, ok_20, ok_21, ok_24, ok_30, ok_48, ok_50, ok_60, ok_80, ok_120, ok_180, ok_192, ok_200, ok_900, ok_1000, ok_84000, e17, m17, c1]
    try simp only [true_and, and_true, true_implies, false_implies, implies_true, not_true_eq_false, not_false_eq_true]
    first
      | exact hr
      | grind
theorem xp_again (hS : m_S M K L R) {I1 : Nat → Nat → Int32} (hm : okY Y) {c : Nat} (hc : c + 130 ≤ 84000) (hF : mF M c I1 I) (hg : gs M I0 I Y) (hP : ∀ J, mF M (c + 120) I1 J → gs M I0 J (agY Y).1 → P (some (.int (Int32.ofNat (agY Y).2))) (n, t, K, L, J, R)) : a_does (d + 13) 247 [a_rf M] (n, t, K, L, I, R) P := xt_again hS hm.2.1 hm.1.2.2.2.2.1 hm.1.2.1 hm.1.2.2.2.2.2.1 hm.1.2.2.1 hm.2.2 hc hF hg (fun J q1 q2 _ _ => hP J q1 q2)
theorem xp_plan (hS : m_S M K L R) {I1 : Nat → Nat → Int32} (hm : okY Y) {c : Nat} (hc : c + 130 ≤ 84000) (hF : mF M c I1 I) (hg : gs M I0 I Y) {a b : Int32} (hP : ∀ J, mF M (c + 120) I1 J → gs M I0 J (plO Y a b).2 → P (some (.int (plO Y a b).1)) (n, t, K, L, J, R)) : a_does (d + 14) 234 [a_rf M, .int a, .int b] (n, t, K, L, I, R) P := by
  have hy := hm.1
  have h17 := hy.2.2.2.2.1
  have h10 := hy.2.1
  have h6 := hy.2.2.2.2.2.1
  have hl := hy.2.2.1
  have hrf : ∀ k : Nat, mF M (c + 120) I1 (a_ui I (M + 23) k (I (M + 23) k + 1)) ∧ gs M I0 (a_ui I (M + 23) k (I (M + 23) k + 1)) Y := fun k => ⟨mF_le (sF_refused hF) (by omega), gs_ui hg (sR_refused hg.1) (by omega) ⟨by unfold ps1; omega, by omega⟩⟩
  have e17 : I M 17 = Y 0 17 := hg.2.2.1 0 17 (by unfold ps1; omega)
  have e6 : I M 6 = Y 0 6 := hg.2.2.1 0 6 (by unfold ps1; omega)
  have e0 : I M 0 = Y 0 0 := hg.2.2.1 0 0 (by unfold ps1; omega)
  have m17 : ∀ x : Int32, (x ≤ Y 0 17 - 1) = (x < Y 0 17) := fun x => le_m1 h17
  have m6 : ∀ x : Int32, (x ≤ Y 0 6 - 1) = (x < Y 0 6) := fun x => le_m1 ⟨h6.1, Int32.le_trans h6.2 (by decide)⟩
  have m199 : ∀ x : Int32, (x ≤ 199) = (x < 200) := fun x => propext ⟨fun q => Int32.lt_of_le_of_lt q (by decide), fun q => by clear hP hrf hm hg hF; grind⟩
  unfold plO at hP
  by_cases c1 : (0 ≤ a ∧ a < 200) ∧ (0 ≤ b ∧ b < 200) ∧ a ≤ b
  · rw [if_neg (fun q => q c1)] at hP
    have hcl := xt_plan14 (d := d) (P := P) (f := a) (e := b) hS hm.2.1 h17 h10 h6 hl hc hF hg ⟨c1.1.1, by rw [m199]; exact c1.1.2⟩ (by rw [m199]; exact c1.2.1.2) (fun J q1 q2 _ _ _ _ _ => hP J q1 q2)
    clear hP hrf hm hy hl hg hF
    rw [a_enter1 (M := a_m234) rfl (a_cat_rf (a_cat_int (a_cat_int a_cat_nil))) (show 3 ≤ 6 by decide)]
    show a_at _ (a_xm a_m234) 0 [some (a_rf M), some (.int a), some (.int b), none, none, none] [] _ _
    simp only [q234_0, q234_1, q234_2, q234_5, sp_isSpan, as_nil, as_i, as_r, Nat.reduceAdd, Nat.reduceLeDiff, z_eq0, z_eq1, z_or, z_em, Classical.not_not, not_false_eq_true, not_true_eq_false, true_and, and_true, false_and, and_false, and_self, true_implies, false_implies, implies_true, Option.toList_some, Option.toList_none, List.cons_append, List.nil_append, Nat.add_eq_zero_iff, a_nl_i, a_nl_r, a_nl_n, true_or, or_true, eq_self, ok_4, ok_5, ok_6, ok_7, ok_9, ok_10, ok_20, ok_21, ok_24, ok_30, ok_48, ok_50, ok_60, ok_80, ok_120, ok_180, ok_192, ok_200, ok_900, ok_1000, ok_84000, m199, c1]
    try simp only [true_and, and_true, true_implies, false_implies, implies_true, not_true_eq_false, not_false_eq_true]
    first
      | exact hcl
      | grind
  · rw [if_pos c1] at hP
    have hr := hP _ (hrf 1).1 (hrf 1).2
    clear hP hrf hm hy hl hg hF
    rw [a_enter1 (M := a_m234) rfl (a_cat_rf (a_cat_int (a_cat_int a_cat_nil))) (show 3 ≤ 6 by decide)]
    show a_at _ (a_xm a_m234) 0 [some (a_rf M), some (.int a), some (.int b), none, none, none] [] _ _
    simp only [q234_0, q234_1, q234_2, q234_5, q234_8, q234_9, q234_10, q234_13, m_0 hS, m_K hS, sp_isSpan, sp_refuse_1 hS, sp_refuse_2 hS, sp_refuse_3 hS, sp_refuse_4 hS, sp_refuse_5 hS, sp_refuse_6 hS, as_nil, as_i, as_r, Nat.reduceAdd, Nat.reduceLeDiff, z_eq0, z_eq1, z_or, z_em, Classical.not_not, not_false_eq_true, not_true_eq_false, true_and, and_true, false_and, and_false, and_self, true_implies, false_implies, implies_true, Option.toList_some, Option.toList_none, List.cons_append, List.nil_append, Nat.add_eq_zero_iff, a_nl_i, a_nl_r, a_nl_n, true_or, or_true, eq_self, ok_4, ok_5, ok_6, ok_7, ok_9, ok_10, ok_20, ok_21, ok_24, ok_30, ok_48, ok_50, ok_60, ok_80, ok_120, ok_180, ok_192, ok_200, ok_900, ok_1000, ok_84000, m199, c1]
    try simp only [true_and, and_true, true_implies, false_implies, implies_true, not_true_eq_false, not_false_eq_true]
    first
      | exact hr
      | grind
theorem xp_give (hS : m_S M K L R) {I1 : Nat → Nat → Int32} (hm : okY Y) {c : Nat} (hc : c + 130 ≤ 84000) (hF : mF M c I1 I) (hg : gs M I0 I Y) {a b s : Int32} (hP : ∀ J, mF M (c + 120) I1 J → gs M I0 J (gvY Y a b s).2 → P (some (.int (gvY Y a b s).1)) (n, t, K, L, J, R)) : a_does (d + 13) 229 [a_rf M, .int a, .int b, .int s] (n, t, K, L, I, R) P := by
  have hy := hm.1
  have h17 := hy.2.2.2.2.1
  have h10 := hy.2.1
  have h6 := hy.2.2.2.2.2.1
  have hl := hy.2.2.1
  have hrf : ∀ k : Nat, mF M (c + 120) I1 (a_ui I (M + 23) k (I (M + 23) k + 1)) ∧ gs M I0 (a_ui I (M + 23) k (I (M + 23) k + 1)) Y := fun k => ⟨mF_le (sF_refused hF) (by omega), gs_ui hg (sR_refused hg.1) (by omega) ⟨by unfold ps1; omega, by omega⟩⟩
  have e17 : I M 17 = Y 0 17 := hg.2.2.1 0 17 (by unfold ps1; omega)
  have e6 : I M 6 = Y 0 6 := hg.2.2.1 0 6 (by unfold ps1; omega)
  have e0 : I M 0 = Y 0 0 := hg.2.2.1 0 0 (by unfold ps1; omega)
  have m17 : ∀ x : Int32, (x ≤ Y 0 17 - 1) = (x < Y 0 17) := fun x => le_m1 h17
  have m6 : ∀ x : Int32, (x ≤ Y 0 6 - 1) = (x < Y 0 6) := fun x => le_m1 ⟨h6.1, Int32.le_trans h6.2 (by decide)⟩
  have m199 : ∀ x : Int32, (x ≤ 199) = (x < 200) := fun x => propext ⟨fun q => Int32.lt_of_le_of_lt q (by decide), fun q => by clear hP hrf hm hg hF; grind⟩
  have e20 : I (M + 20) a.toNatClampNeg = Y 20 a.toNatClampNeg := hg.2.2.1 20 _ (by unfold ps1; omega)
  have e18 : I (M + 18) a.toNatClampNeg = Y 18 a.toNatClampNeg := hg.2.2.1 18 _ (by unfold ps1; omega)
  unfold gvY at hP
  by_cases c1 : (0 ≤ a ∧ a < Y 0 17) ∧ (0 ≤ b ∧ b < Y 0 6) ∧ (0 ≤ s ∧ s < 200)
  · have ha : 0 ≤ a ∧ a < 30 := ⟨c1.1.1, Int32.lt_of_lt_of_le c1.1.2 h17.2⟩
    have hb : 0 ≤ b ∧ b ≤ 5 := ⟨c1.2.1.1, by clear hP hrf hm hy hg hF; grind⟩
    have hs : 0 ≤ s ∧ s ≤ 199 := ⟨c1.2.2.1, by rw [m199]; exact c1.2.2.2⟩
    rw [if_neg (fun q => q c1)] at hP
    by_cases c4 : Y 18 a.toNatClampNeg = 0
    · by_cases c5 : 0 ≤ Y 20 a.toNatClampNeg
      · rw [if_pos (Or.inr (Or.inl c5))] at hP
        have hr := hP _ (hrf 3).1 (hrf 3).2
        clear hP hrf hm hy hl hg hF
        rw [a_enter1 (M := a_m229) rfl (a_cat_rf (a_cat_int (a_cat_int (a_cat_int a_cat_nil)))) (show 4 ≤ 4 by decide)]
        show a_at _ (a_xm a_m229) 0 [some (a_rf M), some (.int a), some (.int b), some (.int s)] [] _ _
        simp only [q229_0, q229_1, q229_2, q229_5, q229_8, q229_9, q229_10, q229_13, q229_16, q229_17, q229_20, q229_23, q229_24, q229_25, q229_28, q229_29, q229_30, q229_33, q229_34, q229_35, q229_38, q229_39, q229_40, q229_43, q229_46, q229_47, q229_48, q229_49, q229_50, q229_53, q229_56, q229_57, q229_59, q229_62, m_0 hS, m_K hS, mR_isGone hS, mK_isGone hS, mL_isGone hS, sp_isAsk hS, sp_isBench hS, sp_isShift, sp_refuse_1 hS, sp_refuse_2 hS, sp_refuse_3 hS, sp_refuse_4 hS, sp_refuse_5 hS, sp_refuse_6 hS, sp_hasPlace hS, as_nil, as_i, as_r, Nat.reduceAdd, Nat.reduceLeDiff, z_eq0, z_eq1, z_or, z_em, Classical.not_not, not_false_eq_true, not_true_eq_false, true_and, and_true, false_and, and_false, and_self, true_implies, false_implies, implies_true, Option.toList_some, Option.toList_none, List.cons_append, List.nil_append, Nat.add_eq_zero_iff, a_nl_i, a_nl_r, a_nl_n, true_or, or_true, eq_self, ok_4, ok_5, ok_6, ok_7, ok_9, ok_10, ok_20, ok_21, ok_24, ok_30, ok_48, ok_50, ok_60, ok_80, ok_120, ok_180, ok_192, ok_200, ok_900, ok_1000, ok_84000, e17, m17, e6, m6, m199, c1, ha, e20, e18, c4, c5]
        try simp only [true_and, and_true, true_implies, false_implies, implies_true, not_true_eq_false, not_false_eq_true]
        first
          | exact hr
          | grind
      · have hfit : a_does (d + 12) 221 [a_rf M, .int a, .int b, .int s] (n, t, K, L, I, R) (fun r h' => a_at (d + 12) (a_xm a_m229) 53 [some (a_rf M), some (.int a), some (.int b), some (.int s)] (r.toList ++ []) h' P) := by
          refine xt_fitOf (d := d + 2) hS (moP_of hg.1 hm.2.1 hg.2.2) (mC_refl hg.1) ha hb hs (fun J hJ => ?_)
          rw [ftY_p h17 h10 hg.2.2]
          have f1 := mF_C hF hJ
          have g1 := gs_C hg hJ
          by_cases cf : ftY Y a b s = 0
          · rw [if_neg (fun q => by rcases q with q | q | q; exact q c4; exact c5 q; exact q cf)] at hP
            have hgive : a_does (d + 12) 230 [a_rf M, .int a, .int b, .int s] (n, t, K, L, J, R) (fun r h' => a_at (d + 12) (a_xm a_m229) 70 [some (a_rf M), some (.int a), some (.int b), some (.int s)] (r.toList ++ []) h' P) := by
              refine xt_giveTo (d := d + 1) hS (moP_of g1.1 hm.2.1 g1.2.2) f1 (by omega) ha hb ⟨Int32.le_trans (by decide) hs.1, Int32.le_trans hs.2 (by decide)⟩ (fun J3 f3 y3 => ?_)
              have hp := hP J3 (mF_le f3 (by omega)) (yR_gs g1 y3 (puY_p h17 h10 g1.2.2 ha))
              clear hP hrf hm hy hl hg hF f1 g1 f3 y3
              simp only [q229_70, q229_71, as_nil, as_i, as_r, Nat.reduceAdd, Nat.reduceLeDiff, z_eq0, z_eq1, z_or, z_em, Classical.not_not, not_false_eq_true, not_true_eq_false, true_and, and_true, false_and, and_false, and_self, true_implies, false_implies, implies_true, Option.toList_some, Option.toList_none, List.cons_append, List.nil_append, Nat.add_eq_zero_iff, a_nl_i, a_nl_r, a_nl_n, true_or, or_true, eq_self, ok_4, ok_5, ok_6, ok_7, ok_9, ok_10, ok_20, ok_21, ok_24, ok_30, ok_48, ok_50, ok_60, ok_80, ok_120, ok_180, ok_192, ok_200, ok_900, ok_1000, ok_84000]
              exact hp
            clear hP hrf hm hy hl hg hF f1 g1
            simp only [q229_53, q229_63, q229_64, q229_65, q229_66, q229_67, m_0 hS, m_K hS, as_nil, as_i, as_r, Nat.reduceAdd, Nat.reduceLeDiff, z_eq0, z_eq1, z_or, z_em, Classical.not_not, not_false_eq_true, not_true_eq_false, true_and, and_true, false_and, and_false, and_self, true_implies, false_implies, implies_true, Option.toList_some, Option.toList_none, List.cons_append, List.nil_append, Nat.add_eq_zero_iff, a_nl_i, a_nl_r, a_nl_n, true_or, or_true, eq_self, ok_4, ok_5, ok_6, ok_7, ok_9, ok_10, ok_20, ok_21, ok_24, ok_30, ok_48, ok_50, ok_60, ok_80, ok_120, ok_180, ok_192, ok_200, ok_900, ok_1000, ok_84000, cf]
            try simp only [true_and, and_true, true_implies, false_implies, implies_true, not_true_eq_false, not_false_eq_true]
            first
              | exact hgive
              | grind
          · rw [if_pos (Or.inr (Or.inr cf))] at hP
            have hr := hP (a_ui J (M + 23) 3 (J (M + 23) 3 + 1)) (mF_le (sF_refused f1) (by omega)) (gs_ui g1 (sR_refused g1.1) (by omega) ⟨by unfold ps1; omega, by omega⟩)
            clear hP hrf hm hy hl hg hF f1 g1
            simp only [q229_53, q229_56, q229_57, q229_59, q229_62, m_0 hS, m_K hS, sp_refuse_1 hS, sp_refuse_2 hS, sp_refuse_3 hS, sp_refuse_4 hS, sp_refuse_5 hS, sp_refuse_6 hS, as_nil, as_i, as_r, Nat.reduceAdd, Nat.reduceLeDiff, z_eq0, z_eq1, z_or, z_em, Classical.not_not, not_false_eq_true, not_true_eq_false, true_and, and_true, false_and, and_false, and_self, true_implies, false_implies, implies_true, Option.toList_some, Option.toList_none, List.cons_append, List.nil_append, Nat.add_eq_zero_iff, a_nl_i, a_nl_r, a_nl_n, true_or, or_true, eq_self, ok_4, ok_5, ok_6, ok_7, ok_9, ok_10, ok_20, ok_21, ok_24, ok_30, ok_48, ok_50, ok_60, ok_80, ok_120, ok_180, ok_192, ok_200, ok_900, ok_1000, ok_84000, cf]
            try simp only [true_and, and_true, true_implies, false_implies, implies_true, not_true_eq_false, not_false_eq_true]
            first
              | exact hr
              | grind
        clear hP hrf hm hy hl hg hF
        rw [a_enter1 (M := a_m229) rfl (a_cat_rf (a_cat_int (a_cat_int (a_cat_int a_cat_nil)))) (show 4 ≤ 4 by decide)]
        show a_at _ (a_xm a_m229) 0 [some (a_rf M), some (.int a), some (.int b), some (.int s)] [] _ _
        simp only [q229_0, q229_1, q229_2, q229_5, q229_8, q229_9, q229_10, q229_13, q229_16, q229_17, q229_20, q229_23, q229_24, q229_25, q229_28, q229_29, q229_30, q229_33, q229_34, q229_35, q229_38, q229_39, q229_40, q229_43, q229_46, q229_47, q229_48, q229_49, q229_50, m_0 hS, m_K hS, mR_isGone hS, mK_isGone hS, mL_isGone hS, sp_isAsk hS, sp_isBench hS, sp_isShift, sp_refuse_1 hS, sp_refuse_2 hS, sp_refuse_3 hS, sp_refuse_4 hS, sp_refuse_5 hS, sp_refuse_6 hS, sp_hasPlace hS, as_nil, as_i, as_r, Nat.reduceAdd, Nat.reduceLeDiff, z_eq0, z_eq1, z_or, z_em, Classical.not_not, not_false_eq_true, not_true_eq_false, true_and, and_true, false_and, and_false, and_self, true_implies, false_implies, implies_true, Option.toList_some, Option.toList_none, List.cons_append, List.nil_append, Nat.add_eq_zero_iff, a_nl_i, a_nl_r, a_nl_n, true_or, or_true, eq_self, ok_4, ok_5, ok_6, ok_7, ok_9, ok_10, ok_20, ok_21, ok_24, ok_30, ok_48, ok_50, ok_60, ok_80, ok_120, ok_180, ok_192, ok_200, ok_900, ok_1000, ok_84000, e17, m17, e6, m6, m199, c1, ha, e20, e18, c4, c5]
        try simp only [true_and, and_true, true_implies, false_implies, implies_true, not_true_eq_false, not_false_eq_true]
        first
          | exact hfit
          | grind
    · rw [if_pos (Or.inl c4)] at hP
      have hr := hP _ (hrf 3).1 (hrf 3).2
      clear hP hrf hm hy hl hg hF
      rw [a_enter1 (M := a_m229) rfl (a_cat_rf (a_cat_int (a_cat_int (a_cat_int a_cat_nil)))) (show 4 ≤ 4 by decide)]
      show a_at _ (a_xm a_m229) 0 [some (a_rf M), some (.int a), some (.int b), some (.int s)] [] _ _
      simp only [q229_0, q229_1, q229_2, q229_5, q229_8, q229_9, q229_10, q229_13, q229_16, q229_17, q229_20, q229_23, q229_24, q229_25, q229_28, q229_29, q229_30, q229_33, q229_34, q229_35, q229_38, q229_39, q229_40, q229_43, q229_46, q229_47, q229_48, q229_49, q229_50, q229_53, q229_56, q229_57, q229_59, q229_62, m_0 hS, m_K hS, mR_isGone hS, mK_isGone hS, mL_isGone hS, sp_isAsk hS, sp_isBench hS, sp_isShift, sp_refuse_1 hS, sp_refuse_2 hS, sp_refuse_3 hS, sp_refuse_4 hS, sp_refuse_5 hS, sp_refuse_6 hS, sp_hasPlace hS, as_nil, as_i, as_r, Nat.reduceAdd, Nat.reduceLeDiff, z_eq0, z_eq1, z_or, z_em, Classical.not_not, not_false_eq_true, not_true_eq_false, true_and, and_true, false_and, and_false, and_self, true_implies, false_implies, implies_true, Option.toList_some, Option.toList_none, List.cons_append, List.nil_append, Nat.add_eq_zero_iff, a_nl_i, a_nl_r, a_nl_n, true_or, or_true, eq_self, ok_4, ok_5, ok_6, ok_7, ok_9, ok_10, ok_20, ok_21, ok_24, ok_30, ok_48, ok_50, ok_60, ok_80, ok_120, ok_180, ok_192, ok_200, ok_900, ok_1000, ok_84000, e17, m17, e6, m6, m199, c1, ha, e20, e18, c4]
      try simp only [true_and, and_true, true_implies, false_implies, implies_true, not_true_eq_false, not_false_eq_true]
      first
        | exact hr
        | grind
  · rw [if_pos c1] at hP
    have hr := hP _ (hrf 1).1 (hrf 1).2
    clear hP hrf hm hy hl hg hF
    rw [a_enter1 (M := a_m229) rfl (a_cat_rf (a_cat_int (a_cat_int (a_cat_int a_cat_nil)))) (show 4 ≤ 4 by decide)]
    show a_at _ (a_xm a_m229) 0 [some (a_rf M), some (.int a), some (.int b), some (.int s)] [] _ _
    simp only [q229_0, q229_1, q229_2, q229_5, q229_8, q229_9, q229_10, q229_13, q229_16, q229_17, q229_20, q229_23, q229_24, q229_25, q229_28, m_0 hS, m_K hS, sp_isAsk hS, sp_isBench hS, sp_isShift, sp_refuse_1 hS, sp_refuse_2 hS, sp_refuse_3 hS, sp_refuse_4 hS, sp_refuse_5 hS, sp_refuse_6 hS, as_nil, as_i, as_r, Nat.reduceAdd, Nat.reduceLeDiff, z_eq0, z_eq1, z_or, z_em, Classical.not_not, not_false_eq_true, not_true_eq_false, true_and, and_true, false_and, and_false, and_self, true_implies, false_implies, implies_true, Option.toList_some, Option.toList_none, List.cons_append, List.nil_append, Nat.add_eq_zero_iff, a_nl_i, a_nl_r, a_nl_n, true_or, or_true, eq_self, ok_4, ok_5, ok_6, ok_7, ok_9, ok_10, ok_20, ok_21, ok_24, ok_30, ok_48, ok_50, ok_60, ok_80, ok_120, ok_180, ok_192, ok_200, ok_900, ok_1000, ok_84000, e17, m17, e6, m6, m199]
    try simp only [true_and, and_true, true_implies, false_implies, implies_true, not_true_eq_false, not_false_eq_true]
    by_cases q1 : 0 ≤ a ∧ a < Y 0 17
    · by_cases q2 : 0 ≤ b ∧ b < Y 0 6
      · have q3 : ¬ (0 ≤ s ∧ s < 200) := fun q => c1 ⟨q1, q2, q⟩
        simp only [q1, q2, q3]
        try simp only [true_and, and_true, true_implies, false_implies, implies_true, not_true_eq_false, not_false_eq_true]
        first
          | exact hr
          | grind
      · simp only [q1, q2]
        try simp only [true_and, and_true, true_implies, false_implies, implies_true, not_true_eq_false, not_false_eq_true]
        first
          | exact hr
          | grind
    · simp only [q1]
      try simp only [true_and, and_true, true_implies, false_implies, implies_true, not_true_eq_false, not_false_eq_true]
      first
        | exact hr
        | grind
end YM0
end
section
/-! one cell of an ASK changes -/
section YN0
variable {d n t C c : Nat} {K L : Nat → Nat} {I I0 J J0 J1 J2 : Nat → Nat → Int32} {R : Nat → Nat → Nat} {P : Option Value → AH → Prop}
variable {Y Z W : Nat → Nat → Int32} {R' R1 : Nat → Nat → Nat} {K' L' : Nat → Nat}
def upY (Y : Nat → Nat → Int32) (k j : Nat) (v : Int32) : Nat → Nat → Int32 := fun x i => if x = k ∧ i = j then v else Y x i
/-- all rows but danger, withdrawn, repaid -/
def rwE (Y Z : Nat → Nat → Int32) : Prop := ∀ k, ¬ k = 15 → ¬ k = 18 → ¬ k = 19 → ¬ k = 31 → Z k = Y k
theorem rw_up9 {k j : Nat} {v : Int32} (hk : k = 15 ∨ k = 18 ∨ k = 19 ∨ k = 31) : rwE Y (upY Y k j v) := fun x h1 h2 h3 h4 => funext (fun i => by unfold upY; rw [if_neg (by omega)])
theorem up_at {k j : Nat} {v : Int32} : upY Y k j v k j = v := by unfold upY; rw [if_pos ⟨rfl, rfl⟩]
theorem up_no {k j x i : Nat} {v : Int32} (h : ¬ (x = k ∧ i = j)) : upY Y k j v x i = Y x i := by unfold upY; rw [if_neg h]
theorem psE_up (h : psE Y W) {k j : Nat} {v : Int32} (hk : k = 15 ∨ k = 18 ∨ k = 19) : psE (upY Y k j v) (upY W k j v) := by
  refine ⟨fun x i p => ?_, fun o o0 o1 o2 i i0 i1 => ?_⟩
  · by_cases e : x = k ∧ i = j
    · rw [e.1, e.2, up_at, up_at]
    · rw [up_no e, up_no e]
      exact h.1 x i p
  · rw [up_no (by omega)] at o2 i1
    rw [up_no (by omega), up_no (by omega)]
    exact h.2 o o0 o1 o2 i i0 i1
theorem gs_up {M : Nat} (hg : gs M I0 I Y) {k j : Nat} {v : Int32} (hk : k = 15 ∨ k = 18 ∨ k = 19) (hR : mR M (a_ui I (M + k) j v)) : gs M I0 (a_ui I (M + k) j v) (upY Y k j v) := by
  refine ⟨hR, fun x i p => by rw [ui_ap, if_neg (by omega)]; exact hg.2.1 x i p, ?_⟩
  have e : yv M (a_ui I (M + k) j v) = upY (yv M I) k j v := by
    funext x i
    unfold upY
    show a_ui I (M + k) j v (M + x) i = if x = k ∧ i = j then v else I (M + x) i
    rw [ui_ap]
    by_cases e : x = k ∧ i = j
    · rw [if_pos ⟨by omega, e.2⟩, if_pos e]
    · rw [if_neg (fun q => e ⟨by omega, q.2⟩), if_neg e]
  rw [e]
  exact psE_up hg.2.2 hk
theorem yo_rw (hr : rwE Y Z) (h : yoP Y) : yoP Z := by
  unfold yoP inP mkP hbP at h ⊢
  rw [hr 0 (by omega) (by omega) (by omega) (by omega), hr 10 (by omega) (by omega) (by omega) (by omega), hr 20 (by omega) (by omega) (by omega) (by omega), hr 21 (by omega) (by omega) (by omega) (by omega), hr 38 (by omega) (by omega) (by omega) (by omega), hr 36 (by omega) (by omega) (by omega) (by omega), hr 6 (by omega) (by omega) (by omega) (by omega), hr 7 (by omega) (by omega) (by omega) (by omega), hr 16 (by omega) (by omega) (by omega) (by omega)]
  exact h
theorem wt_rw (hr : rwE Y Z) {t : Nat} : wtY Z t = wtY Y t := by
  unfold wtY
  rw [hr 28 (by omega) (by omega) (by omega) (by omega)]
theorem wv_rw (hr : rwE Y Z) {t : Nat} : wvY Z t = wvY Y t := by
  funext fc
  unfold wvY
  rw [wt_rw hr, hr 29 (by omega) (by omega) (by omega) (by omega)]
theorem mk_rw (hr : rwE Y Z) : cmY Z = cmY Y ∧ hsY Z = hsY Y := by
  have e : cmY Z = cmY Y := by
    funext r a
    unfold cmY
    rw [hr 38 (by omega) (by omega) (by omega) (by omega), hr 36 (by omega) (by omega) (by omega) (by omega)]
  refine ⟨e, ?_⟩
  funext r
  unfold hsY
  rw [e, hr 0 (by omega) (by omega) (by omega) (by omega)]
theorem li_rw (hr : rwE Y Z) {s : Int32} : liY Z s = liY Y s := by
  have e : lkY Z = lkY Y := by
    funext h
    unfold lkY
    rw [hr 0 (by omega) (by omega) (by omega) (by omega), hr 2 (by omega) (by omega) (by omega) (by omega), hr 3 (by omega) (by omega) (by omega) (by omega), hr 4 (by omega) (by omega) (by omega) (by omega)]
  unfold liY
  rw [e]
theorem sy_rw (hr : rwE Y Z) (h : siY Y) : siY Z := by
  obtain ⟨h1, h2, h3, h4, h5, h6⟩ := h
  unfold siY
  rw [hr 38 (by omega) (by omega) (by omega) (by omega), hr 37 (by omega) (by omega) (by omega) (by omega), hr 47 (by omega) (by omega) (by omega) (by omega), hr 0 (by omega) (by omega) (by omega) (by omega), hr 2 (by omega) (by omega) (by omega) (by omega), hr 3 (by omega) (by omega) (by omega) (by omega), hr 4 (by omega) (by omega) (by omega) (by omega)]
  refine ⟨h1, h2, h3, h4, fun x hx => ?_, h6⟩
  rw [hr 0 (by omega) (by omega) (by omega) (by omega)] at hx
  rw [wt_rw hr, hr 29 (by omega) (by omega) (by omega) (by omega)]
  exact h5 x hx
theorem ok_rw (hr : rwE Y Z) (h : okY Y) : okY Z := by
  obtain ⟨h1, ⟨m1, m2, m3, m4, m5⟩, h3⟩ := h
  have hy := yo_rw hr h1
  refine ⟨hy, ⟨hy.2.2.2.2.2.2.2.1, fun x hx => ?_, ?_, hy.2.2.2.2.2.2.1, hy.2.2.2.2.2.2.2.2.1⟩, by rw [hr 0 (by omega) (by omega) (by omega) (by omega)]; exact h3⟩
  · rw [hr 0 (by omega) (by omega) (by omega) (by omega)] at hx
    rw [wt_rw hr, hr 29 (by omega) (by omega) (by omega) (by omega)]
    exact m2 x hx
  · rw [hr 0 (by omega) (by omega) (by omega) (by omega), hr 2 (by omega) (by omega) (by omega) (by omega), hr 3 (by omega) (by omega) (by omega) (by omega)]
    exact m3
theorem no_rw (hr : rwE Y Z) (h : noP Y) : noP Z := by
  unfold noP
  rw [hr 20 (by omega) (by omega) (by omega) (by omega), hr 21 (by omega) (by omega) (by omega) (by omega)]
  exact h
/-- the class's cell of one ASK changes with the model's -/
theorem cp_af (hT : cT C K L I R) (hc : cpP C K L I R Y) {i : Int32} (ai : 0 ≤ i ∧ i < Y 0 17) (hr : rwE Y Z) {j : Nat} {v : Int32} (h31 : Z 31 = Y 31) (hj : j = 9 ∨ j = 15 ∨ j = 16) (hal : alP (a_ui I (R (C + 15) i.toNatClampNeg) j v) Z i (R (C + 15) i.toNatClampNeg)) (ho : ∀ x, ¬ x = i.toNatClampNeg → Z 15 x = Y 15 x ∧ Z 18 x = Y 18 x ∧ Z 19 x = Y 19 x) : cpP C K L (a_ui I (R (C + 15) i.toNatClampNeg) j v) R Z := by
  obtain ⟨⟨p1, p2, p3⟩, ⟨q1, q2, q3, q4⟩, ⟨r1, r2, r3, r4⟩, ⟨x1, x2⟩, hy⟩ := hc
  have ha := (r2 i ai.1 ai.2).1
  have a1 := (hT.g_ask _ ha).1
  have z0 : Z 0 = Y 0 := hr 0 (by omega) (by omega) (by omega) (by omega)
  have hJ : ∀ x k, ¬ x = (R (C + 15) i.toNatClampNeg) → a_ui I (R (C + 15) i.toNatClampNeg) j v x k = I x k := fun x k e => by rw [ui_ap, if_neg (fun q => e q.1)]
  have cin : ∀ k, k ≤ 43 → ∀ m, a_ui I (R (C + 15) i.toNatClampNeg) j v (C + k) m = I (C + k) m := fun k hk m => hJ _ _ (by omega)
  have h20 : ∀ x m, K x = 20 → a_ui I (R (C + 15) i.toNatClampNeg) j v x m = I x m := fun x m kx => hJ _ _ (fun e => by rw [e, ha] at kx; cases kx)
  refine ⟨⟨by rw [cin _ (by omega), z0]; exact p1, fun m => by rw [cin _ (by omega), hr 1 (by omega) (by omega) (by omega) (by omega)]; exact p2 m, fun s s0 s1 => by rw [cin _ (by omega), li_rw hr]; exact p3 s s0 s1⟩, ⟨by rw [cin _ (by omega), z0]; exact q1, by rw [cin _ (by omega), z0]; exact q2, fun b b0 b1 => ?_, ?_⟩, ⟨by rw [cin _ (by omega), z0]; exact r1, fun o o0 o1 => ?_, fun o o0 o1 => ?_, fun o o0 o1 => ?_⟩, ⟨by rw [cin _ (by omega), z0]; exact x1, fun k k0 k1 => ?_⟩, yo_rw hr hy⟩
  · rw [z0] at b1
    obtain ⟨k1, k2, k3, k4⟩ := q3 b b0 b1
    have hne : ¬ R (C + 16) b.toNatClampNeg = (R (C + 15) i.toNatClampNeg) := fun e => by rw [e, ha] at k1; cases k1
    rw [hJ _ _ hne, hJ _ _ hne, hr 5 (by omega) (by omega) (by omega) (by omega), hr 6 (by omega) (by omega) (by omega) (by omega)]
    exact ⟨k1, k2, k3, k4⟩
  · have hq : plP (whC C (a_ui I (R (C + 15) i.toNatClampNeg) j v) R) (snC C (a_ui I (R (C + 15) i.toNatClampNeg) j v) R) Y := plP_eq q4 (fun b b0 b1 => by
      have g := (hT.g_bnc _ (q3 b b0 b1).1).2.1.2.1
      unfold whC
      funext m
      exact h20 _ _ g) (fun b b0 b1 => by
      have g := (hT.g_bnc _ (q3 b b0 b1).1).2.2.1.2.1
      unfold snC
      funext m
      exact h20 _ _ g)
    unfold plP at hq ⊢
    rw [z0, hr 20 (by omega) (by omega) (by omega) (by omega), hr 21 (by omega) (by omega) (by omega) (by omega), hr 10 (by omega) (by omega) (by omega) (by omega), hr 22 (by omega) (by omega) (by omega) (by omega)]
    exact hq
  · rw [z0] at o1
    obtain ⟨k1, k2, k3⟩ := r2 o o0 o1
    refine ⟨k1, k2, ?_⟩
    rw [ui_ap, if_neg (by omega)]
    exact k3
  · rw [z0] at o1
    rw [ui_ap, if_neg (by omega), (mk_rw hr).1, (mk_rw hr).2]
    exact r3 o o0 o1
  · rw [z0] at o1
    by_cases e : o = i
    · rw [e]
      exact hal
    · have hne : ¬ R (C + 15) o.toNatClampNeg = (R (C + 15) i.toNatClampNeg) := fun q => e (by rw [← (r2 o o0 o1).2.2, q, (r2 i ai.1 ai.2).2.2])
      have hno : ¬ o.toNatClampNeg = i.toNatClampNeg := fun q => e (cl_inj o0 ai.1 q)
      obtain ⟨w1, w2, w3⟩ := ho o.toNatClampNeg hno
      have hl := r4 o o0 o1
      unfold alP at hl ⊢
      simp only [hJ _ _ hne, hr 8 (by omega) (by omega) (by omega) (by omega), hr 9 (by omega) (by omega) (by omega) (by omega), hr 10 (by omega) (by omega) (by omega) (by omega), hr 11 (by omega) (by omega) (by omega) (by omega), hr 7 (by omega) (by omega) (by omega) (by omega), hr 12 (by omega) (by omega) (by omega) (by omega), hr 13 (by omega) (by omega) (by omega) (by omega), hr 14 (by omega) (by omega) (by omega) (by omega), hr 16 (by omega) (by omega) (by omega) (by omega), hr 17 (by omega) (by omega) (by omega) (by omega), hr 20 (by omega) (by omega) (by omega) (by omega), hr 21 (by omega) (by omega) (by omega) (by omega), w1, w2, w3]
      exact hl
  · rw [z0] at k1
    obtain ⟨k11, k12, k13, k14, k15, k16⟩ := x2 k k0 k1
    have hne : ¬ R (C + 8) k.toNatClampNeg = (R (C + 15) i.toNatClampNeg) := fun e => by rw [e, ha] at k11; cases k11
    have hcd : a_ui I (R (C + 15) i.toNatClampNeg) j v (R (R (C + 8) k.toNatClampNeg) 2) = I (R (R (C + 8) k.toNatClampNeg) 2) := funext (fun m => h20 _ _ (hT.g_txt _ k11).2.2.1)
    rw [hJ _ _ hne, hJ _ _ hne, hJ _ _ hne, hcd, wt_rw hr, wv_rw hr, hr 30 (by omega) (by omega) (by omega) (by omega), h31]
    exact ⟨k11, k12, k13, k14, k15, k16⟩
theorem cu_af {m : Nat} (hH : cH C c m t K L I R) (hu : cuP C K L I R Y) {i : Int32} (ai : 0 ≤ i ∧ i < Y 0 17) (hr : rwE Y Z) {j : Nat} {v : Int32} (h31 : Z 31 = Y 31) (hj : j = 9 ∨ j = 15 ∨ j = 16) (hal : alP (a_ui I (R (C + 15) i.toNatClampNeg) j v) Z i (R (C + 15) i.toNatClampNeg)) (ho : ∀ x, ¬ x = i.toNatClampNeg → Z 15 x = Y 15 x ∧ Z 18 x = Y 18 x ∧ Z 19 x = Y 19 x) : cuP C K L (a_ui I (R (C + 15) i.toNatClampNeg) j v) R Z := by
  have hT := hH.1
  have ha := (hu.1.2.2.1.2.1 i ai.1 ai.2).1
  have a1 := (hT.g_ask _ ha).1
  have z0 : Z 0 = Y 0 := hr 0 (by omega) (by omega) (by omega) (by omega)
  have hJ : ∀ x k, ¬ x = (R (C + 15) i.toNatClampNeg) → a_ui I (R (C + 15) i.toNatClampNeg) j v x k = I x k := fun x k e => by rw [ui_ap, if_neg (fun q => e q.1)]
  have cin : ∀ k, k ≤ 43 → ∀ m, a_ui I (R (C + 15) i.toNatClampNeg) j v (C + k) m = I (C + k) m := fun k hk m => hJ _ _ (by omega)
  have c0 : a_ui I (R (C + 15) i.toNatClampNeg) j v C 10 = I C 10 := cin 0 (by omega) 10
  have hc := cp_af hT hu.1 ai hr h31 hj hal ho
  have hu1 := hu.1
  obtain ⟨-, hse, ⟨⟨⟨h1, h2⟩, h3, h4, h5, h6⟩, ⟨⟨t1, t2⟩, ⟨t3, t4⟩, t5, t6⟩, ⟨d1, d2⟩, hy⟩, hno, hst⟩ := hu
  refine ⟨hc, by unfold seP; rw [z0]; exact hse, ⟨⟨⟨by rw [cin _ (by omega), z0]; exact h1, by rw [cin _ (by omega), z0]; exact h2⟩, fun k hk => by rw [cin _ (by omega), hr 38 (by omega) (by omega) (by omega) (by omega), hr 36 (by omega) (by omega) (by omega) (by omega)]; exact h3 k hk, fun r g hr' hg => by rw [cin _ (by omega), hr 35 (by omega) (by omega) (by omega) (by omega)]; exact h4 r g hr' hg, fun r a hr' ha => by rw [cin _ (by omega), hr 37 (by omega) (by omega) (by omega) (by omega)]; exact h5 r a hr' ha, fun a o ha ho => by rw [cin _ (by omega), hr 47 (by omega) (by omega) (by omega) (by omega)]; exact h6 a o ha ho⟩, ⟨⟨by rw [cin _ (by omega), z0]; exact t1, fun j hj => by rw [z0] at hj; rw [cin _ (by omega), cin _ (by omega), cin _ (by omega), hr 2 (by omega) (by omega) (by omega) (by omega), hr 3 (by omega) (by omega) (by omega) (by omega), hr 4 (by omega) (by omega) (by omega) (by omega)]; exact t2 j hj⟩, ⟨by rw [cin _ (by omega), z0]; exact t3, fun j => by rw [cin _ (by omega), hr 27 (by omega) (by omega) (by omega) (by omega)]; exact t4 j⟩, by rw [c0, z0]; exact t5, fun j hj => by rw [z0] at hj; rw [cin _ (by omega), hr 52 (by omega) (by omega) (by omega) (by omega)]; exact t6 j hj⟩, ⟨by rw [z0]; exact d1, fun hd => ?_⟩, sy_rw hr hy⟩, no_rw hr hno, ?_⟩
  rotate_left
  · have q := stP_f hu1 hst (J := a_ui I (R (C + 15) i.toNatClampNeg) j v) (R' := R) (fun x hx => hJ _ _ (fun e => by rw [e, ha] at hx; cases hx)) (fun _ => rfl)
    unfold stP at q ⊢
    rw [z0, h31]
    exact q
  obtain ⟨e1, e2, e3, e4⟩ := d2 hd
  have hne : ¬ R C 11 = (R (C + 15) i.toNatClampNeg) := fun e => e4 i ai.1 ai.2 e.symm
  simp only [hJ _ _ hne, z0]
  exact ⟨e1, e2, e3, e4⟩
end YN0
end
section
/-! withdraw, danger -/
section YO0
variable {d n t C c : Nat} {K L : Nat → Nat} {I I0 J J0 J1 J2 : Nat → Nat → Int32} {R : Nat → Nat → Nat} {P : Option Value → AH → Prop}
variable {Y Z W : Nat → Nat → Int32} {R' R1 : Nat → Nat → Nat} {K' L' : Nat → Nat}
def wdY (Y : Nat → Nat → Int32) (a : Int32) : Int32 × (Nat → Nat → Int32) := if ¬ (0 ≤ a ∧ a < Y 0 17) then (-1, Y) else if ¬ Y 18 a.toNatClampNeg = 0 then (-3, Y) else (1, if 0 ≤ Y 20 a.toNatClampNeg then unY (upY Y 18 a.toNatClampNeg 1) a else upY Y 18 a.toNatClampNeg 1)
def dgY (Y : Nat → Nat → Int32) (a v : Int32) : Int32 × (Nat → Nat → Int32) := if ¬ (0 ≤ a ∧ a < Y 0 17) then (-1, Y) else if v < 0 then (-4, Y) else if 9 < v then (-6, Y) else if agB (upY Y 15 a.toNatClampNeg v) a = true then (1, unY (upY Y 15 a.toNatClampNeg v) a) else (0, upY Y 15 a.toNatClampNeg v)
theorem ui_same {x k : Nat} {v : Int32} (h : I x k = v) : a_ui I x k v = I := by
  funext y j
  rw [ui_ap]
  by_cases e : y = x ∧ j = k
  · rw [if_pos e, e.1, e.2, h]
  · rw [if_neg e]
theorem al_15 {i : Int32} {a : Nat} (h : alP I Y i a) : alP (a_ui I a 15 1) (upY Y 18 i.toNatClampNeg 1) i a := by
  unfold alP at h ⊢
  simp only [ui_ap, upY, true_and, and_true, Nat.reduceEqDiff, false_and, if_false, if_true, reduceIte]
  exact ⟨h.1, h.2.1, h.2.2.1, h.2.2.2.1, h.2.2.2.2.2⟩
theorem al_9 {i v : Int32} {a : Nat} (h : alP I Y i a) : alP (a_ui I a 9 v) (upY Y 15 i.toNatClampNeg v) i a := by
  unfold alP at h ⊢
  simp only [ui_ap, upY, true_and, and_true, Nat.reduceEqDiff, false_and, if_false, if_true, reduceIte]
  exact ⟨h.1, ⟨h.2.1.1, h.2.1.2.1, h.2.1.2.2.1⟩, h.2.2.1, h.2.2.2.1, h.2.2.2.2.1, h.2.2.2.2.2⟩
theorem up_row {k j : Nat} {v : Int32} : ∀ x, ¬ x = j → upY Y k j v 15 x = Y 15 x ∧ upY Y k j v 18 x = Y 18 x ∧ upY Y k j v 19 x = Y 19 x := fun x hx => ⟨up_no (fun q => hx q.2), up_no (fun q => hx q.2), up_no (fun q => hx q.2)⟩
theorem ge_withdraw (hH : cH C c (n + 1) t K L I R) (hu : cuP C K L I R Y) {a : Int32} (hP : ∀ n' t' K' L' J R', cH C c (n' + 1) t' K' L' J R' → cuP C K' L' J R' (wdY Y a).2 → P (some (.int (wdY Y a).1)) (n' + 1, t', K', L', J, R')) : a_does (d + 70) 44 [a_rf C, .int a] (n + 1, t, K, L, I, R) P := by
  have hT := hH.1
  have hS := hT.s
  have gA := hT.g_asksR
  have gB := hT.g_benchesR
  have gX := hT.g_textsR
  have hc := hu.1
  have h17 := hc.2.2.2.2.2.2.2.2.1
  have e4 : I (C + 14) 4 = Y 0 17 := hc.2.2.1.1
  unfold wdY at hP
  by_cases c1 : 0 ≤ a ∧ a < Y 0 17
  · rw [if_neg (fun q => q c1)] at hP
    have hac : 0 ≤ a ∧ a < I (C + 14) 4 ∧ a < 30 := ⟨c1.1, by rw [e4]; exact c1.2, Int32.lt_of_lt_of_le c1.2 h17.2⟩
    have ap := aa_of hc c1.1 c1.2
    obtain ⟨-, ⟨ha, an0, a4n⟩, am, al⟩ := id ap
    have a0 : ((R (C + 15) a.toNatClampNeg) = 0) = False := eq_false an0
    have aC := (hT.g_ask _ ha).1
    have gasks := hT.g_asks
    have e13 : I (R (C + 15) a.toNatClampNeg) 13 = Y 20 a.toNatClampNeg := al.2.2.2.1.1
    have e15 : (I (R (C + 15) a.toNatClampNeg) 15 = 0) = (Y 18 a.toNatClampNeg = 0) := propext al.2.2.2.2.1
    by_cases c2 : Y 18 a.toNatClampNeg = 0
    · rw [if_neg (fun q => q c2)] at hP
      have hT1 := sT_askf hT aC ha (k := 15) (v := 1) (by omega)
      have hu1 := cu_af hH hu c1 (rw_up9 (j := a.toNatClampNeg) (v := 1) (Or.inr (Or.inl rfl))) (funext (fun m => up_no (by omega))) (j := 15) (v := 1) (Or.inr (Or.inl rfl)) (al_15 al) up_row
      have hH1 := cH_J hH hT1
      have z17 : upY Y 18 a.toNatClampNeg 1 0 17 = Y 0 17 := up_no (by omega)
      have z20 : upY Y 18 a.toNatClampNeg 1 20 a.toNatClampNeg = Y 20 a.toNatClampNeg := up_no (by omega)
      have f13 : a_ui I (R (C + 15) a.toNatClampNeg) 15 1 (R (C + 15) a.toNatClampNeg) 13 = Y 20 a.toNatClampNeg := by rw [ui_ap, if_neg (by omega)]; exact e13
      have i30 : a.toNatClampNeg < 30 := a_lt30 ⟨hac.1, hac.2.2⟩
      generalize eJ : a_ui I (R (C + 15) a.toNatClampNeg) 15 1 = J1 at hT1 hu1 hH1 f13
      have hcl : a_does (d + 69) 45 [a_rf (C + 14), a_rf (R (C + 15) a.toNatClampNeg)] (n + 1, t, K, L, J1, R) (fun r h' => a_at (d + 69) (a_xm a_m44) 46 [some (a_rf C), some (.int a), some (a_rf (R (C + 15) a.toNatClampNeg))] (r.toList ++ []) h' P) := by
        by_cases c3 : 0 ≤ Y 20 a.toNatClampNeg
        · refine ce_clear (d := d + 64) hH1 hu1.1 hu1.2.1 (aa_of hu1.1 c1.1 (by rw [z17]; exact c1.2)) rfl (fun n' t' K' L' J R' hH' hQ hc' hse' h15 haz => ?_) (by rw [z20]; exact c3)
          dsimp only at hP
          rw [if_pos c3] at hP
          have hp := hP n' t' K' L' J R' hH' (cu_Q hH1 hu1 hQ hc' hse' ss_un (by rw [z17]; exact c1) haz (no_un hu1.2.2.2.1))
          clear hP hc ap al am hu hu1
          simp only [q44_46, q44_47, as_nil, as_i, as_r, Nat.reduceAdd, Nat.reduceLeDiff, z_eq0, z_eq1, z_or, z_em, Classical.not_not, not_false_eq_true, not_true_eq_false, true_and, and_true, false_and, and_false, and_self, true_implies, false_implies, implies_true, Option.toList_some, Option.toList_none, List.cons_append, List.nil_append, Nat.add_eq_zero_iff, a_nl_i, a_nl_r, a_nl_n, true_or, or_true, eq_self, a_isRA_22, a_isRA_24, a_isRA_32, a_isA_20, ok_4, ok_5, ok_6, ok_7, ok_9, ok_20, ok_21, ok_30, ok_50, ok_180, ok_192, ok_200]
          exact hp
        · dsimp only at hP
          rw [if_neg c3] at hP
          obtain ⟨w1, w2⟩ := hu1.2.2.2.1 a.toNatClampNeg i30 (by rw [z20]; exact c3)
          have f14 : J1 (R (C + 15) a.toNatClampNeg) 14 = -9 := by
            have := (hu1.1.2.2.1.2.2.2 a c1.1 (by rw [z17]; exact c1.2)).2.2.2.1.2
            rw [this]
            exact w2
          rw [z20] at w1
          rw [w1] at f13
          have hp := hP n t K L J1 R hH1 hu1
          have hS1 := hT1.s
          have n9 : ¬ (0 : Int32) ≤ -9 := by decide
          have s13 := ui_same f13
          have s14 := ui_same f14
          clear hP hc ap al am hu hu1
          rw [a_enter1 (M := a_m45) rfl (a_cat_rf (a_cat_rf a_cat_nil)) (show 2 ≤ 3 by decide)]
          show a_at _ (a_xm a_m45) 0 [some (a_rf (C + 14)), some (a_rf (R (C + 15) a.toNatClampNeg)), none] [] _ _
          simp only [q45_0, q45_1, q45_2, q45_5, q45_8, q45_9, q45_10, q45_44, q45_45, q45_46, k_14 hS1, z_14, sp_benchAt hS1 gB, as_nil, as_i, as_r, Nat.reduceAdd, Nat.reduceLeDiff, z_eq0, z_eq1, z_or, z_em, Classical.not_not, not_false_eq_true, not_true_eq_false, true_and, and_true, false_and, and_false, and_self, true_implies, false_implies, implies_true, Option.toList_some, Option.toList_none, List.cons_append, List.nil_append, Nat.add_eq_zero_iff, a_nl_i, a_nl_r, a_nl_n, true_or, or_true, eq_self, a_isRA_22, a_isRA_24, a_isRA_32, a_isA_20, ok_4, ok_5, ok_6, ok_7, ok_9, ok_20, ok_21, ok_30, ok_50, ok_180, ok_192, ok_200, ha, a0, f13, n9]
          try simp only [true_and, and_true, true_implies, false_implies, implies_true, not_true_eq_false, not_false_eq_true]
          rw [a_enter1 (M := a_m51) rfl (a_cat_rf (a_cat_rf a_cat_nil)) (show 2 ≤ 4 by decide)]
          show a_at _ (a_xm a_m51) 0 [some (a_rf (C + 14)), some (a_rf (R (C + 15) a.toNatClampNeg)), none, none] [] _ _
          simp only [q51_0, q51_1, q51_2, q51_5, q51_8, q51_9, q51_10, q51_13, q51_14, q51_15, q51_47, q51_48, q51_50, q51_53, q51_54, q51_56, q51_59, k_14 hS1, z_14, sp_benchAt hS1 gB, as_nil, as_i, as_r, Nat.reduceAdd, Nat.reduceLeDiff, z_eq0, z_eq1, z_or, z_em, Classical.not_not, not_false_eq_true, not_true_eq_false, true_and, and_true, false_and, and_false, and_self, true_implies, false_implies, implies_true, Option.toList_some, Option.toList_none, List.cons_append, List.nil_append, Nat.add_eq_zero_iff, a_nl_i, a_nl_r, a_nl_n, true_or, or_true, eq_self, a_isRA_22, a_isRA_24, a_isRA_32, a_isA_20, ok_4, ok_5, ok_6, ok_7, ok_9, ok_20, ok_21, ok_30, ok_50, ok_180, ok_192, ok_200, ha, a0, f13, n9, s13, s14]
          try simp only [true_and, and_true, true_implies, false_implies, implies_true, not_true_eq_false, not_false_eq_true]
          simp only [q45_49, q44_46, q44_47, as_nil, as_i, as_r, Nat.reduceAdd, Nat.reduceLeDiff, z_eq0, z_eq1, z_or, z_em, Classical.not_not, not_false_eq_true, not_true_eq_false, true_and, and_true, false_and, and_false, and_self, true_implies, false_implies, implies_true, Option.toList_some, Option.toList_none, List.cons_append, List.nil_append, Nat.add_eq_zero_iff, a_nl_i, a_nl_r, a_nl_n, true_or, or_true, eq_self, a_isRA_22, a_isRA_24, a_isRA_32, a_isA_20, ok_4, ok_5, ok_6, ok_7, ok_9, ok_20, ok_21, ok_30, ok_50, ok_180, ok_192, ok_200]
          first
            | exact hp
            | grind
      clear hP hc ap al am hu hu1
      rw [a_enter1 (M := a_m44) rfl (a_cat_rf (a_cat_int a_cat_nil)) (show 2 ≤ 3 by decide)]
      show a_at _ (a_xm a_m44) 0 [some (a_rf C), some (.int a), none] [] _ _
      simp only [q44_0, q44_1, q44_4, q44_5, q44_8, q44_9, q44_10, q44_13, q44_14, q44_15, q44_18, q44_19, q44_20, q44_23, q44_26, q44_27, q44_29, q44_32, q44_33, q44_34, q44_35, q44_38, q44_39, q44_42, q44_43, k_0 hS, z_C hS, r_0_4 hS, k_14 hS, z_14, sp_askAt hS gA, as_nil, as_i, as_r, Nat.reduceAdd, Nat.reduceLeDiff, z_eq0, z_eq1, z_or, z_em, Classical.not_not, not_false_eq_true, not_true_eq_false, true_and, and_true, false_and, and_false, and_self, true_implies, false_implies, implies_true, Option.toList_some, Option.toList_none, List.cons_append, List.nil_append, Nat.add_eq_zero_iff, a_nl_i, a_nl_r, a_nl_n, true_or, or_true, eq_self, a_isRA_22, a_isRA_24, a_isRA_32, a_isA_20, ok_4, ok_5, ok_6, ok_7, ok_9, ok_20, ok_21, ok_30, ok_50, ok_180, ok_192, ok_200, hac, ha, a0, e15, c2, eJ]
      try simp only [true_and, and_true, true_implies, false_implies, implies_true, not_true_eq_false, not_false_eq_true]
      first
        | exact hcl
        | grind
    · rw [if_pos c2] at hP
      have hr : a_does (d + 69) 10 [a_rf C, .int (-3)] (n + 1, t, K, L, I, R) (fun r h' => a_at (d + 69) (a_xm a_m44) 32 [some (a_rf C), some (.int a), some (a_rf (R (C + 15) a.toNatClampNeg))] (r.toList ++ []) h' P) := by
        refine ge_refuse (d := d + 68) hH hu (fun J z1 z2 => ?_)
        have hp := hP n t K L J R z1 z2
        clear hP hc hu
        simp only [q44_32, as_nil, as_i, as_r, Nat.reduceAdd, Nat.reduceLeDiff, z_eq0, z_eq1, z_or, z_em, Classical.not_not, not_false_eq_true, not_true_eq_false, true_and, and_true, false_and, and_false, and_self, true_implies, false_implies, implies_true, Option.toList_some, Option.toList_none, List.cons_append, List.nil_append, Nat.add_eq_zero_iff, a_nl_i, a_nl_r, a_nl_n, true_or, or_true, eq_self, a_isRA_22, a_isRA_24, a_isRA_32, a_isA_20, ok_4, ok_5, ok_6, ok_7, ok_9, ok_20, ok_21, ok_30, ok_50, ok_180, ok_192, ok_200]
        exact hp
      clear hP hc hu
      rw [a_enter1 (M := a_m44) rfl (a_cat_rf (a_cat_int a_cat_nil)) (show 2 ≤ 3 by decide)]
      show a_at _ (a_xm a_m44) 0 [some (a_rf C), some (.int a), none] [] _ _
      simp only [q44_0, q44_1, q44_4, q44_5, q44_8, q44_9, q44_10, q44_13, q44_14, q44_15, q44_18, q44_19, q44_20, q44_23, q44_26, q44_27, q44_29, k_0 hS, z_C hS, r_0_4 hS, k_14 hS, z_14, sp_askAt hS gA, as_nil, as_i, as_r, Nat.reduceAdd, Nat.reduceLeDiff, z_eq0, z_eq1, z_or, z_em, Classical.not_not, not_false_eq_true, not_true_eq_false, true_and, and_true, false_and, and_false, and_self, true_implies, false_implies, implies_true, Option.toList_some, Option.toList_none, List.cons_append, List.nil_append, Nat.add_eq_zero_iff, a_nl_i, a_nl_r, a_nl_n, true_or, or_true, eq_self, a_isRA_22, a_isRA_24, a_isRA_32, a_isA_20, ok_4, ok_5, ok_6, ok_7, ok_9, ok_20, ok_21, ok_30, ok_50, ok_180, ok_192, ok_200, hac, ha, a0, e15, c2]
      try simp only [true_and, and_true, true_implies, false_implies, implies_true, not_true_eq_false, not_false_eq_true]
      first
        | exact hr
        | grind
  · rw [if_pos c1] at hP
    have hac : ¬ (0 ≤ a ∧ a < I (C + 14) 4 ∧ a < 30) := fun q => c1 ⟨q.1, by rw [← e4]; exact q.2.1⟩
    have hr : a_does (d + 69) 10 [a_rf C, .int (-1)] (n + 1, t, K, L, I, R) (fun r h' => a_at (d + 69) (a_xm a_m44) 18 [some (a_rf C), some (.int a), some (a_rf 0)] (r.toList ++ []) h' P) := by
      refine ge_refuse (d := d + 68) hH hu (fun J z1 z2 => ?_)
      have hp := hP n t K L J R z1 z2
      clear hP hc hu
      simp only [q44_18, as_nil, as_i, as_r, Nat.reduceAdd, Nat.reduceLeDiff, z_eq0, z_eq1, z_or, z_em, Classical.not_not, not_false_eq_true, not_true_eq_false, true_and, and_true, false_and, and_false, and_self, true_implies, false_implies, implies_true, Option.toList_some, Option.toList_none, List.cons_append, List.nil_append, Nat.add_eq_zero_iff, a_nl_i, a_nl_r, a_nl_n, true_or, or_true, eq_self, a_isRA_22, a_isRA_24, a_isRA_32, a_isA_20, ok_4, ok_5, ok_6, ok_7, ok_9, ok_20, ok_21, ok_30, ok_50, ok_180, ok_192, ok_200]
      exact hp
    clear hP hc hu
    rw [a_enter1 (M := a_m44) rfl (a_cat_rf (a_cat_int a_cat_nil)) (show 2 ≤ 3 by decide)]
    show a_at _ (a_xm a_m44) 0 [some (a_rf C), some (.int a), none] [] _ _
    simp only [q44_0, q44_1, q44_4, q44_5, q44_8, q44_9, q44_10, q44_13, q44_14, q44_15, k_0 hS, z_C hS, r_0_4 hS, k_14 hS, z_14, sp_askAt hS gA, as_nil, as_i, as_r, Nat.reduceAdd, Nat.reduceLeDiff, z_eq0, z_eq1, z_or, z_em, Classical.not_not, not_false_eq_true, not_true_eq_false, true_and, and_true, false_and, and_false, and_self, true_implies, false_implies, implies_true, Option.toList_some, Option.toList_none, List.cons_append, List.nil_append, Nat.add_eq_zero_iff, a_nl_i, a_nl_r, a_nl_n, true_or, or_true, eq_self, a_isRA_22, a_isRA_24, a_isRA_32, a_isA_20, ok_4, ok_5, ok_6, ok_7, ok_9, ok_20, ok_21, ok_30, ok_50, ok_180, ok_192, ok_200, hac]
    try simp only [true_and, and_true, true_implies, false_implies, implies_true, not_true_eq_false, not_false_eq_true]
    first
      | exact hr
      | grind
theorem ge_danger (hH : cH C c (n + 1) t K L I R) (hu : cuP C K L I R Y) {a v : Int32} (hP : ∀ n' t' K' L' J R', cH C c (n' + 1) t' K' L' J R' → cuP C K' L' J R' (dgY Y a v).2 → P (some (.int (dgY Y a v).1)) (n' + 1, t', K', L', J, R')) : a_does (d + 70) 146 [a_rf C, .int a, .int v] (n + 1, t, K, L, I, R) P := by
  have hT := hH.1
  have hS := hT.s
  have gA := hT.g_asksR
  have gB := hT.g_benchesR
  have gX := hT.g_textsR
  have hc := hu.1
  have h17 := hc.2.2.2.2.2.2.2.2.1
  have e4 : I (C + 14) 4 = Y 0 17 := hc.2.2.1.1
  unfold dgY at hP
  by_cases c1 : 0 ≤ a ∧ a < Y 0 17
  · rw [if_neg (fun q => q c1)] at hP
    have hac : 0 ≤ a ∧ a < I (C + 14) 4 ∧ a < 30 := ⟨c1.1, by rw [e4]; exact c1.2, Int32.lt_of_lt_of_le c1.2 h17.2⟩
    have ap := aa_of hc c1.1 c1.2
    obtain ⟨-, ⟨ha, an0, a4n⟩, am, al⟩ := id ap
    have a0 : ((R (C + 15) a.toNatClampNeg) = 0) = False := eq_false an0
    have aC := (hT.g_ask _ ha).1
    have gasks := hT.g_asks
    have e13 : I (R (C + 15) a.toNatClampNeg) 13 = Y 20 a.toNatClampNeg := al.2.2.2.1.1
    have e15 : (I (R (C + 15) a.toNatClampNeg) 15 = 0) = (Y 18 a.toNatClampNeg = 0) := propext al.2.2.2.2.1
    by_cases c2 : v < 0
    · rw [if_pos c2] at hP
      have c2' : ¬ 0 ≤ v := Int32.not_le.mpr c2
      have hr : a_does (d + 69) 10 [a_rf C, .int (-4)] (n + 1, t, K, L, I, R) (fun r h' => a_at (d + 69) (a_xm a_m146) 29 [some (a_rf C), some (.int a), some (.int v), some (a_rf (R (C + 15) a.toNatClampNeg))] (r.toList ++ []) h' P) := by
        refine ge_refuse (d := d + 68) hH hu (fun J z1 z2 => ?_)
        have hp := hP n t K L J R z1 z2
        clear hP hc hu
        simp only [q146_29, as_nil, as_i, as_r, Nat.reduceAdd, Nat.reduceLeDiff, z_eq0, z_eq1, z_or, z_em, Classical.not_not, not_false_eq_true, not_true_eq_false, true_and, and_true, false_and, and_false, and_self, true_implies, false_implies, implies_true, Option.toList_some, Option.toList_none, List.cons_append, List.nil_append, Nat.add_eq_zero_iff, a_nl_i, a_nl_r, a_nl_n, true_or, or_true, eq_self, a_isRA_22, a_isRA_24, a_isRA_32, a_isA_20, ok_4, ok_5, ok_6, ok_7, ok_9, ok_20, ok_21, ok_30, ok_50, ok_180, ok_192, ok_200]
        exact hp
      clear hP hc hu
      rw [a_enter1 (M := a_m146) rfl (a_cat_rf (a_cat_int (a_cat_int a_cat_nil))) (show 3 ≤ 4 by decide)]
      show a_at _ (a_xm a_m146) 0 [some (a_rf C), some (.int a), some (.int v), none] [] _ _
      simp only [q146_0, q146_1, q146_4, q146_5, q146_8, q146_9, q146_10, q146_13, q146_14, q146_15, q146_18, q146_19, q146_20, q146_23, q146_24, q146_26, k_0 hS, z_C hS, r_0_4 hS, k_14 hS, z_14, sp_askAt hS gA, as_nil, as_i, as_r, Nat.reduceAdd, Nat.reduceLeDiff, z_eq0, z_eq1, z_or, z_em, Classical.not_not, not_false_eq_true, not_true_eq_false, true_and, and_true, false_and, and_false, and_self, true_implies, false_implies, implies_true, Option.toList_some, Option.toList_none, List.cons_append, List.nil_append, Nat.add_eq_zero_iff, a_nl_i, a_nl_r, a_nl_n, true_or, or_true, eq_self, a_isRA_22, a_isRA_24, a_isRA_32, a_isA_20, ok_4, ok_5, ok_6, ok_7, ok_9, ok_20, ok_21, ok_30, ok_50, ok_180, ok_192, ok_200, hac, ha, a0, c2, c2']
      try simp only [true_and, and_true, true_implies, false_implies, implies_true, not_true_eq_false, not_false_eq_true]
      first
        | exact hr
        | grind
    · rw [if_neg c2] at hP
      have c2' : 0 ≤ v := Int32.not_lt.mp c2
      by_cases c3 : 9 < v
      · rw [if_pos c3] at hP
        have c3' : ¬ v ≤ 9 := Int32.not_le.mpr c3
        have hr : a_does (d + 69) 10 [a_rf C, .int (-6)] (n + 1, t, K, L, I, R) (fun r h' => a_at (d + 69) (a_xm a_m146) 42 [some (a_rf C), some (.int a), some (.int v), some (a_rf (R (C + 15) a.toNatClampNeg))] (r.toList ++ []) h' P) := by
          refine ge_refuse (d := d + 68) hH hu (fun J z1 z2 => ?_)
          have hp := hP n t K L J R z1 z2
          clear hP hc hu
          simp only [q146_42, as_nil, as_i, as_r, Nat.reduceAdd, Nat.reduceLeDiff, z_eq0, z_eq1, z_or, z_em, Classical.not_not, not_false_eq_true, not_true_eq_false, true_and, and_true, false_and, and_false, and_self, true_implies, false_implies, implies_true, Option.toList_some, Option.toList_none, List.cons_append, List.nil_append, Nat.add_eq_zero_iff, a_nl_i, a_nl_r, a_nl_n, true_or, or_true, eq_self, a_isRA_22, a_isRA_24, a_isRA_32, a_isA_20, ok_4, ok_5, ok_6, ok_7, ok_9, ok_20, ok_21, ok_30, ok_50, ok_180, ok_192, ok_200]
          exact hp
        clear hP hc hu
        rw [a_enter1 (M := a_m146) rfl (a_cat_rf (a_cat_int (a_cat_int a_cat_nil))) (show 3 ≤ 4 by decide)]
        show a_at _ (a_xm a_m146) 0 [some (a_rf C), some (.int a), some (.int v), none] [] _ _
        simp only [q146_0, q146_1, q146_4, q146_5, q146_8, q146_9, q146_10, q146_13, q146_14, q146_15, q146_18, q146_19, q146_20, q146_23, q146_24, q146_26, q146_29, q146_30, q146_31, q146_33, q146_36, q146_37, q146_39, k_0 hS, z_C hS, r_0_4 hS, k_14 hS, z_14, sp_askAt hS gA, as_nil, as_i, as_r, Nat.reduceAdd, Nat.reduceLeDiff, z_eq0, z_eq1, z_or, z_em, Classical.not_not, not_false_eq_true, not_true_eq_false, true_and, and_true, false_and, and_false, and_self, true_implies, false_implies, implies_true, Option.toList_some, Option.toList_none, List.cons_append, List.nil_append, Nat.add_eq_zero_iff, a_nl_i, a_nl_r, a_nl_n, true_or, or_true, eq_self, a_isRA_22, a_isRA_24, a_isRA_32, a_isA_20, ok_4, ok_5, ok_6, ok_7, ok_9, ok_20, ok_21, ok_30, ok_50, ok_180, ok_192, ok_200, hac, ha, a0, c2, c2', c3, c3']
        try simp only [true_and, and_true, true_implies, false_implies, implies_true, not_true_eq_false, not_false_eq_true]
        first
          | exact hr
          | grind
      · rw [if_neg c3] at hP
        have c3' : v ≤ 9 := Int32.not_lt.mp c3
        have hT1 := sT_askf hT aC ha (k := 9) (v := v) (by omega)
        have hu1 := cu_af hH hu c1 (rw_up9 (j := a.toNatClampNeg) (v := v) (Or.inl rfl)) (funext (fun m => up_no (by omega))) (j := 9) (v := v) (Or.inl rfl) (al_9 al) up_row
        have hH1 := cH_J hH hT1
        have z17 : upY Y 15 a.toNatClampNeg v 0 17 = Y 0 17 := up_no (by omega)
        generalize eJ : a_ui I (R (C + 15) a.toNatClampNeg) 9 v = J1 at hT1 hu1 hH1
        have hcl : a_does (d + 69) 145 [a_rf (C + 14), a_rf (R (C + 15) a.toNatClampNeg)] (n + 1, t, K, L, J1, R) (fun r h' => a_at (d + 69) (a_xm a_m146) 56 [some (a_rf C), some (.int a), some (.int v), some (a_rf (R (C + 15) a.toNatClampNeg))] (r.toList ++ []) h' P) := by
          refine ce_clearUnfit (d := d + 63) hH1 hu1.1 hu1.2.1 (aa_of hu1.1 c1.1 (by rw [z17]; exact c1.2)) rfl (fun ag n' t' K' L' J R' hH' hQ hc' hse' h15 haz => ?_) (fun ag J hJ => ?_)
          · rw [if_pos ag] at hP
            have hp := hP n' t' K' L' J R' hH' (cu_Q hH1 hu1 hQ hc' hse' ss_un (by rw [z17]; exact c1) haz (no_un hu1.2.2.2.1))
            have n10 : ¬ (1 : Int32) = 0 := by decide
            clear hP hc ap al am hu hu1 hc'
            simp only [q146_56, q146_59, q146_60, q146_63, q146_64, as_nil, as_i, as_r, Nat.reduceAdd, Nat.reduceLeDiff, z_eq0, z_eq1, z_or, z_em, Classical.not_not, not_false_eq_true, not_true_eq_false, true_and, and_true, false_and, and_false, and_self, true_implies, false_implies, implies_true, Option.toList_some, Option.toList_none, List.cons_append, List.nil_append, Nat.add_eq_zero_iff, a_nl_i, a_nl_r, a_nl_n, true_or, or_true, eq_self, a_isRA_22, a_isRA_24, a_isRA_32, a_isA_20, ok_4, ok_5, ok_6, ok_7, ok_9, ok_20, ok_21, ok_30, ok_50, ok_180, ok_192, ok_200, n10]
            try simp only [true_and, and_true, true_implies, false_implies, implies_true, not_true_eq_false, not_false_eq_true]
            first
              | exact hp
              | grind
          · rw [if_neg ag] at hP
            have hp := hP n t K L J R (cH_J hH1 hJ.1) (cu_C hT1 hJ hu1 hH1)
            clear hP hc ap al am hu hu1
            simp only [q146_56, q146_59, q146_60, q146_63, q146_64, as_nil, as_i, as_r, Nat.reduceAdd, Nat.reduceLeDiff, z_eq0, z_eq1, z_or, z_em, Classical.not_not, not_false_eq_true, not_true_eq_false, true_and, and_true, false_and, and_false, and_self, true_implies, false_implies, implies_true, Option.toList_some, Option.toList_none, List.cons_append, List.nil_append, Nat.add_eq_zero_iff, a_nl_i, a_nl_r, a_nl_n, true_or, or_true, eq_self, a_isRA_22, a_isRA_24, a_isRA_32, a_isA_20, ok_4, ok_5, ok_6, ok_7, ok_9, ok_20, ok_21, ok_30, ok_50, ok_180, ok_192, ok_200]
            try simp only [true_and, and_true, true_implies, false_implies, implies_true, not_true_eq_false, not_false_eq_true]
            first
              | exact hp
              | grind
        clear hP hc ap al am hu hu1
        rw [a_enter1 (M := a_m146) rfl (a_cat_rf (a_cat_int (a_cat_int a_cat_nil))) (show 3 ≤ 4 by decide)]
        show a_at _ (a_xm a_m146) 0 [some (a_rf C), some (.int a), some (.int v), none] [] _ _
        simp only [q146_0, q146_1, q146_4, q146_5, q146_8, q146_9, q146_10, q146_13, q146_14, q146_15, q146_18, q146_19, q146_20, q146_23, q146_24, q146_26, q146_29, q146_30, q146_31, q146_33, q146_36, q146_37, q146_39, q146_42, q146_43, q146_44, q146_45, q146_48, q146_49, q146_52, q146_53, k_0 hS, z_C hS, r_0_4 hS, k_14 hS, z_14, sp_askAt hS gA, as_nil, as_i, as_r, Nat.reduceAdd, Nat.reduceLeDiff, z_eq0, z_eq1, z_or, z_em, Classical.not_not, not_false_eq_true, not_true_eq_false, true_and, and_true, false_and, and_false, and_self, true_implies, false_implies, implies_true, Option.toList_some, Option.toList_none, List.cons_append, List.nil_append, Nat.add_eq_zero_iff, a_nl_i, a_nl_r, a_nl_n, true_or, or_true, eq_self, a_isRA_22, a_isRA_24, a_isRA_32, a_isA_20, ok_4, ok_5, ok_6, ok_7, ok_9, ok_20, ok_21, ok_30, ok_50, ok_180, ok_192, ok_200, hac, ha, a0, c2, c2', c3, c3', eJ]
        try simp only [true_and, and_true, true_implies, false_implies, implies_true, not_true_eq_false, not_false_eq_true]
        first
          | exact hcl
          | grind
  · rw [if_pos c1] at hP
    have hac : ¬ (0 ≤ a ∧ a < I (C + 14) 4 ∧ a < 30) := fun q => c1 ⟨q.1, by rw [← e4]; exact q.2.1⟩
    have hr : a_does (d + 69) 10 [a_rf C, .int (-1)] (n + 1, t, K, L, I, R) (fun r h' => a_at (d + 69) (a_xm a_m146) 18 [some (a_rf C), some (.int a), some (.int v), some (a_rf 0)] (r.toList ++ []) h' P) := by
      refine ge_refuse (d := d + 68) hH hu (fun J z1 z2 => ?_)
      have hp := hP n t K L J R z1 z2
      clear hP hc hu
      simp only [q146_18, as_nil, as_i, as_r, Nat.reduceAdd, Nat.reduceLeDiff, z_eq0, z_eq1, z_or, z_em, Classical.not_not, not_false_eq_true, not_true_eq_false, true_and, and_true, false_and, and_false, and_self, true_implies, false_implies, implies_true, Option.toList_some, Option.toList_none, List.cons_append, List.nil_append, Nat.add_eq_zero_iff, a_nl_i, a_nl_r, a_nl_n, true_or, or_true, eq_self, a_isRA_22, a_isRA_24, a_isRA_32, a_isA_20, ok_4, ok_5, ok_6, ok_7, ok_9, ok_20, ok_21, ok_30, ok_50, ok_180, ok_192, ok_200]
      exact hp
    clear hP hc hu
    rw [a_enter1 (M := a_m146) rfl (a_cat_rf (a_cat_int (a_cat_int a_cat_nil))) (show 3 ≤ 4 by decide)]
    show a_at _ (a_xm a_m146) 0 [some (a_rf C), some (.int a), some (.int v), none] [] _ _
    simp only [q146_0, q146_1, q146_4, q146_5, q146_8, q146_9, q146_10, q146_13, q146_14, q146_15, k_0 hS, z_C hS, r_0_4 hS, k_14 hS, z_14, sp_askAt hS gA, as_nil, as_i, as_r, Nat.reduceAdd, Nat.reduceLeDiff, z_eq0, z_eq1, z_or, z_em, Classical.not_not, not_false_eq_true, not_true_eq_false, true_and, and_true, false_and, and_false, and_self, true_implies, false_implies, implies_true, Option.toList_some, Option.toList_none, List.cons_append, List.nil_append, Nat.add_eq_zero_iff, a_nl_i, a_nl_r, a_nl_n, true_or, or_true, eq_self, a_isRA_22, a_isRA_24, a_isRA_32, a_isA_20, ok_4, ok_5, ok_6, ok_7, ok_9, ok_20, ok_21, ok_30, ok_50, ok_180, ok_192, ok_200, hac]
    try simp only [true_and, and_true, true_implies, false_implies, implies_true, not_true_eq_false, not_false_eq_true]
    first
      | exact hr
      | grind
end YO0
end
section
/-! the reference: withdraw, danger -/
section YP0
variable {d n t M : Nat} {K L : Nat → Nat} {I I0 J J0 J1 J2 : Nat → Nat → Int32} {R : Nat → Nat → Nat} {P : Option Value → AH → Prop} {f : Nat → Int32} {e : Int32}
variable {Y Z W : Nat → Nat → Int32}
theorem xp_withdraw (hS : m_S M K L R) {I1 : Nat → Nat → Int32} (hm : okY Y) {c : Nat} (hc : c + 130 ≤ 84000) (hF : mF M c I1 I) (hg : gs M I0 I Y) {a : Int32} (hP : ∀ J, mF M (c + 120) I1 J → gs M I0 J (wdY Y a).2 → P (some (.int (wdY Y a).1)) (n, t, K, L, J, R)) : a_does (d + 13) 184 [a_rf M, .int a] (n, t, K, L, I, R) P := by
  have hy := hm.1
  have h17 := hy.2.2.2.2.1
  have h10 := hy.2.1
  have h6 := hy.2.2.2.2.2.1
  have hl := hy.2.2.1
  have hrf : ∀ k : Nat, mF M (c + 120) I1 (a_ui I (M + 23) k (I (M + 23) k + 1)) ∧ gs M I0 (a_ui I (M + 23) k (I (M + 23) k + 1)) Y := fun k => ⟨mF_le (sF_refused hF) (by omega), gs_ui hg (sR_refused hg.1) (by omega) ⟨by unfold ps1; omega, by omega⟩⟩
  have e17 : I M 17 = Y 0 17 := hg.2.2.1 0 17 (by unfold ps1; omega)
  have e6 : I M 6 = Y 0 6 := hg.2.2.1 0 6 (by unfold ps1; omega)
  have e0 : I M 0 = Y 0 0 := hg.2.2.1 0 0 (by unfold ps1; omega)
  have m17 : ∀ x : Int32, (x ≤ Y 0 17 - 1) = (x < Y 0 17) := fun x => le_m1 h17
  have m6 : ∀ x : Int32, (x ≤ Y 0 6 - 1) = (x < Y 0 6) := fun x => le_m1 ⟨h6.1, Int32.le_trans h6.2 (by decide)⟩
  have m199 : ∀ x : Int32, (x ≤ 199) = (x < 200) := fun x => propext ⟨fun q => Int32.lt_of_le_of_lt q (by decide), fun q => by clear hP hrf hm hg hF; grind⟩
  have e20 : I (M + 20) a.toNatClampNeg = Y 20 a.toNatClampNeg := hg.2.2.1 20 _ (by unfold ps1; omega)
  have e18 : I (M + 18) a.toNatClampNeg = Y 18 a.toNatClampNeg := hg.2.2.1 18 _ (by unfold ps1; omega)
  have b11 : (1 : Int32) &&& 1 = 1 := by decide
  unfold wdY at hP
  by_cases c1 : 0 ≤ a ∧ a < Y 0 17
  · have ha : 0 ≤ a ∧ a < 30 := ⟨c1.1, Int32.lt_of_lt_of_le c1.2 h17.2⟩
    rw [if_neg (fun q => q c1)] at hP
    by_cases c2 : Y 18 a.toNatClampNeg = 0
    · rw [if_neg (fun q => q c2)] at hP
      have f1 := sF_isGone hF (k := a.toNatClampNeg) (v := 1)
      have g1 := gs_up hg (k := 18) (j := a.toNatClampNeg) (v := 1) (Or.inr (Or.inl rfl)) (sR_isGone hg.1)
      have e20' : a_ui I (M + 18) a.toNatClampNeg 1 (M + 20) a.toNatClampNeg = Y 20 a.toNatClampNeg := by rw [ui_ap, if_neg (by omega)]; exact e20
      generalize eJ : a_ui I (M + 18) a.toNatClampNeg 1 = J1 at f1 g1 e20'
      dsimp only at hP
      by_cases c3 : 0 ≤ Y 20 a.toNatClampNeg
      · rw [if_pos c3] at hP
        have hcl : a_does (d + 12) 186 [a_rf M, .int a] (n, t, K, L, J1, R) (fun r h' => a_at (d + 12) (a_xm a_m184) 50 [some (a_rf M), some (.int a)] (r.toList ++ []) h' P) := by
          refine xt_takeFrom (d := d + 10) hS f1 (by omega) ha (fun J f2 _ y2 => ?_)
          have hp := hP J (mF_le f2 (by omega)) (yR_gs g1 y2 (unY_p g1.2.2 ha))
          clear hP hrf hm hy hl hg hF f1 g1 f2 y2
          simp only [q184_50, q184_51, as_nil, as_i, as_r, Nat.reduceAdd, Nat.reduceLeDiff, z_eq0, z_eq1, z_or, z_em, Classical.not_not, not_false_eq_true, not_true_eq_false, true_and, and_true, false_and, and_false, and_self, true_implies, false_implies, implies_true, Option.toList_some, Option.toList_none, List.cons_append, List.nil_append, Nat.add_eq_zero_iff, a_nl_i, a_nl_r, a_nl_n, true_or, or_true, eq_self, ok_4, ok_5, ok_6, ok_7, ok_9, ok_10, ok_20, ok_21, ok_24, ok_30, ok_48, ok_50, ok_60, ok_80, ok_120, ok_180, ok_192, ok_200, ok_900, ok_1000, ok_84000]
          exact hp
        clear hP hrf hm hy hl hg hF f1 g1
        rw [a_enter1 (M := a_m184) rfl (a_cat_rf (a_cat_int a_cat_nil)) (show 2 ≤ 2 by decide)]
        show a_at _ (a_xm a_m184) 0 [some (a_rf M), some (.int a)] [] _ _
        simp only [q184_0, q184_1, q184_2, q184_5, q184_8, q184_9, q184_10, q184_13, q184_14, q184_15, q184_18, q184_19, q184_20, q184_23, q184_24, q184_26, q184_29, q184_30, q184_31, q184_34, q184_35, q184_36, q184_37, q184_38, q184_39, q184_42, q184_45, q184_46, q184_47, m_0 hS, m_K hS, mR_isGone hS, mK_isGone hS, mL_isGone hS, sp_isAsk hS, sp_refuse_1 hS, sp_refuse_2 hS, sp_refuse_3 hS, sp_refuse_4 hS, sp_refuse_5 hS, sp_refuse_6 hS, sp_hasPlace hS, as_nil, as_i, as_r, Nat.reduceAdd, Nat.reduceLeDiff, z_eq0, z_eq1, z_or, z_em, Classical.not_not, not_false_eq_true, not_true_eq_false, true_and, and_true, false_and, and_false, and_self, true_implies, false_implies, implies_true, Option.toList_some, Option.toList_none, List.cons_append, List.nil_append, Nat.add_eq_zero_iff, a_nl_i, a_nl_r, a_nl_n, true_or, or_true, eq_self, ok_4, ok_5, ok_6, ok_7, ok_9, ok_10, ok_20, ok_21, ok_24, ok_30, ok_48, ok_50, ok_60, ok_80, ok_120, ok_180, ok_192, ok_200, ok_900, ok_1000, ok_84000, e17, m17, c1, ha, e18, c2, b11, eJ, e20', c3]
        try simp only [true_and, and_true, true_implies, false_implies, implies_true, not_true_eq_false, not_false_eq_true]
        first
          | exact hcl
          | grind
      · rw [if_neg c3] at hP
        have hp := hP J1 (mF_le f1 (by omega)) g1
        clear hP hrf hm hy hl hg hF f1 g1
        rw [a_enter1 (M := a_m184) rfl (a_cat_rf (a_cat_int a_cat_nil)) (show 2 ≤ 2 by decide)]
        show a_at _ (a_xm a_m184) 0 [some (a_rf M), some (.int a)] [] _ _
        simp only [q184_0, q184_1, q184_2, q184_5, q184_8, q184_9, q184_10, q184_13, q184_14, q184_15, q184_18, q184_19, q184_20, q184_23, q184_24, q184_26, q184_29, q184_30, q184_31, q184_34, q184_35, q184_36, q184_37, q184_38, q184_39, q184_42, q184_45, q184_46, q184_47, q184_50, q184_51, m_0 hS, m_K hS, mR_isGone hS, mK_isGone hS, mL_isGone hS, sp_isAsk hS, sp_refuse_1 hS, sp_refuse_2 hS, sp_refuse_3 hS, sp_refuse_4 hS, sp_refuse_5 hS, sp_refuse_6 hS, sp_hasPlace hS, as_nil, as_i, as_r, Nat.reduceAdd, Nat.reduceLeDiff, z_eq0, z_eq1, z_or, z_em, Classical.not_not, not_false_eq_true, not_true_eq_false, true_and, and_true, false_and, and_false, and_self, true_implies, false_implies, implies_true, Option.toList_some, Option.toList_none, List.cons_append, List.nil_append, Nat.add_eq_zero_iff, a_nl_i, a_nl_r, a_nl_n, true_or, or_true, eq_self, ok_4, ok_5, ok_6, ok_7, ok_9, ok_10, ok_20, ok_21, ok_24, ok_30, ok_48, ok_50, ok_60, ok_80, ok_120, ok_180, ok_192, ok_200, ok_900, ok_1000, ok_84000, e17, m17, c1, ha, e18, c2, b11, eJ, e20', c3]
        try simp only [true_and, and_true, true_implies, false_implies, implies_true, not_true_eq_false, not_false_eq_true]
        first
          | exact hp
          | grind
    · rw [if_pos c2] at hP
      have hr := hP _ (hrf 3).1 (hrf 3).2
      clear hP hrf hm hy hl hg hF
      rw [a_enter1 (M := a_m184) rfl (a_cat_rf (a_cat_int a_cat_nil)) (show 2 ≤ 2 by decide)]
      show a_at _ (a_xm a_m184) 0 [some (a_rf M), some (.int a)] [] _ _
      simp only [q184_0, q184_1, q184_2, q184_5, q184_8, q184_9, q184_10, q184_13, q184_14, q184_15, q184_18, q184_19, q184_20, q184_23, q184_24, q184_26, q184_29, m_0 hS, m_K hS, mR_isGone hS, mK_isGone hS, mL_isGone hS, sp_isAsk hS, sp_refuse_1 hS, sp_refuse_2 hS, sp_refuse_3 hS, sp_refuse_4 hS, sp_refuse_5 hS, sp_refuse_6 hS, as_nil, as_i, as_r, Nat.reduceAdd, Nat.reduceLeDiff, z_eq0, z_eq1, z_or, z_em, Classical.not_not, not_false_eq_true, not_true_eq_false, true_and, and_true, false_and, and_false, and_self, true_implies, false_implies, implies_true, Option.toList_some, Option.toList_none, List.cons_append, List.nil_append, Nat.add_eq_zero_iff, a_nl_i, a_nl_r, a_nl_n, true_or, or_true, eq_self, ok_4, ok_5, ok_6, ok_7, ok_9, ok_10, ok_20, ok_21, ok_24, ok_30, ok_48, ok_50, ok_60, ok_80, ok_120, ok_180, ok_192, ok_200, ok_900, ok_1000, ok_84000, e17, m17, c1, ha, e18, c2]
      try simp only [true_and, and_true, true_implies, false_implies, implies_true, not_true_eq_false, not_false_eq_true]
      first
        | exact hr
        | grind
  · rw [if_pos c1] at hP
    have hr := hP _ (hrf 1).1 (hrf 1).2
    clear hP hrf hm hy hl hg hF
    rw [a_enter1 (M := a_m184) rfl (a_cat_rf (a_cat_int a_cat_nil)) (show 2 ≤ 2 by decide)]
    show a_at _ (a_xm a_m184) 0 [some (a_rf M), some (.int a)] [] _ _
    simp only [q184_0, q184_1, q184_2, q184_5, q184_8, q184_9, q184_10, q184_13, m_0 hS, m_K hS, sp_isAsk hS, sp_refuse_1 hS, sp_refuse_2 hS, sp_refuse_3 hS, sp_refuse_4 hS, sp_refuse_5 hS, sp_refuse_6 hS, as_nil, as_i, as_r, Nat.reduceAdd, Nat.reduceLeDiff, z_eq0, z_eq1, z_or, z_em, Classical.not_not, not_false_eq_true, not_true_eq_false, true_and, and_true, false_and, and_false, and_self, true_implies, false_implies, implies_true, Option.toList_some, Option.toList_none, List.cons_append, List.nil_append, Nat.add_eq_zero_iff, a_nl_i, a_nl_r, a_nl_n, true_or, or_true, eq_self, ok_4, ok_5, ok_6, ok_7, ok_9, ok_10, ok_20, ok_21, ok_24, ok_30, ok_48, ok_50, ok_60, ok_80, ok_120, ok_180, ok_192, ok_200, ok_900, ok_1000, ok_84000, e17, m17, c1]
    try simp only [true_and, and_true, true_implies, false_implies, implies_true, not_true_eq_false, not_false_eq_true]
    first
      | exact hr
      | grind
theorem xp_danger (hS : m_S M K L R) {I1 : Nat → Nat → Int32} (hm : okY Y) {c : Nat} (hc : c + 130 ≤ 84000) (hF : mF M c I1 I) (hg : gs M I0 I Y) {a v : Int32} (hP : ∀ J, mF M (c + 120) I1 J → gs M I0 J (dgY Y a v).2 → P (some (.int (dgY Y a v).1)) (n, t, K, L, J, R)) : a_does (d + 13) 249 [a_rf M, .int a, .int v] (n, t, K, L, I, R) P := by
  have hy := hm.1
  have h17 := hy.2.2.2.2.1
  have h10 := hy.2.1
  have h6 := hy.2.2.2.2.2.1
  have hl := hy.2.2.1
  have hrf : ∀ k : Nat, mF M (c + 120) I1 (a_ui I (M + 23) k (I (M + 23) k + 1)) ∧ gs M I0 (a_ui I (M + 23) k (I (M + 23) k + 1)) Y := fun k => ⟨mF_le (sF_refused hF) (by omega), gs_ui hg (sR_refused hg.1) (by omega) ⟨by unfold ps1; omega, by omega⟩⟩
  have e17 : I M 17 = Y 0 17 := hg.2.2.1 0 17 (by unfold ps1; omega)
  have e6 : I M 6 = Y 0 6 := hg.2.2.1 0 6 (by unfold ps1; omega)
  have e0 : I M 0 = Y 0 0 := hg.2.2.1 0 0 (by unfold ps1; omega)
  have m17 : ∀ x : Int32, (x ≤ Y 0 17 - 1) = (x < Y 0 17) := fun x => le_m1 h17
  have m6 : ∀ x : Int32, (x ≤ Y 0 6 - 1) = (x < Y 0 6) := fun x => le_m1 ⟨h6.1, Int32.le_trans h6.2 (by decide)⟩
  have m199 : ∀ x : Int32, (x ≤ 199) = (x < 200) := fun x => propext ⟨fun q => Int32.lt_of_le_of_lt q (by decide), fun q => by clear hP hrf hm hg hF; grind⟩
  unfold dgY at hP
  by_cases c1 : 0 ≤ a ∧ a < Y 0 17
  · have ha : 0 ≤ a ∧ a < 30 := ⟨c1.1, Int32.lt_of_lt_of_le c1.2 h17.2⟩
    rw [if_neg (fun q => q c1)] at hP
    by_cases c2 : v < 0
    · rw [if_pos c2] at hP
      have c2' : ¬ 0 ≤ v := Int32.not_le.mpr c2
      have hr := hP _ (hrf 4).1 (hrf 4).2
      clear hP hrf hm hy hl hg hF
      rw [a_enter1 (M := a_m249) rfl (a_cat_rf (a_cat_int (a_cat_int a_cat_nil))) (show 3 ≤ 3 by decide)]
      show a_at _ (a_xm a_m249) 0 [some (a_rf M), some (.int a), some (.int v)] [] _ _
      simp only [q249_0, q249_1, q249_2, q249_5, q249_8, q249_9, q249_10, q249_13, q249_14, q249_15, q249_18, q249_19, q249_21, q249_24, m_0 hS, m_K hS, sp_isAsk hS, sp_refuse_1 hS, sp_refuse_2 hS, sp_refuse_3 hS, sp_refuse_4 hS, sp_refuse_5 hS, sp_refuse_6 hS, as_nil, as_i, as_r, Nat.reduceAdd, Nat.reduceLeDiff, z_eq0, z_eq1, z_or, z_em, Classical.not_not, not_false_eq_true, not_true_eq_false, true_and, and_true, false_and, and_false, and_self, true_implies, false_implies, implies_true, Option.toList_some, Option.toList_none, List.cons_append, List.nil_append, Nat.add_eq_zero_iff, a_nl_i, a_nl_r, a_nl_n, true_or, or_true, eq_self, ok_4, ok_5, ok_6, ok_7, ok_9, ok_10, ok_20, ok_21, ok_24, ok_30, ok_48, ok_50, ok_60, ok_80, ok_120, ok_180, ok_192, ok_200, ok_900, ok_1000, ok_84000, e17, m17, c1, ha, c2, c2']
      try simp only [true_and, and_true, true_implies, false_implies, implies_true, not_true_eq_false, not_false_eq_true]
      first
        | exact hr
        | grind
    · rw [if_neg c2] at hP
      have c2' : 0 ≤ v := Int32.not_lt.mp c2
      by_cases c3 : 9 < v
      · rw [if_pos c3] at hP
        have c3' : ¬ v ≤ 9 := Int32.not_le.mpr c3
        have hr := hP _ (hrf 6).1 (hrf 6).2
        clear hP hrf hm hy hl hg hF
        rw [a_enter1 (M := a_m249) rfl (a_cat_rf (a_cat_int (a_cat_int a_cat_nil))) (show 3 ≤ 3 by decide)]
        show a_at _ (a_xm a_m249) 0 [some (a_rf M), some (.int a), some (.int v)] [] _ _
        simp only [q249_0, q249_1, q249_2, q249_5, q249_8, q249_9, q249_10, q249_13, q249_14, q249_15, q249_18, q249_19, q249_21, q249_24, q249_25, q249_26, q249_28, q249_31, q249_32, q249_34, q249_37, m_0 hS, m_K hS, sp_isAsk hS, sp_refuse_1 hS, sp_refuse_2 hS, sp_refuse_3 hS, sp_refuse_4 hS, sp_refuse_5 hS, sp_refuse_6 hS, as_nil, as_i, as_r, Nat.reduceAdd, Nat.reduceLeDiff, z_eq0, z_eq1, z_or, z_em, Classical.not_not, not_false_eq_true, not_true_eq_false, true_and, and_true, false_and, and_false, and_self, true_implies, false_implies, implies_true, Option.toList_some, Option.toList_none, List.cons_append, List.nil_append, Nat.add_eq_zero_iff, a_nl_i, a_nl_r, a_nl_n, true_or, or_true, eq_self, ok_4, ok_5, ok_6, ok_7, ok_9, ok_10, ok_20, ok_21, ok_24, ok_30, ok_48, ok_50, ok_60, ok_80, ok_120, ok_180, ok_192, ok_200, ok_900, ok_1000, ok_84000, e17, m17, c1, ha, c2, c2', c3, c3']
        try simp only [true_and, and_true, true_implies, false_implies, implies_true, not_true_eq_false, not_false_eq_true]
        first
          | exact hr
          | grind
      · rw [if_neg c3] at hP
        have c3' : v ≤ 9 := Int32.not_lt.mp c3
        have f1 := sF_danger hF (k := a.toNatClampNeg) (v := v)
        have g1 := gs_up hg (k := 15) (j := a.toNatClampNeg) (v := v) (Or.inl rfl) (sR_danger hg.1)
        have ok1 : okY (upY Y 15 a.toNatClampNeg v) := ok_rw (rw_up9 (Or.inl rfl)) hm
        have z10 : upY Y 15 a.toNatClampNeg v 10 = Y 10 := rw_up9 (Or.inl rfl) 10 (by omega) (by omega) (by omega) (by omega)
        have e20' : a_ui I (M + 15) a.toNatClampNeg v (M + 20) a.toNatClampNeg = upY Y 15 a.toNatClampNeg v 20 a.toNatClampNeg := g1.2.2.1 20 _ (by unfold ps1; omega)
        have e17' : a_ui I (M + 15) a.toNatClampNeg v M 17 = upY Y 15 a.toNatClampNeg v 0 17 := g1.2.2.1 0 17 (by unfold ps1; omega)
        generalize eZ : upY Y 15 a.toNatClampNeg v = Z at hP g1 ok1 z10 e20' e17'
        generalize eJ : a_ui I (M + 15) a.toNatClampNeg v = J1 at f1 g1 e20' e17'
        have hcl : a_does (d + 12) 248 [a_rf M, .int a] (n, t, K, L, J1, R) (fun r h' => a_at (d + 12) (a_xm a_m249) 50 [some (a_rf M), some (.int a), some (.int v)] (r.toList ++ []) h' P) := by
          refine xt_fitsNoMore (d := d + 1) hS ok1.2.1 ok1.1.2.2.2.2.1 ok1.1.2.1 g1 ha (by rw [z10]; exact hl a c1.1 c1.2) (fun J hJ => ?_)
          have f2 := mF_C f1 hJ
          have g2 := gs_C g1 hJ
          by_cases ag : agB Z a = true
          · rw [if_pos ag] at hP ⊢
            have n10 : ¬ (1 : Int32) = 0 := by decide
            have htk : a_does (d + 12) 186 [a_rf M, .int a] (n, t, K, L, J, R) (fun r h' => a_at (d + 12) (a_xm a_m249) 58 [some (a_rf M), some (.int a), some (.int v)] (r.toList ++ []) h' P) := by
              refine xt_takeFrom (d := d + 10) hS f2 (by omega) ha (fun J3 f3 _ y3 => ?_)
              have hp := hP J3 (mF_le f3 (by omega)) (yR_gs g2 y3 (unY_p g2.2.2 ha))
              clear hP hrf hm hy hl hg hF f1 g1 f2 g2 f3 y3
              simp only [q249_58, q249_59, as_nil, as_i, as_r, Nat.reduceAdd, Nat.reduceLeDiff, z_eq0, z_eq1, z_or, z_em, Classical.not_not, not_false_eq_true, not_true_eq_false, true_and, and_true, false_and, and_false, and_self, true_implies, false_implies, implies_true, Option.toList_some, Option.toList_none, List.cons_append, List.nil_append, Nat.add_eq_zero_iff, a_nl_i, a_nl_r, a_nl_n, true_or, or_true, eq_self, ok_4, ok_5, ok_6, ok_7, ok_9, ok_10, ok_20, ok_21, ok_24, ok_30, ok_48, ok_50, ok_60, ok_80, ok_120, ok_180, ok_192, ok_200, ok_900, ok_1000, ok_84000]
              exact hp
            clear hP hrf hm hy hl hg hF f1 g1 f2 g2
            simp only [q249_50, q249_53, q249_54, q249_55, m_0 hS, m_K hS, as_nil, as_i, as_r, Nat.reduceAdd, Nat.reduceLeDiff, z_eq0, z_eq1, z_or, z_em, Classical.not_not, not_false_eq_true, not_true_eq_false, true_and, and_true, false_and, and_false, and_self, true_implies, false_implies, implies_true, Option.toList_some, Option.toList_none, List.cons_append, List.nil_append, Nat.add_eq_zero_iff, a_nl_i, a_nl_r, a_nl_n, true_or, or_true, eq_self, ok_4, ok_5, ok_6, ok_7, ok_9, ok_10, ok_20, ok_21, ok_24, ok_30, ok_48, ok_50, ok_60, ok_80, ok_120, ok_180, ok_192, ok_200, ok_900, ok_1000, ok_84000, n10]
            try simp only [true_and, and_true, true_implies, false_implies, implies_true, not_true_eq_false, not_false_eq_true]
            first
              | exact htk
              | grind
          · rw [if_neg ag] at hP ⊢
            have hp := hP J (mF_le f2 (by omega)) g2
            clear hP hrf hm hy hl hg hF f1 g1 f2 g2
            simp only [q249_50, q249_60, q249_61, as_nil, as_i, as_r, Nat.reduceAdd, Nat.reduceLeDiff, z_eq0, z_eq1, z_or, z_em, Classical.not_not, not_false_eq_true, not_true_eq_false, true_and, and_true, false_and, and_false, and_self, true_implies, false_implies, implies_true, Option.toList_some, Option.toList_none, List.cons_append, List.nil_append, Nat.add_eq_zero_iff, a_nl_i, a_nl_r, a_nl_n, true_or, or_true, eq_self, ok_4, ok_5, ok_6, ok_7, ok_9, ok_10, ok_20, ok_21, ok_24, ok_30, ok_48, ok_50, ok_60, ok_80, ok_120, ok_180, ok_192, ok_200, ok_900, ok_1000, ok_84000]
            try simp only [true_and, and_true, true_implies, false_implies, implies_true, not_true_eq_false, not_false_eq_true]
            first
              | exact hp
              | grind
        clear hP hrf hm hy hl hg hF f1 g1 ok1
        rw [a_enter1 (M := a_m249) rfl (a_cat_rf (a_cat_int (a_cat_int a_cat_nil))) (show 3 ≤ 3 by decide)]
        show a_at _ (a_xm a_m249) 0 [some (a_rf M), some (.int a), some (.int v)] [] _ _
        simp only [q249_0, q249_1, q249_2, q249_5, q249_8, q249_9, q249_10, q249_13, q249_14, q249_15, q249_18, q249_19, q249_21, q249_24, q249_25, q249_26, q249_28, q249_31, q249_32, q249_34, q249_37, q249_38, q249_39, q249_42, q249_43, q249_44, q249_45, q249_46, q249_47, m_0 hS, m_K hS, mR_danger hS, mK_danger hS, mL_danger hS, sp_isAsk hS, sp_refuse_1 hS, sp_refuse_2 hS, sp_refuse_3 hS, sp_refuse_4 hS, sp_refuse_5 hS, sp_refuse_6 hS, as_nil, as_i, as_r, Nat.reduceAdd, Nat.reduceLeDiff, z_eq0, z_eq1, z_or, z_em, Classical.not_not, not_false_eq_true, not_true_eq_false, true_and, and_true, false_and, and_false, and_self, true_implies, false_implies, implies_true, Option.toList_some, Option.toList_none, List.cons_append, List.nil_append, Nat.add_eq_zero_iff, a_nl_i, a_nl_r, a_nl_n, true_or, or_true, eq_self, ok_4, ok_5, ok_6, ok_7, ok_9, ok_10, ok_20, ok_21, ok_24, ok_30, ok_48, ok_50, ok_60, ok_80, ok_120, ok_180, ok_192, ok_200, ok_900, ok_1000, ok_84000, e17, m17, c1, ha, c2, c2', c3, c3', eJ]
        try simp only [true_and, and_true, true_implies, false_implies, implies_true, not_true_eq_false, not_false_eq_true]
        first
          | exact hcl
          | grind
  · rw [if_pos c1] at hP
    have hr := hP _ (hrf 1).1 (hrf 1).2
    clear hP hrf hm hy hl hg hF
    rw [a_enter1 (M := a_m249) rfl (a_cat_rf (a_cat_int (a_cat_int a_cat_nil))) (show 3 ≤ 3 by decide)]
    show a_at _ (a_xm a_m249) 0 [some (a_rf M), some (.int a), some (.int v)] [] _ _
    simp only [q249_0, q249_1, q249_2, q249_5, q249_8, q249_9, q249_10, q249_13, m_0 hS, m_K hS, sp_isAsk hS, sp_refuse_1 hS, sp_refuse_2 hS, sp_refuse_3 hS, sp_refuse_4 hS, sp_refuse_5 hS, sp_refuse_6 hS, as_nil, as_i, as_r, Nat.reduceAdd, Nat.reduceLeDiff, z_eq0, z_eq1, z_or, z_em, Classical.not_not, not_false_eq_true, not_true_eq_false, true_and, and_true, false_and, and_false, and_self, true_implies, false_implies, implies_true, Option.toList_some, Option.toList_none, List.cons_append, List.nil_append, Nat.add_eq_zero_iff, a_nl_i, a_nl_r, a_nl_n, true_or, or_true, eq_self, ok_4, ok_5, ok_6, ok_7, ok_9, ok_10, ok_20, ok_21, ok_24, ok_30, ok_48, ok_50, ok_60, ok_80, ok_120, ok_180, ok_192, ok_200, ok_900, ok_1000, ok_84000, e17, m17, c1]
    try simp only [true_and, and_true, true_implies, false_implies, implies_true, not_true_eq_false, not_false_eq_true]
    first
      | exact hr
      | grind
end YP0
end
section
/-! fit, why, markOf: the class -/
section YQ0
variable {d n t C c : Nat} {K L : Nat → Nat} {I I0 J J0 J1 J2 : Nat → Nat → Int32} {R : Nat → Nat → Nat} {P : Option Value → AH → Prop}
variable {Y Z W : Nat → Nat → Int32} {R' R1 : Nat → Nat → Nat} {K' L' : Nat → Nat}
def ftV (Y : Nat → Nat → Int32) (a b s : Int32) : Int32 := if ¬ ((0 ≤ a ∧ a < Y 0 17) ∧ (0 ≤ b ∧ b < Y 0 6) ∧ (0 ≤ s ∧ s < 200)) then -1 else ftY Y a b s
def whV (Y : Nat → Nat → Int32) (a b s f e : Int32) : Int32 := if ¬ ((0 ≤ a ∧ a < Y 0 17) ∧ (0 ≤ b ∧ b < Y 0 6) ∧ ((0 ≤ f ∧ f < 200) ∧ (0 ≤ e ∧ e < 200) ∧ f ≤ e) ∧ f ≤ s ∧ s ≤ e) then -1 else if ftY Y a b s = 0 then (if shB Y a f e = true then 0 else 12) else ftY Y a b s
def mkV (Y : Nat → Nat → Int32) (a : Int32) : Int32 := if ¬ (0 ≤ a ∧ a < Y 0 17) then -1 else maY Y a
theorem ge_markOf (hH : cH C c (n + 1) t K L I R) (hu : cuP C K L I R Y) {a : Int32} (hP : ∀ J, cH C c (n + 1) t K L J R → cuP C K L J R Y → P (some (.int (mkV Y a))) (n + 1, t, K, L, J, R)) : a_does (d + 70) 96 [a_rf C, .int a] (n + 1, t, K, L, I, R) P := by
  have hT := hH.1
  have hS := hT.s
  have gA := hT.g_asksR
  have gB := hT.g_benchesR
  have gX := hT.g_textsR
  have hc := hu.1
  have h17 := hc.2.2.2.2.2.2.2.2.1
  have e4 : I (C + 14) 4 = Y 0 17 := hc.2.2.1.1
  unfold mkV at hP
  by_cases c1 : 0 ≤ a ∧ a < Y 0 17
  · rw [if_neg (fun q => q c1)] at hP
    have hac : 0 ≤ a ∧ a < I (C + 14) 4 ∧ a < 30 := ⟨c1.1, by rw [e4]; exact c1.2, Int32.lt_of_lt_of_le c1.2 h17.2⟩
    have ap := aa_of hc c1.1 c1.2
    obtain ⟨-, ⟨ha, an0, a4n⟩, am, al⟩ := id ap
    have a0 : ((R (C + 15) a.toNatClampNeg) = 0) = False := eq_false an0
    have e12 : I (R (C + 15) a.toNatClampNeg) 12 = maY Y a := am
    have hp := hP I hH hu
    clear hP hc hu ap am al
    rw [a_enter1 (M := a_m96) rfl (a_cat_rf (a_cat_int a_cat_nil)) (show 2 ≤ 3 by decide)]
    show a_at _ (a_xm a_m96) 0 [some (a_rf C), some (.int a), none] [] _ _
    simp only [q96_0, q96_1, q96_4, q96_5, q96_8, q96_9, q96_10, q96_13, q96_14, q96_15, q96_18, q96_21, q96_22, q96_25, k_0 hS, z_C hS, r_0_4 hS, k_14 hS, z_14, sp_askAt hS gA, as_nil, as_i, as_r, Nat.reduceAdd, Nat.reduceLeDiff, z_eq0, z_eq1, z_or, z_em, Classical.not_not, not_false_eq_true, not_true_eq_false, true_and, and_true, false_and, and_false, and_self, true_implies, false_implies, implies_true, Option.toList_some, Option.toList_none, List.cons_append, List.nil_append, Nat.add_eq_zero_iff, a_nl_i, a_nl_r, a_nl_n, true_or, or_true, eq_self, a_isRA_22, a_isRA_24, a_isRA_32, a_isA_20, ok_4, ok_5, ok_6, ok_7, ok_9, ok_20, ok_21, ok_30, ok_50, ok_180, ok_192, ok_200, hac, ha, a0, e12]
    try simp only [true_and, and_true, true_implies, false_implies, implies_true, not_true_eq_false, not_false_eq_true]
    first
      | exact hp
      | grind
  · have hac : ¬ (0 ≤ a ∧ a < I (C + 14) 4 ∧ a < 30) := fun q => c1 ⟨q.1, by rw [← e4]; exact q.2.1⟩
    have hr : ∀ x, a_does (d + 69) 10 [a_rf C, .int (-1)] (n + 1, t, K, L, I, R) (fun r h' => a_at (d + 69) (a_xm a_m96) 18 [some (a_rf C), some (.int a), x] (r.toList ++ []) h' P) := fun x => by
      rw [if_pos c1] at hP
      refine ge_refuse (d := d + 68) hH hu (fun J z1 z2 => ?_)
      have hp := hP J z1 z2
      clear hP hc hu
      simp only [q96_18, q96_25, as_nil, as_i, as_r, Nat.reduceAdd, Nat.reduceLeDiff, z_eq0, z_eq1, z_or, z_em, Classical.not_not, not_false_eq_true, not_true_eq_false, true_and, and_true, false_and, and_false, and_self, true_implies, false_implies, implies_true, Option.toList_some, Option.toList_none, List.cons_append, List.nil_append, Nat.add_eq_zero_iff, a_nl_i, a_nl_r, a_nl_n, true_or, or_true, eq_self, a_isRA_22, a_isRA_24, a_isRA_32, a_isA_20, ok_4, ok_5, ok_6, ok_7, ok_9, ok_20, ok_21, ok_30, ok_50, ok_180, ok_192, ok_200]
      exact hp
    clear hP hc hu
    rw [a_enter1 (M := a_m96) rfl (a_cat_rf (a_cat_int a_cat_nil)) (show 2 ≤ 3 by decide)]
    show a_at _ (a_xm a_m96) 0 [some (a_rf C), some (.int a), none] [] _ _
    simp only [q96_0, q96_1, q96_4, q96_5, q96_8, q96_9, q96_10, q96_13, q96_14, q96_15, k_0 hS, z_C hS, r_0_4 hS, k_14 hS, z_14, sp_askAt hS gA, as_nil, as_i, as_r, Nat.reduceAdd, Nat.reduceLeDiff, z_eq0, z_eq1, z_or, z_em, Classical.not_not, not_false_eq_true, not_true_eq_false, true_and, and_true, false_and, and_false, and_self, true_implies, false_implies, implies_true, Option.toList_some, Option.toList_none, List.cons_append, List.nil_append, Nat.add_eq_zero_iff, a_nl_i, a_nl_r, a_nl_n, true_or, or_true, eq_self, a_isRA_22, a_isRA_24, a_isRA_32, a_isA_20, ok_4, ok_5, ok_6, ok_7, ok_9, ok_20, ok_21, ok_30, ok_50, ok_180, ok_192, ok_200, hac]
    try simp only [true_and, and_true, true_implies, false_implies, implies_true, not_true_eq_false, not_false_eq_true]
    first
      | exact hr _
      | grind
theorem ge_fit (hH : cH C c (n + 1) t K L I R) (hu : cuP C K L I R Y) {a b s : Int32} (hP : ∀ J, cH C c (n + 1) t K L J R → cuP C K L J R Y → P (some (.int (ftV Y a b s))) (n + 1, t, K, L, J, R)) : a_does (d + 70) 99 [a_rf C, .int a, .int b, .int s] (n + 1, t, K, L, I, R) P := by
  have hT := hH.1
  have hS := hT.s
  have gA := hT.g_asksR
  have gB := hT.g_benchesR
  have gX := hT.g_textsR
  have hc := hu.1
  have h17 := hc.2.2.2.2.2.2.2.2.1
  have e4 : I (C + 14) 4 = Y 0 17 := hc.2.2.1.1
  have h6 := hc.2.2.2.2.2.2.2.2.2.1
  have e5 : I (C + 14) 5 = Y 0 6 := hc.2.1.1
  unfold ftV at hP
  have hr1 : ¬ ((0 ≤ a ∧ a < Y 0 17) ∧ (0 ≤ b ∧ b < Y 0 6) ∧ (0 ≤ s ∧ s < 200)) → ∀ x, a_does (d + 69) 10 [a_rf C, .int (-1)] (n + 1, t, K, L, I, R) (fun r h' => a_at (d + 69) (a_xm a_m99) 38 [some (a_rf C), some (.int a), some (.int b), some (.int s), x] (r.toList ++ []) h' P) := fun q x => by
    rw [if_pos q] at hP
    refine ge_refuse (d := d + 68) hH hu (fun J z1 z2 => ?_)
    have hp := hP J z1 z2
    clear hP hc hu
    simp only [q99_38, as_nil, as_i, as_r, Nat.reduceAdd, Nat.reduceLeDiff, z_eq0, z_eq1, z_or, z_em, Classical.not_not, not_false_eq_true, not_true_eq_false, true_and, and_true, false_and, and_false, and_self, true_implies, false_implies, implies_true, Option.toList_some, Option.toList_none, List.cons_append, List.nil_append, Nat.add_eq_zero_iff, a_nl_i, a_nl_r, a_nl_n, true_or, or_true, eq_self, a_isRA_22, a_isRA_24, a_isRA_32, a_isA_20, ok_4, ok_5, ok_6, ok_7, ok_9, ok_20, ok_21, ok_30, ok_50, ok_180, ok_192, ok_200]
    exact hp
  by_cases c1 : 0 ≤ a ∧ a < Y 0 17
  ·
    have hac : 0 ≤ a ∧ a < I (C + 14) 4 ∧ a < 30 := ⟨c1.1, by rw [e4]; exact c1.2, Int32.lt_of_lt_of_le c1.2 h17.2⟩
    have ap := aa_of hc c1.1 c1.2
    obtain ⟨-, ⟨ha, an0, a4n⟩, am, al⟩ := id ap
    have a0 : ((R (C + 15) a.toNatClampNeg) = 0) = False := eq_false an0
    by_cases c2 : 0 ≤ b ∧ b < Y 0 6
    ·
      have hbc : 0 ≤ b ∧ b < I (C + 14) 5 ∧ b < 6 := ⟨c2.1, by rw [e5]; exact c2.2, Int32.lt_of_lt_of_le c2.2 h6.2⟩
      obtain ⟨kb, kb0, -⟩ := hc.2.1.2.2.1 b c2.1 c2.2
      have b0 : (R (C + 16) b.toNatClampNeg = 0) = False := eq_false kb0
      by_cases c3 : 0 ≤ s ∧ s < 200
      · rw [if_neg (fun q => q ⟨c1, c2, c3⟩)] at hP
        have hfb : a_does (d + 69) 100 [a_rf (C + 14), a_rf (R (C + 15) a.toNatClampNeg), .int b, .int s] (n + 1, t, K, L, I, R) (fun r h' => a_at (d + 69) (a_xm a_m99) 50 [some (a_rf C), some (.int a), some (.int b), some (.int s), some (a_rf (R (C + 15) a.toNatClampNeg))] (r.toList ++ []) h' P) := by
          refine ce_firstBar (d := d + 64) hT hc ap c2 ⟨c3.1, by clear hP hc hu ap al am hr1; grind⟩ (fun J hJ => ?_)
          have hS2 := hJ.1.s
          have hp := hP J (cH_J hH hJ.1) (cu_C hT hJ hu hH)
          clear hP hc hu ap al am hr1
          simp only [q99_50, as_nil, as_i, as_r, Nat.reduceAdd, Nat.reduceLeDiff, z_eq0, z_eq1, z_or, z_em, Classical.not_not, not_false_eq_true, not_true_eq_false, true_and, and_true, false_and, and_false, and_self, true_implies, false_implies, implies_true, Option.toList_some, Option.toList_none, List.cons_append, List.nil_append, Nat.add_eq_zero_iff, a_nl_i, a_nl_r, a_nl_n, true_or, or_true, eq_self, a_isRA_22, a_isRA_24, a_isRA_32, a_isA_20, ok_4, ok_5, ok_6, ok_7, ok_9, ok_20, ok_21, ok_30, ok_50, ok_180, ok_192, ok_200]
          exact hp
        clear hP hc hu ap al am hr1
        rw [a_enter1 (M := a_m99) rfl (a_cat_rf (a_cat_int (a_cat_int (a_cat_int a_cat_nil)))) (show 4 ≤ 5 by decide)]
        show a_at _ (a_xm a_m99) 0 [some (a_rf C), some (.int a), some (.int b), some (.int s), none] [] _ _
        simp only [q99_0, q99_1, q99_4, q99_5, q99_8, q99_10, q99_12, q99_15, q99_16, q99_19, q99_20, q99_23, q99_26, q99_27, q99_30, q99_39, q99_40, q99_43, q99_45, q99_46, q99_47, k_0 hS, z_C hS, r_0_4 hS, k_14 hS, z_14, sp_askAt hS gA, sp_benchAt hS gB, sp_isShiftC, as_nil, as_i, as_r, Nat.reduceAdd, Nat.reduceLeDiff, z_eq0, z_eq1, z_or, z_em, Classical.not_not, not_false_eq_true, not_true_eq_false, true_and, and_true, false_and, and_false, and_self, true_implies, false_implies, implies_true, Option.toList_some, Option.toList_none, List.cons_append, List.nil_append, Nat.add_eq_zero_iff, a_nl_i, a_nl_r, a_nl_n, true_or, or_true, eq_self, a_isRA_22, a_isRA_24, a_isRA_32, a_isA_20, ok_4, ok_5, ok_6, ok_7, ok_9, ok_20, ok_21, ok_30, ok_50, ok_180, ok_192, ok_200, hac, hbc, c3, ha, a0, b0]
        try simp only [true_and, and_true, true_implies, false_implies, implies_true, not_true_eq_false, not_false_eq_true]
        first
          | exact hfb
          | grind
      · have hr := hr1 (fun q => c3 q.2.2)
        clear ap al am
        clear hP hc hu hr1
        rw [a_enter1 (M := a_m99) rfl (a_cat_rf (a_cat_int (a_cat_int (a_cat_int a_cat_nil)))) (show 4 ≤ 5 by decide)]
        show a_at _ (a_xm a_m99) 0 [some (a_rf C), some (.int a), some (.int b), some (.int s), none] [] _ _
        simp only [q99_0, q99_1, q99_4, q99_5, q99_8, q99_10, q99_12, q99_15, q99_16, q99_19, q99_20, q99_23, q99_26, q99_27, q99_30, q99_33, q99_34, q99_35, k_0 hS, z_C hS, r_0_4 hS, k_14 hS, z_14, sp_askAt hS gA, sp_benchAt hS gB, sp_isShiftC, as_nil, as_i, as_r, Nat.reduceAdd, Nat.reduceLeDiff, z_eq0, z_eq1, z_or, z_em, Classical.not_not, not_false_eq_true, not_true_eq_false, true_and, and_true, false_and, and_false, and_self, true_implies, false_implies, implies_true, Option.toList_some, Option.toList_none, List.cons_append, List.nil_append, Nat.add_eq_zero_iff, a_nl_i, a_nl_r, a_nl_n, true_or, or_true, eq_self, a_isRA_22, a_isRA_24, a_isRA_32, a_isA_20, ok_4, ok_5, ok_6, ok_7, ok_9, ok_20, ok_21, ok_30, ok_50, ok_180, ok_192, ok_200, hac, hbc, c3, ha, a0, b0]
        try simp only [true_and, and_true, true_implies, false_implies, implies_true, not_true_eq_false, not_false_eq_true]
        first
          | exact hr _
          | grind
    · have hbc : ¬ (0 ≤ b ∧ b < I (C + 14) 5 ∧ b < 6) := fun q => c2 ⟨q.1, by rw [← e5]; exact q.2.1⟩
      have hr := hr1 (fun q => c2 q.2.1)
      clear ap al am
      clear hP hc hu hr1
      rw [a_enter1 (M := a_m99) rfl (a_cat_rf (a_cat_int (a_cat_int (a_cat_int a_cat_nil)))) (show 4 ≤ 5 by decide)]
      show a_at _ (a_xm a_m99) 0 [some (a_rf C), some (.int a), some (.int b), some (.int s), none] [] _ _
      simp only [q99_0, q99_1, q99_4, q99_5, q99_8, q99_10, q99_12, q99_15, q99_16, q99_19, q99_20, q99_23, q99_26, q99_27, q99_30, q99_33, q99_34, q99_35, k_0 hS, z_C hS, r_0_4 hS, k_14 hS, z_14, sp_askAt hS gA, sp_benchAt hS gB, sp_isShiftC, as_nil, as_i, as_r, Nat.reduceAdd, Nat.reduceLeDiff, z_eq0, z_eq1, z_or, z_em, Classical.not_not, not_false_eq_true, not_true_eq_false, true_and, and_true, false_and, and_false, and_self, true_implies, false_implies, implies_true, Option.toList_some, Option.toList_none, List.cons_append, List.nil_append, Nat.add_eq_zero_iff, a_nl_i, a_nl_r, a_nl_n, true_or, or_true, eq_self, a_isRA_22, a_isRA_24, a_isRA_32, a_isA_20, ok_4, ok_5, ok_6, ok_7, ok_9, ok_20, ok_21, ok_30, ok_50, ok_180, ok_192, ok_200, hac, hbc, ha, a0]
      try simp only [true_and, and_true, true_implies, false_implies, implies_true, not_true_eq_false, not_false_eq_true]
      first
        | exact hr _
        | grind
  · have hac : ¬ (0 ≤ a ∧ a < I (C + 14) 4 ∧ a < 30) := fun q => c1 ⟨q.1, by rw [← e4]; exact q.2.1⟩
    have hr := hr1 (fun q => c1 q.1)
    clear hP hc hu hr1
    rw [a_enter1 (M := a_m99) rfl (a_cat_rf (a_cat_int (a_cat_int (a_cat_int a_cat_nil)))) (show 4 ≤ 5 by decide)]
    show a_at _ (a_xm a_m99) 0 [some (a_rf C), some (.int a), some (.int b), some (.int s), none] [] _ _
    simp only [q99_0, q99_1, q99_4, q99_5, q99_8, q99_10, q99_12, q99_15, q99_16, q99_19, q99_20, q99_23, q99_26, q99_27, q99_30, q99_33, q99_34, q99_35, k_0 hS, z_C hS, r_0_4 hS, k_14 hS, z_14, sp_askAt hS gA, sp_benchAt hS gB, sp_isShiftC, as_nil, as_i, as_r, Nat.reduceAdd, Nat.reduceLeDiff, z_eq0, z_eq1, z_or, z_em, Classical.not_not, not_false_eq_true, not_true_eq_false, true_and, and_true, false_and, and_false, and_self, true_implies, false_implies, implies_true, Option.toList_some, Option.toList_none, List.cons_append, List.nil_append, Nat.add_eq_zero_iff, a_nl_i, a_nl_r, a_nl_n, true_or, or_true, eq_self, a_isRA_22, a_isRA_24, a_isRA_32, a_isA_20, ok_4, ok_5, ok_6, ok_7, ok_9, ok_20, ok_21, ok_30, ok_50, ok_180, ok_192, ok_200, hac]
    try simp only [true_and, and_true, true_implies, false_implies, implies_true, not_true_eq_false, not_false_eq_true]
    first
      | exact hr _
      | grind
end YQ0
section YQ1
variable {d n t M : Nat} {K L : Nat → Nat} {I I0 J J0 J1 J2 : Nat → Nat → Int32} {R : Nat → Nat → Nat} {P : Option Value → AH → Prop} {f : Nat → Int32} {e : Int32}
variable {Y Z W : Nat → Nat → Int32}
theorem xp_markOf (hS : m_S M K L R) {I1 : Nat → Nat → Int32} (hm : okY Y) {c : Nat} (hc : c + 130 ≤ 84000) (hF : mF M c I1 I) (hg : gs M I0 I Y) {a : Int32} (hP : ∀ J, mF M (c + 120) I1 J → gs M I0 J Y → P (some (.int (mkV Y a))) (n, t, K, L, J, R)) : a_does (d + 13) 216 [a_rf M, .int a] (n, t, K, L, I, R) P := by
  have hy := hm.1
  have h17 := hy.2.2.2.2.1
  have h10 := hy.2.1
  have h6 := hy.2.2.2.2.2.1
  have hl := hy.2.2.1
  have hrf : ∀ k : Nat, mF M (c + 120) I1 (a_ui I (M + 23) k (I (M + 23) k + 1)) ∧ gs M I0 (a_ui I (M + 23) k (I (M + 23) k + 1)) Y := fun k => ⟨mF_le (sF_refused hF) (by omega), gs_ui hg (sR_refused hg.1) (by omega) ⟨by unfold ps1; omega, by omega⟩⟩
  have e17 : I M 17 = Y 0 17 := hg.2.2.1 0 17 (by unfold ps1; omega)
  have e6 : I M 6 = Y 0 6 := hg.2.2.1 0 6 (by unfold ps1; omega)
  have e0 : I M 0 = Y 0 0 := hg.2.2.1 0 0 (by unfold ps1; omega)
  have m17 : ∀ x : Int32, (x ≤ Y 0 17 - 1) = (x < Y 0 17) := fun x => le_m1 h17
  have m6 : ∀ x : Int32, (x ≤ Y 0 6 - 1) = (x < Y 0 6) := fun x => le_m1 ⟨h6.1, Int32.le_trans h6.2 (by decide)⟩
  have m199 : ∀ x : Int32, (x ≤ 199) = (x < 200) := fun x => propext ⟨fun q => Int32.lt_of_le_of_lt q (by decide), fun q => by clear hP hrf hm hg hF; grind⟩
  unfold mkV at hP
  by_cases c1 : 0 ≤ a ∧ a < Y 0 17
  · have ha : 0 ≤ a ∧ a < 30 := ⟨c1.1, Int32.lt_of_lt_of_le c1.2 h17.2⟩
    rw [if_neg (fun q => q c1)] at hP
    have hcl : a_does (d + 12) 193 [a_rf M, .int a] (n, t, K, L, I, R) (fun r h' => a_at (d + 12) (a_xm a_m216) 13 [some (a_rf M), some (.int a)] (r.toList ++ []) h' P) := by
      refine xt_markFor (d := d + 10) hS hg.1 (moP_of hg.1 hm.2.1 hg.2.2).2.1 ha ?_
      have hp := hP I (mF_le hF (by omega)) hg
      have e : mkY (cmY (yv M I)) (hsY (yv M I)) a = maY Y a := by
        unfold maY
        rw [cmY_b (psE_b hg.2.2), hsY_b (psE_b hg.2.2)]
      rw [← e] at hp
      clear hP hrf hm hy hl hg hF e
      simp only [q216_13, q216_21, as_nil, as_i, as_r, Nat.reduceAdd, Nat.reduceLeDiff, z_eq0, z_eq1, z_or, z_em, Classical.not_not, not_false_eq_true, not_true_eq_false, true_and, and_true, false_and, and_false, and_self, true_implies, false_implies, implies_true, Option.toList_some, Option.toList_none, List.cons_append, List.nil_append, Nat.add_eq_zero_iff, a_nl_i, a_nl_r, a_nl_n, true_or, or_true, eq_self, ok_4, ok_5, ok_6, ok_7, ok_9, ok_10, ok_20, ok_21, ok_24, ok_30, ok_48, ok_50, ok_60, ok_80, ok_120, ok_180, ok_192, ok_200, ok_900, ok_1000, ok_84000]
      exact hp
    clear hP hrf hm hy hl hg hF
    rw [a_enter1 (M := a_m216) rfl (a_cat_rf (a_cat_int a_cat_nil)) (show 2 ≤ 2 by decide)]
    show a_at _ (a_xm a_m216) 0 [some (a_rf M), some (.int a)] [] _ _
    simp only [q216_0, q216_1, q216_2, q216_5, q216_8, q216_9, q216_10, m_0 hS, m_K hS, sp_isAsk hS, as_nil, as_i, as_r, Nat.reduceAdd, Nat.reduceLeDiff, z_eq0, z_eq1, z_or, z_em, Classical.not_not, not_false_eq_true, not_true_eq_false, true_and, and_true, false_and, and_false, and_self, true_implies, false_implies, implies_true, Option.toList_some, Option.toList_none, List.cons_append, List.nil_append, Nat.add_eq_zero_iff, a_nl_i, a_nl_r, a_nl_n, true_or, or_true, eq_self, ok_4, ok_5, ok_6, ok_7, ok_9, ok_10, ok_20, ok_21, ok_24, ok_30, ok_48, ok_50, ok_60, ok_80, ok_120, ok_180, ok_192, ok_200, ok_900, ok_1000, ok_84000, e17, m17, c1]
    try simp only [true_and, and_true, true_implies, false_implies, implies_true, not_true_eq_false, not_false_eq_true]
    first
      | exact hcl
      | grind
  · rw [if_pos c1] at hP
    have hr := hP _ (hrf 1).1 (hrf 1).2
    clear hP hrf hm hy hl hg hF
    rw [a_enter1 (M := a_m216) rfl (a_cat_rf (a_cat_int a_cat_nil)) (show 2 ≤ 2 by decide)]
    show a_at _ (a_xm a_m216) 0 [some (a_rf M), some (.int a)] [] _ _
    simp only [q216_0, q216_1, q216_2, q216_5, q216_16, q216_17, q216_18, q216_21, m_0 hS, m_K hS, sp_isAsk hS, sp_refuse_1 hS, sp_refuse_2 hS, sp_refuse_3 hS, sp_refuse_4 hS, sp_refuse_5 hS, sp_refuse_6 hS, as_nil, as_i, as_r, Nat.reduceAdd, Nat.reduceLeDiff, z_eq0, z_eq1, z_or, z_em, Classical.not_not, not_false_eq_true, not_true_eq_false, true_and, and_true, false_and, and_false, and_self, true_implies, false_implies, implies_true, Option.toList_some, Option.toList_none, List.cons_append, List.nil_append, Nat.add_eq_zero_iff, a_nl_i, a_nl_r, a_nl_n, true_or, or_true, eq_self, ok_4, ok_5, ok_6, ok_7, ok_9, ok_10, ok_20, ok_21, ok_24, ok_30, ok_48, ok_50, ok_60, ok_80, ok_120, ok_180, ok_192, ok_200, ok_900, ok_1000, ok_84000, e17, m17, c1]
    try simp only [true_and, and_true, true_implies, false_implies, implies_true, not_true_eq_false, not_false_eq_true]
    first
      | exact hr
      | grind
theorem xp_fit (hS : m_S M K L R) {I1 : Nat → Nat → Int32} (hm : okY Y) {c : Nat} (hc : c + 130 ≤ 84000) (hF : mF M c I1 I) (hg : gs M I0 I Y) {a b s : Int32} (hP : ∀ J, mF M (c + 120) I1 J → gs M I0 J Y → P (some (.int (ftV Y a b s))) (n, t, K, L, J, R)) : a_does (d + 13) 220 [a_rf M, .int a, .int b, .int s] (n, t, K, L, I, R) P := by
  have hy := hm.1
  have h17 := hy.2.2.2.2.1
  have h10 := hy.2.1
  have h6 := hy.2.2.2.2.2.1
  have hl := hy.2.2.1
  have hrf : ∀ k : Nat, mF M (c + 120) I1 (a_ui I (M + 23) k (I (M + 23) k + 1)) ∧ gs M I0 (a_ui I (M + 23) k (I (M + 23) k + 1)) Y := fun k => ⟨mF_le (sF_refused hF) (by omega), gs_ui hg (sR_refused hg.1) (by omega) ⟨by unfold ps1; omega, by omega⟩⟩
  have e17 : I M 17 = Y 0 17 := hg.2.2.1 0 17 (by unfold ps1; omega)
  have e6 : I M 6 = Y 0 6 := hg.2.2.1 0 6 (by unfold ps1; omega)
  have e0 : I M 0 = Y 0 0 := hg.2.2.1 0 0 (by unfold ps1; omega)
  have m17 : ∀ x : Int32, (x ≤ Y 0 17 - 1) = (x < Y 0 17) := fun x => le_m1 h17
  have m6 : ∀ x : Int32, (x ≤ Y 0 6 - 1) = (x < Y 0 6) := fun x => le_m1 ⟨h6.1, Int32.le_trans h6.2 (by decide)⟩
  have m199 : ∀ x : Int32, (x ≤ 199) = (x < 200) := fun x => propext ⟨fun q => Int32.lt_of_le_of_lt q (by decide), fun q => by clear hP hrf hm hg hF; grind⟩
  unfold ftV at hP
  by_cases c1 : (0 ≤ a ∧ a < Y 0 17) ∧ (0 ≤ b ∧ b < Y 0 6) ∧ (0 ≤ s ∧ s < 200)
  · have ha : 0 ≤ a ∧ a < 30 := ⟨c1.1.1, Int32.lt_of_lt_of_le c1.1.2 h17.2⟩
    have hb : 0 ≤ b ∧ b ≤ 5 := ⟨c1.2.1.1, by clear hP hrf hm hy hg hF; grind⟩
    have hs : 0 ≤ s ∧ s ≤ 199 := ⟨c1.2.2.1, by rw [m199]; exact c1.2.2.2⟩
    rw [if_neg (fun q => q c1)] at hP
    have hfit : a_does (d + 12) 221 [a_rf M, .int a, .int b, .int s] (n, t, K, L, I, R) (fun r h' => a_at (d + 12) (a_xm a_m220) 30 [some (a_rf M), some (.int a), some (.int b), some (.int s)] (r.toList ++ []) h' P) := by
      refine xt_fitOf (d := d + 2) hS (moP_of hg.1 hm.2.1 hg.2.2) (mC_refl hg.1) ha hb hs (fun J hJ => ?_)
      rw [ftY_p h17 h10 hg.2.2]
      have hp := hP J (mF_le (mF_C hF hJ) (by omega)) (gs_C hg hJ)
      clear hP hrf hm hy hl hg hF
      simp only [q220_30, q220_38, as_nil, as_i, as_r, Nat.reduceAdd, Nat.reduceLeDiff, z_eq0, z_eq1, z_or, z_em, Classical.not_not, not_false_eq_true, not_true_eq_false, true_and, and_true, false_and, and_false, and_self, true_implies, false_implies, implies_true, Option.toList_some, Option.toList_none, List.cons_append, List.nil_append, Nat.add_eq_zero_iff, a_nl_i, a_nl_r, a_nl_n, true_or, or_true, eq_self, ok_4, ok_5, ok_6, ok_7, ok_9, ok_10, ok_20, ok_21, ok_24, ok_30, ok_48, ok_50, ok_60, ok_80, ok_120, ok_180, ok_192, ok_200, ok_900, ok_1000, ok_84000]
      exact hp
    clear hP hrf hm hy hl hg hF
    rw [a_enter1 (M := a_m220) rfl (a_cat_rf (a_cat_int (a_cat_int (a_cat_int a_cat_nil)))) (show 4 ≤ 4 by decide)]
    show a_at _ (a_xm a_m220) 0 [some (a_rf M), some (.int a), some (.int b), some (.int s)] [] _ _
    simp only [q220_0, q220_1, q220_2, q220_5, q220_8, q220_9, q220_10, q220_13, q220_16, q220_17, q220_20, q220_23, q220_24, q220_25, q220_26, q220_27, m_0 hS, m_K hS, sp_isAsk hS, sp_isBench hS, sp_isShift, as_nil, as_i, as_r, Nat.reduceAdd, Nat.reduceLeDiff, z_eq0, z_eq1, z_or, z_em, Classical.not_not, not_false_eq_true, not_true_eq_false, true_and, and_true, false_and, and_false, and_self, true_implies, false_implies, implies_true, Option.toList_some, Option.toList_none, List.cons_append, List.nil_append, Nat.add_eq_zero_iff, a_nl_i, a_nl_r, a_nl_n, true_or, or_true, eq_self, ok_4, ok_5, ok_6, ok_7, ok_9, ok_10, ok_20, ok_21, ok_24, ok_30, ok_48, ok_50, ok_60, ok_80, ok_120, ok_180, ok_192, ok_200, ok_900, ok_1000, ok_84000, e17, m17, e6, m6, m199, c1, ha]
    try simp only [true_and, and_true, true_implies, false_implies, implies_true, not_true_eq_false, not_false_eq_true]
    first
      | exact hfit
      | grind
  · rw [if_pos c1] at hP
    have hr := hP _ (hrf 1).1 (hrf 1).2
    clear hP hrf hm hy hl hg hF
    rw [a_enter1 (M := a_m220) rfl (a_cat_rf (a_cat_int (a_cat_int (a_cat_int a_cat_nil)))) (show 4 ≤ 4 by decide)]
    show a_at _ (a_xm a_m220) 0 [some (a_rf M), some (.int a), some (.int b), some (.int s)] [] _ _
    simp only [q220_0, q220_1, q220_2, q220_5, q220_8, q220_9, q220_10, q220_13, q220_16, q220_17, q220_20, q220_33, q220_34, q220_35, q220_38, m_0 hS, m_K hS, sp_isAsk hS, sp_isBench hS, sp_isShift, sp_refuse_1 hS, sp_refuse_2 hS, sp_refuse_3 hS, sp_refuse_4 hS, sp_refuse_5 hS, sp_refuse_6 hS, as_nil, as_i, as_r, Nat.reduceAdd, Nat.reduceLeDiff, z_eq0, z_eq1, z_or, z_em, Classical.not_not, not_false_eq_true, not_true_eq_false, true_and, and_true, false_and, and_false, and_self, true_implies, false_implies, implies_true, Option.toList_some, Option.toList_none, List.cons_append, List.nil_append, Nat.add_eq_zero_iff, a_nl_i, a_nl_r, a_nl_n, true_or, or_true, eq_self, ok_4, ok_5, ok_6, ok_7, ok_9, ok_10, ok_20, ok_21, ok_24, ok_30, ok_48, ok_50, ok_60, ok_80, ok_120, ok_180, ok_192, ok_200, ok_900, ok_1000, ok_84000, e17, m17, e6, m6, m199]
    try simp only [true_and, and_true, true_implies, false_implies, implies_true, not_true_eq_false, not_false_eq_true]
    by_cases q1 : 0 ≤ a ∧ a < Y 0 17
    · by_cases q2 : 0 ≤ b ∧ b < Y 0 6
      · have q3 : ¬ (0 ≤ s ∧ s < 200) := fun q => c1 ⟨q1, q2, q⟩
        simp only [q1, q2, q3]
        try simp only [true_and, and_true, true_implies, false_implies, implies_true, not_true_eq_false, not_false_eq_true]
        first
          | exact hr
          | grind
      · simp only [q1, q2]
        try simp only [true_and, and_true, true_implies, false_implies, implies_true, not_true_eq_false, not_false_eq_true]
        first
          | exact hr
          | grind
    · simp only [q1]
      try simp only [true_and, and_true, true_implies, false_implies, implies_true, not_true_eq_false, not_false_eq_true]
      first
        | exact hr
        | grind
end YQ1
end
section
/-! why -/
section YR0
variable {d n t C c : Nat} {K L : Nat → Nat} {I I0 J J0 J1 J2 : Nat → Nat → Int32} {R : Nat → Nat → Nat} {P : Option Value → AH → Prop}
variable {Y Z W : Nat → Nat → Int32} {R' R1 : Nat → Nat → Nat} {K' L' : Nat → Nat}
theorem ge_why (hH : cH C c (n + 1) t K L I R) (hu : cuP C K L I R Y) {a b s f e : Int32} (hP : ∀ J, cH C c (n + 1) t K L J R → cuP C K L J R Y → P (some (.int (whV Y a b s f e))) (n + 1, t, K, L, J, R)) : a_does (d + 70) 127 [a_rf C, .int a, .int b, .int s, .int f, .int e] (n + 1, t, K, L, I, R) P := by
  have hT := hH.1
  have hS := hT.s
  have gA := hT.g_asksR
  have gB := hT.g_benchesR
  have gX := hT.g_textsR
  have hc := hu.1
  have h17 := hc.2.2.2.2.2.2.2.2.1
  have e4 : I (C + 14) 4 = Y 0 17 := hc.2.2.1.1
  have h6 := hc.2.2.2.2.2.2.2.2.2.1
  have e5 : I (C + 14) 5 = Y 0 6 := hc.2.1.1
  unfold whV at hP
  have hr1 : ¬ ((0 ≤ a ∧ a < Y 0 17) ∧ (0 ≤ b ∧ b < Y 0 6) ∧ ((0 ≤ f ∧ f < 200) ∧ (0 ≤ e ∧ e < 200) ∧ f ≤ e) ∧ f ≤ s ∧ s ≤ e) → ∀ x y, a_does (d + 69) 10 [a_rf C, .int (-1)] (n + 1, t, K, L, I, R) (fun r h' => a_at (d + 69) (a_xm a_m127) 53 [some (a_rf C), some (.int a), some (.int b), some (.int s), some (.int f), some (.int e), x, y] (r.toList ++ []) h' P) := fun q x y => by
    rw [if_pos q] at hP
    refine ge_refuse (d := d + 68) hH hu (fun J z1 z2 => ?_)
    have hp := hP J z1 z2
    clear hP hc hu
    simp only [q127_53, as_nil, as_i, as_r, Nat.reduceAdd, Nat.reduceLeDiff, z_eq0, z_eq1, z_or, z_em, Classical.not_not, not_false_eq_true, not_true_eq_false, true_and, and_true, false_and, and_false, and_self, true_implies, false_implies, implies_true, Option.toList_some, Option.toList_none, List.cons_append, List.nil_append, Nat.add_eq_zero_iff, a_nl_i, a_nl_r, a_nl_n, true_or, or_true, eq_self, a_isRA_22, a_isRA_24, a_isRA_32, a_isA_20, ok_4, ok_5, ok_6, ok_7, ok_9, ok_20, ok_21, ok_30, ok_50, ok_180, ok_192, ok_200]
    exact hp
  by_cases c1 : 0 ≤ a ∧ a < Y 0 17
  ·
    have hac : 0 ≤ a ∧ a < I (C + 14) 4 ∧ a < 30 := ⟨c1.1, by rw [e4]; exact c1.2, Int32.lt_of_lt_of_le c1.2 h17.2⟩
    have ap := aa_of hc c1.1 c1.2
    obtain ⟨-, ⟨ha, an0, a4n⟩, am, al⟩ := id ap
    have a0 : ((R (C + 15) a.toNatClampNeg) = 0) = False := eq_false an0
    by_cases c2 : 0 ≤ b ∧ b < Y 0 6
    ·
      have hbc : 0 ≤ b ∧ b < I (C + 14) 5 ∧ b < 6 := ⟨c2.1, by rw [e5]; exact c2.2, Int32.lt_of_lt_of_le c2.2 h6.2⟩
      obtain ⟨kb, kb0, -⟩ := hc.2.1.2.2.1 b c2.1 c2.2
      have b0 : (R (C + 16) b.toNatClampNeg = 0) = False := eq_false kb0
      by_cases c3 : (0 ≤ f ∧ f < 200) ∧ (0 ≤ e ∧ e < 200) ∧ f ≤ e
      · by_cases c4 : f ≤ s
        · have c4' : ¬ s < f := Int32.not_lt.mpr c4
          by_cases c5 : s ≤ e
          · have c5' : ¬ e < s := Int32.not_lt.mpr c5
            rw [if_neg (fun q => q ⟨c1, c2, c3, c4, c5⟩)] at hP
            have hfb : ∀ y, a_does (d + 69) 100 [a_rf (C + 14), a_rf (R (C + 15) a.toNatClampNeg), .int b, .int s] (n + 1, t, K, L, I, R) (fun r h' => a_at (d + 69) (a_xm a_m127) 65 [some (a_rf C), some (.int a), some (.int b), some (.int s), some (.int f), some (.int e), some (a_rf (R (C + 15) a.toNatClampNeg)), y] (r.toList ++ []) h' P) := fun y => by
              refine ce_firstBar (d := d + 64) hT hc ap c2 ⟨Int32.le_trans c3.1.1 c4, by clear hP hc hu ap al am hr1; grind⟩ (fun J hJ => ?_)
              have hT2 := hJ.1
              have hS2 := hT2.s
              have hH2 := cH_J hH hT2
              have hu2 := cu_C hT hJ hu hH
              have hp := hP J hH2 hu2
              by_cases cf : ftY Y a b s = 0
              · rw [if_pos cf] at hp
                have hin : a_does (d + 69) 123 [a_rf (C + 22), a_rf (R (C + 15) a.toNatClampNeg), .int f, .int e] (n + 1, t, K, L, J, R) (fun r h' => a_at (d + 69) (a_xm a_m127) 85 [some (a_rf C), some (.int a), some (.int b), some (.int s), some (.int f), some (.int e), some (a_rf (R (C + 15) a.toNatClampNeg)), some (.int (ftY Y a b s))] (r.toList ++ []) h' P) := by
                  refine ce_isInShare (d := d + 67) hT2 hu2.1 (aaP_C hT ap hJ) rfl hu2.2.2.1.1.1.1 ?_
                  by_cases cs : shB Y a f e = true
                  · rw [if_pos cs] at hp ⊢
                    have n10 : ¬ (1 : Int32) = 0 := by decide
                    clear hP hc hu ap al am hr1 hu2
                    simp only [q127_85, q127_88, q127_90, q127_93, q127_95, as_nil, as_i, as_r, Nat.reduceAdd, Nat.reduceLeDiff, z_eq0, z_eq1, z_or, z_em, Classical.not_not, not_false_eq_true, not_true_eq_false, true_and, and_true, false_and, and_false, and_self, true_implies, false_implies, implies_true, Option.toList_some, Option.toList_none, List.cons_append, List.nil_append, Nat.add_eq_zero_iff, a_nl_i, a_nl_r, a_nl_n, true_or, or_true, eq_self, a_isRA_22, a_isRA_24, a_isRA_32, a_isA_20, ok_4, ok_5, ok_6, ok_7, ok_9, ok_20, ok_21, ok_30, ok_50, ok_180, ok_192, ok_200, n10, cf]
                    try simp only [true_and, and_true, true_implies, false_implies, implies_true, not_true_eq_false, not_false_eq_true]
                    first
                      | exact hp
                      | grind
                  · rw [if_neg cs] at hp ⊢
                    clear hP hc hu ap al am hr1 hu2
                    simp only [q127_85, q127_88, q127_90, q127_93, q127_95, as_nil, as_i, as_r, Nat.reduceAdd, Nat.reduceLeDiff, z_eq0, z_eq1, z_or, z_em, Classical.not_not, not_false_eq_true, not_true_eq_false, true_and, and_true, false_and, and_false, and_self, true_implies, false_implies, implies_true, Option.toList_some, Option.toList_none, List.cons_append, List.nil_append, Nat.add_eq_zero_iff, a_nl_i, a_nl_r, a_nl_n, true_or, or_true, eq_self, a_isRA_22, a_isRA_24, a_isRA_32, a_isA_20, ok_4, ok_5, ok_6, ok_7, ok_9, ok_20, ok_21, ok_30, ok_50, ok_180, ok_192, ok_200]
                    try simp only [true_and, and_true, true_implies, false_implies, implies_true, not_true_eq_false, not_false_eq_true]
                    first
                      | exact hp
                      | grind
                rw [cf] at hin
                clear hP hc hu ap al am hr1 hu2 hp
                simp only [q127_65, q127_67, q127_69, q127_72, q127_73, q127_76, q127_78, q127_80, q127_82, k_0 hS2, z_C hS2, r_0_5 hS2, k_22 hS2, z_22, as_nil, as_i, as_r, Nat.reduceAdd, Nat.reduceLeDiff, z_eq0, z_eq1, z_or, z_em, Classical.not_not, not_false_eq_true, not_true_eq_false, true_and, and_true, false_and, and_false, and_self, true_implies, false_implies, implies_true, Option.toList_some, Option.toList_none, List.cons_append, List.nil_append, Nat.add_eq_zero_iff, a_nl_i, a_nl_r, a_nl_n, true_or, or_true, eq_self, a_isRA_22, a_isRA_24, a_isRA_32, a_isA_20, ok_4, ok_5, ok_6, ok_7, ok_9, ok_20, ok_21, ok_30, ok_50, ok_180, ok_192, ok_200, cf]
                try simp only [true_and, and_true, true_implies, false_implies, implies_true, not_true_eq_false, not_false_eq_true]
                first
                  | exact hin
                  | grind
              · rw [if_neg cf] at hp
                clear hP hc hu ap al am hr1 hu2
                simp only [q127_65, q127_67, q127_69, q127_93, q127_95, as_nil, as_i, as_r, Nat.reduceAdd, Nat.reduceLeDiff, z_eq0, z_eq1, z_or, z_em, Classical.not_not, not_false_eq_true, not_true_eq_false, true_and, and_true, false_and, and_false, and_self, true_implies, false_implies, implies_true, Option.toList_some, Option.toList_none, List.cons_append, List.nil_append, Nat.add_eq_zero_iff, a_nl_i, a_nl_r, a_nl_n, true_or, or_true, eq_self, a_isRA_22, a_isRA_24, a_isRA_32, a_isA_20, ok_4, ok_5, ok_6, ok_7, ok_9, ok_20, ok_21, ok_30, ok_50, ok_180, ok_192, ok_200, cf]
                try simp only [true_and, and_true, true_implies, false_implies, implies_true, not_true_eq_false, not_false_eq_true]
                first
                  | exact hp
                  | grind
            clear hP hc hu ap al am hr1
            rw [a_enter1 (M := a_m127) rfl (a_cat_rf (a_cat_int (a_cat_int (a_cat_int (a_cat_int (a_cat_int a_cat_nil)))))) (show 6 ≤ 8 by decide)]
            show a_at _ (a_xm a_m127) 0 [some (a_rf C), some (.int a), some (.int b), some (.int s), some (.int f), some (.int e), none, none] [] _ _
            simp only [q127_0, q127_1, q127_4, q127_5, q127_8, q127_10, q127_12, q127_15, q127_16, q127_19, q127_20, q127_23, q127_26, q127_28, q127_30, q127_33, q127_36, q127_37, q127_39, q127_42, q127_43, q127_45, q127_48, q127_49, q127_50, q127_53, q127_54, q127_55, q127_58, q127_60, q127_61, q127_62, k_0 hS, z_C hS, r_0_4 hS, k_14 hS, z_14, sp_askAt hS gA, sp_benchAt hS gB, sp_areShifts, as_nil, as_i, as_r, Nat.reduceAdd, Nat.reduceLeDiff, z_eq0, z_eq1, z_or, z_em, Classical.not_not, not_false_eq_true, not_true_eq_false, true_and, and_true, false_and, and_false, and_self, true_implies, false_implies, implies_true, Option.toList_some, Option.toList_none, List.cons_append, List.nil_append, Nat.add_eq_zero_iff, a_nl_i, a_nl_r, a_nl_n, true_or, or_true, eq_self, a_isRA_22, a_isRA_24, a_isRA_32, a_isA_20, ok_4, ok_5, ok_6, ok_7, ok_9, ok_20, ok_21, ok_30, ok_50, ok_180, ok_192, ok_200, hac, hbc, c3, c4, c4', c5, c5', ha, a0, b0]
            try simp only [true_and, and_true, true_implies, false_implies, implies_true, not_true_eq_false, not_false_eq_true]
            first
              | exact hfb _
              | grind
          · have c5' : e < s := Int32.not_le.mp c5
            have hr := hr1 (fun q => c5 q.2.2.2.2)
            clear hP hc hu ap al am hr1
            rw [a_enter1 (M := a_m127) rfl (a_cat_rf (a_cat_int (a_cat_int (a_cat_int (a_cat_int (a_cat_int a_cat_nil)))))) (show 6 ≤ 8 by decide)]
            show a_at _ (a_xm a_m127) 0 [some (a_rf C), some (.int a), some (.int b), some (.int s), some (.int f), some (.int e), none, none] [] _ _
            simp only [q127_0, q127_1, q127_4, q127_5, q127_8, q127_10, q127_12, q127_15, q127_16, q127_19, q127_20, q127_23, q127_26, q127_28, q127_30, q127_33, q127_36, q127_37, q127_39, q127_42, q127_43, q127_45, q127_48, q127_49, q127_50, k_0 hS, z_C hS, r_0_4 hS, k_14 hS, z_14, sp_askAt hS gA, sp_benchAt hS gB, sp_areShifts, as_nil, as_i, as_r, Nat.reduceAdd, Nat.reduceLeDiff, z_eq0, z_eq1, z_or, z_em, Classical.not_not, not_false_eq_true, not_true_eq_false, true_and, and_true, false_and, and_false, and_self, true_implies, false_implies, implies_true, Option.toList_some, Option.toList_none, List.cons_append, List.nil_append, Nat.add_eq_zero_iff, a_nl_i, a_nl_r, a_nl_n, true_or, or_true, eq_self, a_isRA_22, a_isRA_24, a_isRA_32, a_isA_20, ok_4, ok_5, ok_6, ok_7, ok_9, ok_20, ok_21, ok_30, ok_50, ok_180, ok_192, ok_200, hac, hbc, c3, c4, c4', c5, c5', ha, a0, b0]
            try simp only [true_and, and_true, true_implies, false_implies, implies_true, not_true_eq_false, not_false_eq_true]
            first
              | exact hr _ _
              | grind
        · have c4' : s < f := Int32.not_le.mp c4
          have hr := hr1 (fun q => c4 q.2.2.2.1)
          clear hP hc hu ap al am hr1
          rw [a_enter1 (M := a_m127) rfl (a_cat_rf (a_cat_int (a_cat_int (a_cat_int (a_cat_int (a_cat_int a_cat_nil)))))) (show 6 ≤ 8 by decide)]
          show a_at _ (a_xm a_m127) 0 [some (a_rf C), some (.int a), some (.int b), some (.int s), some (.int f), some (.int e), none, none] [] _ _
          simp only [q127_0, q127_1, q127_4, q127_5, q127_8, q127_10, q127_12, q127_15, q127_16, q127_19, q127_20, q127_23, q127_26, q127_28, q127_30, q127_33, q127_36, q127_37, q127_39, q127_42, q127_43, q127_45, q127_48, q127_49, q127_50, k_0 hS, z_C hS, r_0_4 hS, k_14 hS, z_14, sp_askAt hS gA, sp_benchAt hS gB, sp_areShifts, as_nil, as_i, as_r, Nat.reduceAdd, Nat.reduceLeDiff, z_eq0, z_eq1, z_or, z_em, Classical.not_not, not_false_eq_true, not_true_eq_false, true_and, and_true, false_and, and_false, and_self, true_implies, false_implies, implies_true, Option.toList_some, Option.toList_none, List.cons_append, List.nil_append, Nat.add_eq_zero_iff, a_nl_i, a_nl_r, a_nl_n, true_or, or_true, eq_self, a_isRA_22, a_isRA_24, a_isRA_32, a_isA_20, ok_4, ok_5, ok_6, ok_7, ok_9, ok_20, ok_21, ok_30, ok_50, ok_180, ok_192, ok_200, hac, hbc, c3, c4, c4', ha, a0, b0]
          try simp only [true_and, and_true, true_implies, false_implies, implies_true, not_true_eq_false, not_false_eq_true]
          first
            | exact hr _ _
            | grind
      · have hr := hr1 (fun q => c3 q.2.2.1)
        clear hP hc hu ap al am hr1
        rw [a_enter1 (M := a_m127) rfl (a_cat_rf (a_cat_int (a_cat_int (a_cat_int (a_cat_int (a_cat_int a_cat_nil)))))) (show 6 ≤ 8 by decide)]
        show a_at _ (a_xm a_m127) 0 [some (a_rf C), some (.int a), some (.int b), some (.int s), some (.int f), some (.int e), none, none] [] _ _
        simp only [q127_0, q127_1, q127_4, q127_5, q127_8, q127_10, q127_12, q127_15, q127_16, q127_19, q127_20, q127_23, q127_26, q127_28, q127_30, q127_33, q127_36, q127_37, q127_39, q127_42, q127_43, q127_45, q127_48, q127_49, q127_50, k_0 hS, z_C hS, r_0_4 hS, k_14 hS, z_14, sp_askAt hS gA, sp_benchAt hS gB, sp_areShifts, as_nil, as_i, as_r, Nat.reduceAdd, Nat.reduceLeDiff, z_eq0, z_eq1, z_or, z_em, Classical.not_not, not_false_eq_true, not_true_eq_false, true_and, and_true, false_and, and_false, and_self, true_implies, false_implies, implies_true, Option.toList_some, Option.toList_none, List.cons_append, List.nil_append, Nat.add_eq_zero_iff, a_nl_i, a_nl_r, a_nl_n, true_or, or_true, eq_self, a_isRA_22, a_isRA_24, a_isRA_32, a_isA_20, ok_4, ok_5, ok_6, ok_7, ok_9, ok_20, ok_21, ok_30, ok_50, ok_180, ok_192, ok_200, hac, hbc, c3, ha, a0, b0]
        try simp only [true_and, and_true, true_implies, false_implies, implies_true, not_true_eq_false, not_false_eq_true]
        first
          | exact hr _ _
          | grind
    · have hbc : ¬ (0 ≤ b ∧ b < I (C + 14) 5 ∧ b < 6) := fun q => c2 ⟨q.1, by rw [← e5]; exact q.2.1⟩
      have hr := hr1 (fun q => c2 q.2.1)
      clear hP hc hu ap al am hr1
      rw [a_enter1 (M := a_m127) rfl (a_cat_rf (a_cat_int (a_cat_int (a_cat_int (a_cat_int (a_cat_int a_cat_nil)))))) (show 6 ≤ 8 by decide)]
      show a_at _ (a_xm a_m127) 0 [some (a_rf C), some (.int a), some (.int b), some (.int s), some (.int f), some (.int e), none, none] [] _ _
      simp only [q127_0, q127_1, q127_4, q127_5, q127_8, q127_10, q127_12, q127_15, q127_16, q127_19, q127_20, q127_23, q127_26, q127_28, q127_30, q127_33, q127_36, q127_37, q127_39, q127_42, q127_43, q127_45, q127_48, q127_49, q127_50, k_0 hS, z_C hS, r_0_4 hS, k_14 hS, z_14, sp_askAt hS gA, sp_benchAt hS gB, sp_areShifts, as_nil, as_i, as_r, Nat.reduceAdd, Nat.reduceLeDiff, z_eq0, z_eq1, z_or, z_em, Classical.not_not, not_false_eq_true, not_true_eq_false, true_and, and_true, false_and, and_false, and_self, true_implies, false_implies, implies_true, Option.toList_some, Option.toList_none, List.cons_append, List.nil_append, Nat.add_eq_zero_iff, a_nl_i, a_nl_r, a_nl_n, true_or, or_true, eq_self, a_isRA_22, a_isRA_24, a_isRA_32, a_isA_20, ok_4, ok_5, ok_6, ok_7, ok_9, ok_20, ok_21, ok_30, ok_50, ok_180, ok_192, ok_200, hac, hbc, ha, a0]
      try simp only [true_and, and_true, true_implies, false_implies, implies_true, not_true_eq_false, not_false_eq_true]
      first
        | exact hr _ _
        | grind
  · have hac : ¬ (0 ≤ a ∧ a < I (C + 14) 4 ∧ a < 30) := fun q => c1 ⟨q.1, by rw [← e4]; exact q.2.1⟩
    have hr := hr1 (fun q => c1 q.1)
    clear hP hc hu hr1
    rw [a_enter1 (M := a_m127) rfl (a_cat_rf (a_cat_int (a_cat_int (a_cat_int (a_cat_int (a_cat_int a_cat_nil)))))) (show 6 ≤ 8 by decide)]
    show a_at _ (a_xm a_m127) 0 [some (a_rf C), some (.int a), some (.int b), some (.int s), some (.int f), some (.int e), none, none] [] _ _
    simp only [q127_0, q127_1, q127_4, q127_5, q127_8, q127_10, q127_12, q127_15, q127_16, q127_19, q127_20, q127_23, q127_26, q127_28, q127_30, q127_33, q127_36, q127_37, q127_39, q127_42, q127_43, q127_45, q127_48, q127_49, q127_50, k_0 hS, z_C hS, r_0_4 hS, k_14 hS, z_14, sp_askAt hS gA, sp_benchAt hS gB, sp_areShifts, as_nil, as_i, as_r, Nat.reduceAdd, Nat.reduceLeDiff, z_eq0, z_eq1, z_or, z_em, Classical.not_not, not_false_eq_true, not_true_eq_false, true_and, and_true, false_and, and_false, and_self, true_implies, false_implies, implies_true, Option.toList_some, Option.toList_none, List.cons_append, List.nil_append, Nat.add_eq_zero_iff, a_nl_i, a_nl_r, a_nl_n, true_or, or_true, eq_self, a_isRA_22, a_isRA_24, a_isRA_32, a_isA_20, ok_4, ok_5, ok_6, ok_7, ok_9, ok_20, ok_21, ok_30, ok_50, ok_180, ok_192, ok_200, hac]
    try simp only [true_and, and_true, true_implies, false_implies, implies_true, not_true_eq_false, not_false_eq_true]
    first
      | exact hr _ _
      | grind
end YR0
section YR1
variable {d n t M : Nat} {K L : Nat → Nat} {I I0 J J0 J1 J2 : Nat → Nat → Int32} {R : Nat → Nat → Nat} {P : Option Value → AH → Prop} {f : Nat → Int32} {e : Int32}
variable {Y Z W : Nat → Nat → Int32}
theorem xp_why (hS : m_S M K L R) {I1 : Nat → Nat → Int32} (hm : okY Y) {c : Nat} (hc : c + 130 ≤ 84000) (hF : mF M c I1 I) (hg : gs M I0 I Y) {a b s f e : Int32} (hP : ∀ J, mF M (c + 120) I1 J → gs M I0 J Y → P (some (.int (whV Y a b s f e))) (n, t, K, L, J, R)) : a_does (d + 13) 241 [a_rf M, .int a, .int b, .int s, .int f, .int e] (n, t, K, L, I, R) P := by
  have hy := hm.1
  have h17 := hy.2.2.2.2.1
  have h10 := hy.2.1
  have h6 := hy.2.2.2.2.2.1
  have hl := hy.2.2.1
  have hrf : ∀ k : Nat, mF M (c + 120) I1 (a_ui I (M + 23) k (I (M + 23) k + 1)) ∧ gs M I0 (a_ui I (M + 23) k (I (M + 23) k + 1)) Y := fun k => ⟨mF_le (sF_refused hF) (by omega), gs_ui hg (sR_refused hg.1) (by omega) ⟨by unfold ps1; omega, by omega⟩⟩
  have e17 : I M 17 = Y 0 17 := hg.2.2.1 0 17 (by unfold ps1; omega)
  have e6 : I M 6 = Y 0 6 := hg.2.2.1 0 6 (by unfold ps1; omega)
  have e0 : I M 0 = Y 0 0 := hg.2.2.1 0 0 (by unfold ps1; omega)
  have m17 : ∀ x : Int32, (x ≤ Y 0 17 - 1) = (x < Y 0 17) := fun x => le_m1 h17
  have m6 : ∀ x : Int32, (x ≤ Y 0 6 - 1) = (x < Y 0 6) := fun x => le_m1 ⟨h6.1, Int32.le_trans h6.2 (by decide)⟩
  have m199 : ∀ x : Int32, (x ≤ 199) = (x < 200) := fun x => propext ⟨fun q => Int32.lt_of_le_of_lt q (by decide), fun q => by clear hP hrf hm hg hF; grind⟩
  unfold whV at hP
  by_cases c1 : (0 ≤ a ∧ a < Y 0 17) ∧ (0 ≤ b ∧ b < Y 0 6) ∧ ((0 ≤ f ∧ f < 200) ∧ (0 ≤ e ∧ e < 200) ∧ f ≤ e) ∧ f ≤ s ∧ s ≤ e
  · obtain ⟨k1, k2, k3, k4, k5⟩ := c1
    have ha : 0 ≤ a ∧ a < 30 := ⟨k1.1, Int32.lt_of_lt_of_le k1.2 h17.2⟩
    have hb : 0 ≤ b ∧ b ≤ 5 := ⟨k2.1, by clear hP hrf hm hy hg hF; grind⟩
    have hs : 0 ≤ s ∧ s ≤ 199 := ⟨Int32.le_trans k3.1.1 k4, by clear hP hrf hm hy hg hF; grind⟩
    rw [if_neg (fun q => q ⟨k1, k2, k3, k4, k5⟩)] at hP
    have hfit : ∀ y, a_does (d + 12) 221 [a_rf M, .int a, .int b, .int s] (n, t, K, L, I, R) (fun r h' => a_at (d + 12) (a_xm a_m241) 50 [some (a_rf M), some (.int a), some (.int b), some (.int s), some (.int f), some (.int e), y] (r.toList ++ []) h' P) := fun y => by
      refine xt_fitOf (d := d + 2) hS (moP_of hg.1 hm.2.1 hg.2.2) (mC_refl hg.1) ha hb hs (fun J hJ => ?_)
      rw [ftY_p h17 h10 hg.2.2]
      have g1 := gs_C hg hJ
      have hp := hP J (mF_le (mF_C hF hJ) (by omega)) g1
      by_cases cf : ftY Y a b s = 0
      · rw [if_pos cf] at hp
        have hin : a_does (d + 12) 239 [a_rf M, .int a, .int f, .int e] (n, t, K, L, J, R) (fun r h' => a_at (d + 12) (a_xm a_m241) 71 [some (a_rf M), some (.int a), some (.int b), some (.int s), some (.int f), some (.int e), some (.int 0)] (r.toList ++ []) h' P) := by
          refine xt_isWithinShare (d := d + 10) hS g1 h17 ha ?_
          by_cases cs : shB Y a f e = true
          · rw [if_pos cs] at hp ⊢
            have n10 : ¬ (1 : Int32) = 0 := by decide
            clear hP hrf hm hy hl hg hF g1
            simp only [q241_71, q241_74, q241_75, q241_78, q241_80, as_nil, as_i, as_r, Nat.reduceAdd, Nat.reduceLeDiff, z_eq0, z_eq1, z_or, z_em, Classical.not_not, not_false_eq_true, not_true_eq_false, true_and, and_true, false_and, and_false, and_self, true_implies, false_implies, implies_true, Option.toList_some, Option.toList_none, List.cons_append, List.nil_append, Nat.add_eq_zero_iff, a_nl_i, a_nl_r, a_nl_n, true_or, or_true, eq_self, ok_4, ok_5, ok_6, ok_7, ok_9, ok_10, ok_20, ok_21, ok_24, ok_30, ok_48, ok_50, ok_60, ok_80, ok_120, ok_180, ok_192, ok_200, ok_900, ok_1000, ok_84000, n10]
            try simp only [true_and, and_true, true_implies, false_implies, implies_true, not_true_eq_false, not_false_eq_true]
            first
              | exact hp
              | grind
          · rw [if_neg cs] at hp ⊢
            clear hP hrf hm hy hl hg hF g1
            simp only [q241_71, q241_74, q241_75, q241_78, q241_80, as_nil, as_i, as_r, Nat.reduceAdd, Nat.reduceLeDiff, z_eq0, z_eq1, z_or, z_em, Classical.not_not, not_false_eq_true, not_true_eq_false, true_and, and_true, false_and, and_false, and_self, true_implies, false_implies, implies_true, Option.toList_some, Option.toList_none, List.cons_append, List.nil_append, Nat.add_eq_zero_iff, a_nl_i, a_nl_r, a_nl_n, true_or, or_true, eq_self, ok_4, ok_5, ok_6, ok_7, ok_9, ok_10, ok_20, ok_21, ok_24, ok_30, ok_48, ok_50, ok_60, ok_80, ok_120, ok_180, ok_192, ok_200, ok_900, ok_1000, ok_84000]
            try simp only [true_and, and_true, true_implies, false_implies, implies_true, not_true_eq_false, not_false_eq_true]
            first
              | exact hp
              | grind
        clear hP hrf hm hy hl hg hF g1 hp
        simp only [q241_50, q241_52, q241_54, q241_57, q241_59, q241_62, q241_63, q241_64, q241_66, q241_68, m_0 hS, m_K hS, as_nil, as_i, as_r, Nat.reduceAdd, Nat.reduceLeDiff, z_eq0, z_eq1, z_or, z_em, Classical.not_not, not_false_eq_true, not_true_eq_false, true_and, and_true, false_and, and_false, and_self, true_implies, false_implies, implies_true, Option.toList_some, Option.toList_none, List.cons_append, List.nil_append, Nat.add_eq_zero_iff, a_nl_i, a_nl_r, a_nl_n, true_or, or_true, eq_self, ok_4, ok_5, ok_6, ok_7, ok_9, ok_10, ok_20, ok_21, ok_24, ok_30, ok_48, ok_50, ok_60, ok_80, ok_120, ok_180, ok_192, ok_200, ok_900, ok_1000, ok_84000, cf]
        try simp only [true_and, and_true, true_implies, false_implies, implies_true, not_true_eq_false, not_false_eq_true]
        first
          | exact hin
          | grind
      · rw [if_neg cf] at hp
        clear hP hrf hm hy hl hg hF g1
        simp only [q241_50, q241_52, q241_54, q241_57, q241_59, q241_80, as_nil, as_i, as_r, Nat.reduceAdd, Nat.reduceLeDiff, z_eq0, z_eq1, z_or, z_em, Classical.not_not, not_false_eq_true, not_true_eq_false, true_and, and_true, false_and, and_false, and_self, true_implies, false_implies, implies_true, Option.toList_some, Option.toList_none, List.cons_append, List.nil_append, Nat.add_eq_zero_iff, a_nl_i, a_nl_r, a_nl_n, true_or, or_true, eq_self, ok_4, ok_5, ok_6, ok_7, ok_9, ok_10, ok_20, ok_21, ok_24, ok_30, ok_48, ok_50, ok_60, ok_80, ok_120, ok_180, ok_192, ok_200, ok_900, ok_1000, ok_84000, cf]
        try simp only [true_and, and_true, true_implies, false_implies, implies_true, not_true_eq_false, not_false_eq_true]
        first
          | exact hp
          | grind
    clear hP hrf hm hy hl hg hF
    rw [a_enter1 (M := a_m241) rfl (a_cat_rf (a_cat_int (a_cat_int (a_cat_int (a_cat_int (a_cat_int a_cat_nil)))))) (show 6 ≤ 7 by decide)]
    show a_at _ (a_xm a_m241) 0 [some (a_rf M), some (.int a), some (.int b), some (.int s), some (.int f), some (.int e), none] [] _ _
    simp only [q241_0, q241_1, q241_2, q241_5, q241_8, q241_9, q241_10, q241_13, q241_16, q241_18, q241_20, q241_23, q241_26, q241_27, q241_29, q241_31, q241_34, q241_37, q241_38, q241_39, q241_42, q241_43, q241_44, q241_45, q241_46, q241_47, m_0 hS, m_K hS, sp_isAsk hS, sp_isBench hS, sp_isSpan, sp_in, sp_refuse_1 hS, sp_refuse_2 hS, sp_refuse_3 hS, sp_refuse_4 hS, sp_refuse_5 hS, sp_refuse_6 hS, as_nil, as_i, as_r, Nat.reduceAdd, Nat.reduceLeDiff, z_eq0, z_eq1, z_or, z_em, Classical.not_not, not_false_eq_true, not_true_eq_false, true_and, and_true, false_and, and_false, and_self, true_implies, false_implies, implies_true, Option.toList_some, Option.toList_none, List.cons_append, List.nil_append, Nat.add_eq_zero_iff, a_nl_i, a_nl_r, a_nl_n, true_or, or_true, eq_self, ok_4, ok_5, ok_6, ok_7, ok_9, ok_10, ok_20, ok_21, ok_24, ok_30, ok_48, ok_50, ok_60, ok_80, ok_120, ok_180, ok_192, ok_200, ok_900, ok_1000, ok_84000, e17, m17, e6, m6, m199, k1, k2, k3, k4, k5, ha]
    try simp only [true_and, and_true, true_implies, false_implies, implies_true, not_true_eq_false, not_false_eq_true]
    first
      | exact hfit _
      | grind
  · rw [if_pos c1] at hP
    have hr := hP _ (hrf 1).1 (hrf 1).2
    clear hP hrf hm hy hl hg hF
    rw [a_enter1 (M := a_m241) rfl (a_cat_rf (a_cat_int (a_cat_int (a_cat_int (a_cat_int (a_cat_int a_cat_nil)))))) (show 6 ≤ 7 by decide)]
    show a_at _ (a_xm a_m241) 0 [some (a_rf M), some (.int a), some (.int b), some (.int s), some (.int f), some (.int e), none] [] _ _
    simp only [q241_0, q241_1, q241_2, q241_5, q241_8, q241_9, q241_10, q241_13, q241_16, q241_18, q241_20, q241_23, q241_26, q241_27, q241_29, q241_31, q241_34, q241_37, q241_38, q241_39, q241_42, m_0 hS, m_K hS, sp_isAsk hS, sp_isBench hS, sp_isSpan, sp_in, sp_refuse_1 hS, sp_refuse_2 hS, sp_refuse_3 hS, sp_refuse_4 hS, sp_refuse_5 hS, sp_refuse_6 hS, as_nil, as_i, as_r, Nat.reduceAdd, Nat.reduceLeDiff, z_eq0, z_eq1, z_or, z_em, Classical.not_not, not_false_eq_true, not_true_eq_false, true_and, and_true, false_and, and_false, and_self, true_implies, false_implies, implies_true, Option.toList_some, Option.toList_none, List.cons_append, List.nil_append, Nat.add_eq_zero_iff, a_nl_i, a_nl_r, a_nl_n, true_or, or_true, eq_self, ok_4, ok_5, ok_6, ok_7, ok_9, ok_10, ok_20, ok_21, ok_24, ok_30, ok_48, ok_50, ok_60, ok_80, ok_120, ok_180, ok_192, ok_200, ok_900, ok_1000, ok_84000, e17, m17, e6, m6, m199]
    try simp only [true_and, and_true, true_implies, false_implies, implies_true, not_true_eq_false, not_false_eq_true]
    by_cases q1 : 0 ≤ a ∧ a < Y 0 17
    · by_cases q2 : 0 ≤ b ∧ b < Y 0 6
      · by_cases q3 : (0 ≤ f ∧ f < 200) ∧ (0 ≤ e ∧ e < 200) ∧ f ≤ e
        · have q4 : ¬ (f ≤ s ∧ s ≤ e) := fun q => c1 ⟨q1, q2, q3, q.1, q.2⟩
          simp only [q1, q2, q3, q4]
          try simp only [true_and, and_true, true_implies, false_implies, implies_true, not_true_eq_false, not_false_eq_true]
          first
            | exact hr
            | grind
        · simp only [q1, q2, q3]
          try simp only [true_and, and_true, true_implies, false_implies, implies_true, not_true_eq_false, not_false_eq_true]
          first
            | exact hr
            | grind
      · simp only [q1, q2]
        try simp only [true_and, and_true, true_implies, false_implies, implies_true, not_true_eq_false, not_false_eq_true]
        first
          | exact hr
          | grind
    · simp only [q1]
      try simp only [true_and, and_true, true_implies, false_implies, implies_true, not_true_eq_false, not_false_eq_true]
      first
        | exact hr
        | grind
end YR1
end
section
/-! wish -/
section YS0
variable {d n t C c : Nat} {K L : Nat → Nat} {I I0 J J0 J1 J2 : Nat → Nat → Int32} {R : Nat → Nat → Nat} {P : Option Value → AH → Prop}
variable {Y Z W : Nat → Nat → Int32} {R' R1 : Nat → Nat → Nat} {K' L' : Nat → Nat}
theorem bq_xor (x y : Int32) (i : Nat) : bq (x ^^^ y) i = (bq x i ^^ bq y i) := by unfold bq; rw [Int32.toBitVec_xor, BitVec.getLsbD_xor]
theorem bq_m1 : ∀ i, i < 32 → bq (-1) i = true := by decide +kernel
theorem bq_clr {k i : Nat} (hk : k < 32) (hi : i < 32) (x : Int32) : bq (x &&& (((1 : Int32) <<< (Int32.ofNat k &&& 31)) ^^^ (-1))) i = (bq x i && !decide (i = k)) := by
  rw [bq_and, bq_xor, bq_m1 i hi, bq_shl hk _ hi, bq_1 _ (by omega)]
  by_cases e : i = k
  · subst e; simp
  · by_cases h : k ≤ i
    · rw [decide_eq_false (show ¬ i - k = 0 by omega), decide_eq_false e]; simp
    · rw [decide_eq_false h, decide_eq_false e]; simp
theorem ix_900 {a o : Int32} (ha : 0 ≤ a ∧ a < 30) (ho : 0 ≤ o ∧ o < 30) : (30 * a + o).toNatClampNeg = (30 * a.toNatClampNeg + o.toNatClampNeg) ∧ (0 ≤ 30 * a + o ∧ 30 * a + o < 900) ∧ a.toNatClampNeg < 30 ∧ o.toNatClampNeg < 30 := by
  have c0 : (0 : Int32).toInt = 0 := rfl
  have c30 : (30 : Int32).toInt = 30 := rfl
  have c9 : (900 : Int32).toInt = 900 := rfl
  have a0 := Int32.le_iff_toInt_le.mp ha.1
  have a1 := Int32.lt_iff_toInt_lt.mp ha.2
  have o0 := Int32.le_iff_toInt_le.mp ho.1
  have o1 := Int32.lt_iff_toInt_lt.mp ho.2
  rw [c0] at a0 o0
  rw [c30] at a1 o1
  have e1 : (30 * a).toInt = 30 * a.toInt := by rw [Int32.toInt_mul, c30, in_bm (by omega) (by omega)]
  have e2 : (30 * a + o).toInt = 30 * a.toInt + o.toInt := by rw [Int32.toInt_add, e1, in_bm (by omega) (by omega)]
  refine ⟨?_, ⟨by rw [Int32.le_iff_toInt_le, e2, c0]; omega, by rw [Int32.lt_iff_toInt_lt, e2, c9]; omega⟩, ?_, ?_⟩
  · show (30 * a + o).toInt.toNat = 30 * a.toInt.toNat + o.toInt.toNat
    rw [e2]
    omega
  · show a.toInt.toNat < 30
    omega
  · show o.toInt.toNat < 30
    omega
def wsY (Y : Nat → Nat → Int32) (a o w : Int32) : Int32 × (Nat → Nat → Int32) := if ¬ ((0 ≤ a ∧ a < Y 0 17) ∧ (0 ≤ o ∧ o < Y 0 17) ∧ ¬ a = o) then (-1, Y) else (if Y 47 (30 * a.toNatClampNeg + o.toNatClampNeg) = w then 0 else 1, upY Y 47 (30 * a.toNatClampNeg + o.toNatClampNeg) w)
theorem ss_47 {k : Nat} {v : Int32} : sbE Y (upY Y 47 k v) := fun x j p => up_no (by unfold sb at p; omega)
theorem wsh_cu {m : Nat} (hH : cH C c m t K L I R) (hu : cuP C K L I R Y) {a o w : Int32} (ha : 0 ≤ a ∧ a < Y 0 17) (ho : 0 ≤ o ∧ o < Y 0 17) (hw : w = 0 ∨ w = 1) {v : Int32} (hv : ∀ i, i < 32 → (bq v i = true ↔ if i = o.toNatClampNeg then ¬ w = 0 else bq (I (C + 36) a.toNatClampNeg) i = true)) : cuP C K L (a_ui I (C + 36) a.toNatClampNeg v) R (upY Y 47 (30 * a.toNatClampNeg + o.toNatClampNeg) w) := by
  have hT := hH.1
  have hS := hT.s
  have hc := hu.1
  have h17 := hc.2.2.2.2.2.2.2.2.1
  have hy := hc.2.2.2.2
  obtain ⟨ex, -, a30, o30⟩ := ix_900 ⟨ha.1, Int32.lt_of_lt_of_le ha.2 h17.2⟩ ⟨ho.1, Int32.lt_of_lt_of_le ho.2 h17.2⟩
  have aT := cl_lt ha.1 ha.2
  have zn : ∀ {x i}, ¬ x = 47 → upY Y 47 (30 * a.toNatClampNeg + o.toNatClampNeg) w x i = Y x i := fun h => up_no (fun q => h q.1)
  have zr : ∀ x, ¬ x = 47 → upY Y 47 (30 * a.toNatClampNeg + o.toNatClampNeg) w x = Y x := fun x h => funext (fun i => zn h)
  have cin : ∀ k, ¬ k = 36 → ∀ m, a_ui I (C + 36) a.toNatClampNeg v (C + k) m = I (C + k) m := fun k hk m => by rw [ui_ap, if_neg (by omega)]
  have c0 : a_ui I (C + 36) a.toNatClampNeg v C 10 = I C 10 := cin 0 (by omega) 10
  have hc1 := cp_sc hT hc (k := 36) (j := a.toNatClampNeg) (v := v) (by omega) (by omega)
  have hT1 : cT C K L (a_ui I (C + 36) a.toNatClampNeg v) R := sT_Circle_wishes hT
  have hc2 : cpP C K L (a_ui I (C + 36) a.toNatClampNeg v) R (upY Y 47 (30 * a.toNatClampNeg + o.toNatClampNeg) w) := by
    refine cp_mk hT1 hc1 ss_47 ?_ (fun _ _ => ⟨rfl, rfl⟩) (fun _ _ _ _ _ _ _ => rfl) (fun _ _ _ => rfl) (fun _ _ _ _ _ => rfl) (fun _ _ _ _ => rfl) (fun _ _ _ => rfl) (fun _ _ _ _ => rfl) (fun i i0 i1 => ?_) ?_
    · have := hy.2.2.2.2.2.2.1
      unfold inP at this ⊢
      rw [zr 20 (by omega), zr 21 (by omega), zr 10 (by omega)]
      exact this
    · rw [zr 20 (by omega), zr 21 (by omega)]
      exact (hc1.2.2.1.2.2.2 i i0 i1).2.2.2.1
    · have := hc1.2.1.2.2.2
      unfold plP at this ⊢
      rw [zr 20 (by omega), zr 21 (by omega), zr 10 (by omega), zr 22 (by omega), zr 0 (by omega)]
      exact this
  obtain ⟨-, hse, ⟨⟨⟨h1, h2⟩, h3, h4, h5, h6⟩, ⟨⟨t1, t2⟩, ⟨t3, t4⟩, t5, t6⟩, ⟨d1, d2⟩, ⟨y1, y2, y3, y4, y5, y6, y7, y8⟩⟩, hno, hst⟩ := hu
  refine ⟨hc2, se_b hse ss_47, ⟨⟨⟨by rw [cin _ (by omega), zr 0 (by omega)]; exact h1, by rw [cin _ (by omega), zr 0 (by omega)]; exact h2⟩, fun k hk => by rw [cin _ (by omega), zr 38 (by omega), zr 36 (by omega)]; exact h3 k hk, fun r g hr' hg => by rw [cin _ (by omega), zr 35 (by omega)]; exact h4 r g hr' hg, fun r a hr' ha => by rw [cin _ (by omega), zr 37 (by omega)]; exact h5 r a hr' ha, fun x p hx hp => ?_⟩, ⟨⟨by rw [cin _ (by omega), zr 0 (by omega)]; exact t1, fun j hj => by rw [zr 0 (by omega)] at hj; rw [cin _ (by omega), cin _ (by omega), cin _ (by omega), zr 2 (by omega), zr 3 (by omega), zr 4 (by omega)]; exact t2 j hj⟩, ⟨by rw [cin _ (by omega), zr 0 (by omega)]; exact t3, fun j => by rw [cin _ (by omega), zr 27 (by omega)]; exact t4 j⟩, by rw [c0, zr 0 (by omega)]; exact t5, fun j hj => by rw [zr 0 (by omega)] at hj; rw [cin _ (by omega), zr 52 (by omega)]; exact t6 j hj⟩, ⟨by rw [zr 0 (by omega)]; exact d1, fun hd => ?_⟩, ?_⟩, ?_, ?_⟩
  · by_cases e : x = a.toNatClampNeg
    · rw [e, ui_ap, if_pos ⟨rfl, rfl⟩, hv p (by omega)]
      by_cases e2 : p = o.toNatClampNeg
      · rw [if_pos e2, e2, up_at]
      · rw [if_neg e2, up_no (by omega)]
        exact h6 _ p a30 hp
    · rw [ui_ap, if_neg (fun q => e q.2), up_no (by omega)]
      exact h6 x p hx hp
  · obtain ⟨e1, e2, e3, e4⟩ := d2 hd
    have g1 := (hT.g_ask _ e1).1
    have ej : ∀ j, a_ui I (C + 36) a.toNatClampNeg v (R C 11) j = I (R C 11) j := fun j => by rw [ui_ap, if_neg (by omega)]
    simp only [ej, zr 0 (by decide)]
    exact ⟨e1, e2, e3, e4⟩
  · refine ⟨fun k => ?_, fun r a => ?_, fun a => ?_, fun x p hx hp hle => ?_, fun q hq => ?_, fun j hj => ?_, fun k => ?_, fun j hj => ?_⟩
    · rw [zr 38 (by omega), zr 37 (by omega)]
      exact y1 k
    · rw [zr 0 (by omega), zr 37 (by omega)]
      exact y2 r a
    · rw [zr 37 (by omega)]
      exact y3 a
    · rw [zr 0 (by omega)] at hle
      rw [up_no (by omega)]
      exact y4 x p hx hp hle
    · rw [zr 0 (by omega)] at hq
      rw [wt_b ss_47, zr 29 (by omega)]
      exact y5 q hq
    · rw [zr 0 (by omega)] at hj
      rw [zr 2 (by omega), zr 3 (by omega)]
      exact y6 j hj
    · by_cases e : k = (30 * a.toNatClampNeg + o.toNatClampNeg)
      · rw [e, up_at]
        exact hw
      · rw [up_no (fun q => e q.2)]
        exact y7 k
    · rw [zr 0 (by omega)] at hj ⊢
      rw [zr 4 (by omega)]
      exact y8 j hj
  · unfold noP
    rw [zr 20 (by omega), zr 21 (by omega)]
    exact hno
  · have q := stP_f hc hst (J := a_ui I (C + 36) a.toNatClampNeg v) (R' := R) (fun x hx => by have := (hT.g_txt x hx).1; rw [ui_ap, if_neg (by omega)]) (fun _ => rfl)
    unfold stP at q ⊢
    rw [zr 0 (by omega), zr 31 (by omega)]
    exact q
theorem ge_wish (hH : cH C c (n + 1) t K L I R) (hu : cuP C K L I R Y) {a o w : Int32} (hw : w = 0 ∨ w = 1) (hP : ∀ n' t' K' L' J R', cH C c (n' + 1) t' K' L' J R' → cuP C K' L' J R' (wsY Y a o w).2 → P (some (.int (wsY Y a o w).1)) (n' + 1, t', K', L', J, R')) : a_does (d + 70) 147 [a_rf C, .int a, .int o, .int w] (n + 1, t, K, L, I, R) P := by
  have hT := hH.1
  have hS := hT.s
  have gA := hT.g_asksR
  have gB := hT.g_benchesR
  have gX := hT.g_textsR
  have hc := hu.1
  have h17 := hc.2.2.2.2.2.2.2.2.1
  have e4 : I (C + 14) 4 = Y 0 17 := hc.2.2.1.1
  unfold wsY at hP
  have hr1 : ¬ ((0 ≤ a ∧ a < Y 0 17) ∧ (0 ≤ o ∧ o < Y 0 17) ∧ ¬ a = o) → a_does (d + 69) 10 [a_rf C, .int (-1)] (n + 1, t, K, L, I, R) (fun r h' => a_at (d + 69) (a_xm a_m147) 32 [some (a_rf C), some (.int a), some (.int o), some (.int w)] (r.toList ++ []) h' P) := fun q => by
    rw [if_pos q] at hP
    refine ge_refuse (d := d + 68) hH hu (fun J z1 z2 => ?_)
    have hp := hP n t K L J R z1 z2
    clear hP hc hu
    simp only [q147_32, as_nil, as_i, as_r, Nat.reduceAdd, Nat.reduceLeDiff, z_eq0, z_eq1, z_or, z_em, Classical.not_not, not_false_eq_true, not_true_eq_false, true_and, and_true, false_and, and_false, and_self, true_implies, false_implies, implies_true, Option.toList_some, Option.toList_none, List.cons_append, List.nil_append, Nat.add_eq_zero_iff, a_nl_i, a_nl_r, a_nl_n, true_or, or_true, eq_self, a_isRA_22, a_isRA_24, a_isRA_32, a_isA_20, ok_4, ok_5, ok_6, ok_7, ok_9, ok_20, ok_21, ok_30, ok_50, ok_180, ok_192, ok_200]
    exact hp
  by_cases c1 : 0 ≤ a ∧ a < Y 0 17
  · have hac : 0 ≤ a ∧ a < I (C + 14) 4 ∧ a < 30 := ⟨c1.1, by rw [e4]; exact c1.2, Int32.lt_of_lt_of_le c1.2 h17.2⟩
    have a0 : (R (C + 15) a.toNatClampNeg = 0) = False := eq_false (aa_of hc c1.1 c1.2).2.1.2.1
    by_cases c2 : 0 ≤ o ∧ o < Y 0 17
    · have hoc : 0 ≤ o ∧ o < I (C + 14) 4 ∧ o < 30 := ⟨c2.1, by rw [e4]; exact c2.2, Int32.lt_of_lt_of_le c2.2 h17.2⟩
      have o0 : (R (C + 15) o.toNatClampNeg = 0) = False := eq_false (aa_of hc c2.1 c2.2).2.1.2.1
      by_cases c3 : a = o
      · have hr := hr1 (fun q => q.2.2 c3)
        clear hP hc hu hr1
        rw [a_enter1 (M := a_m147) rfl (a_cat_rf (a_cat_int (a_cat_int (a_cat_int a_cat_nil)))) (show 4 ≤ 4 by decide)]
        show a_at _ (a_xm a_m147) 0 [some (a_rf C), some (.int a), some (.int o), some (.int w)] [] _ _
        simp only [q147_0, q147_1, q147_4, q147_5, q147_8, q147_11, q147_12, q147_15, q147_16, q147_19, q147_22, q147_23, q147_24, q147_27, q147_28, q147_29, k_0 hS, z_C hS, r_0_4 hS, k_14 hS, z_14, sp_askAt hS gA, as_nil, as_i, as_r, Nat.reduceAdd, Nat.reduceLeDiff, z_eq0, z_eq1, z_or, z_em, Classical.not_not, not_false_eq_true, not_true_eq_false, true_and, and_true, false_and, and_false, and_self, true_implies, false_implies, implies_true, Option.toList_some, Option.toList_none, List.cons_append, List.nil_append, Nat.add_eq_zero_iff, a_nl_i, a_nl_r, a_nl_n, true_or, or_true, eq_self, a_isRA_22, a_isRA_24, a_isRA_32, a_isA_20, ok_4, ok_5, ok_6, ok_7, ok_9, ok_20, ok_21, ok_30, ok_50, ok_180, ok_192, ok_200, hac, hoc, a0, o0, c3]
        try simp only [true_and, and_true, true_implies, false_implies, implies_true, not_true_eq_false, not_false_eq_true]
        rw [c3] at hr hac
        first
          | exact hr
          | grind
      · rw [if_neg (fun q => q ⟨c1, c2, c3⟩)] at hP
        obtain ⟨ex, -, a30, o30⟩ := ix_900 ⟨hac.1, hac.2.2⟩ ⟨hoc.1, hoc.2.2⟩
        have h6 := hu.2.2.1.1.2.2.2.2 a.toNatClampNeg o.toNatClampNeg a30 o30
        have h7 := hu.2.2.1.2.2.2.2.2.2.2.2.2.1 (30 * a.toNatClampNeg + o.toNatClampNeg)
        have hcl : a_does (d + 69) 148 [a_rf (C + 35), .int a, .int o, .int w] (n + 1, t, K, L, I, R) (fun r h' => a_at (d + 69) (a_xm a_m147) 43 [some (a_rf C), some (.int a), some (.int o), some (.int w)] (r.toList ++ []) h' P) := by
          have hp := fun v hv => hP n t K L (a_ui I (C + 36) a.toNatClampNeg v) R (cH_J hH (sT_Circle_wishes hT)) (wsh_cu hH hu c1 c2 hw hv)
          have hbit : ((I (C + 36) a.toNatClampNeg >>> (o &&& 31)) &&& 1 = 0) = (Y 47 (30 * a.toNatClampNeg + o.toNatClampNeg) = 0) := by
            have q := bq_at (k := o.toNatClampNeg) (by omega) (I (C + 36) a.toNatClampNeg)
            rw [← on_cl c2.1] at q
            rw [q]
            refine propext ⟨fun e => Classical.byContradiction (fun n => ?_), fun e => ?_⟩
            · rw [h6.mpr n] at e
              cases e
            · cases e2 : bq (I (C + 36) a.toNatClampNeg) o.toNatClampNeg with
              | false => rfl
              | true => exact absurd e (h6.mp e2)
          have hset : ∀ i, i < 32 → bq (I (C + 36) a.toNatClampNeg ||| ((1 : Int32) <<< (o &&& 31))) i = (bq (I (C + 36) a.toNatClampNeg) i || decide (i = o.toNatClampNeg)) := fun i hi => by
            have q := bq_set (k := o.toNatClampNeg) (i := i) (by omega) hi (I (C + 36) a.toNatClampNeg)
            rw [← on_cl c2.1] at q
            exact q
          have hclr : ∀ i, i < 32 → bq (I (C + 36) a.toNatClampNeg &&& (((1 : Int32) <<< (o &&& 31)) ^^^ (-1))) i = (bq (I (C + 36) a.toNatClampNeg) i && !decide (i = o.toNatClampNeg)) := fun i hi => by
            have q := bq_clr (k := o.toNatClampNeg) (i := i) (by omega) hi (I (C + 36) a.toNatClampNeg)
            rw [← on_cl c2.1] at q
            exact q
          have n10 : ¬ (1 : Int32) = 0 := by decide
          have n01 : ¬ (0 : Int32) = 1 := by decide
          have p1 := fun e : w = 1 => hp _ (fun i hi => by
            rw [hset i hi, e]
            by_cases q : i = o.toNatClampNeg
            · rw [if_pos q, decide_eq_true q, Bool.or_true]
              exact ⟨fun _ => n10, fun _ => rfl⟩
            · rw [if_neg q, decide_eq_false q, Bool.or_false])
          have p0 := fun e : w = 0 => hp _ (fun i hi => by
            rw [hclr i hi, e]
            by_cases q : i = o.toNatClampNeg
            · rw [if_pos q, decide_eq_true q, Bool.not_true, Bool.and_false]
              exact ⟨fun z => absurd z Bool.false_ne_true, fun z => absurd rfl z⟩
            · rw [if_neg q, decide_eq_false q, Bool.not_false, Bool.and_true])
          clear hP hc hu hr1 hp hset hclr h6
          rw [a_enter1 (M := a_m148) rfl (a_cat_rf (a_cat_int (a_cat_int (a_cat_int a_cat_nil)))) (show 4 ≤ 5 by decide)]
          show a_at _ (a_xm a_m148) 0 [some (a_rf (C + 35)), some (.int a), some (.int o), some (.int w), none] [] _ _
          rcases hw with e | e
          · have p0 := p0 e
            subst e
            clear p1
            rcases h7 with e7 | e7
            · rw [e7] at p0 hbit
              simp only [q148_0, q148_1, q148_4, q148_5, q148_6, q148_7, q148_8, q148_9, q148_10, q148_13, q148_14, q148_17, q148_18, q148_20, q148_21, q148_24, q148_25, q148_28, q148_29, q148_30, q148_31, q148_32, q148_33, q148_34, q148_35, q148_36, q148_39, q148_40, q148_43, q148_44, q148_45, q148_46, q148_47, q148_48, q148_49, q148_50, q148_51, q148_52, q148_53, q148_55, q148_56, q148_59, q148_60, q148_63, q148_64, k_35 hS, z_35, r_35_1 hS, k_36 hS, l_36 hS, z_36, q147_43, q147_46, q147_47, q147_50, q147_51, as_nil, as_i, as_r, Nat.reduceAdd, Nat.reduceLeDiff, z_eq0, z_eq1, z_or, z_em, Classical.not_not, not_false_eq_true, not_true_eq_false, true_and, and_true, false_and, and_false, and_self, true_implies, false_implies, implies_true, Option.toList_some, Option.toList_none, List.cons_append, List.nil_append, Nat.add_eq_zero_iff, a_nl_i, a_nl_r, a_nl_n, true_or, or_true, eq_self, a_isRA_22, a_isRA_24, a_isRA_32, a_isA_20, ok_4, ok_5, ok_6, ok_7, ok_9, ok_20, ok_21, ok_30, ok_50, ok_180, ok_192, ok_200, hac, hbit, n10, n01]
              try simp only [true_and, and_true, true_implies, false_implies, implies_true, not_true_eq_false, not_false_eq_true]
              first
                | exact p0
                | grind
            · rw [e7] at p0 hbit
              simp only [q148_0, q148_1, q148_4, q148_5, q148_6, q148_7, q148_8, q148_9, q148_10, q148_13, q148_14, q148_17, q148_18, q148_20, q148_21, q148_24, q148_25, q148_28, q148_29, q148_30, q148_31, q148_32, q148_33, q148_34, q148_35, q148_36, q148_39, q148_40, q148_43, q148_44, q148_45, q148_46, q148_47, q148_48, q148_49, q148_50, q148_51, q148_52, q148_53, q148_55, q148_56, q148_59, q148_60, q148_63, q148_64, k_35 hS, z_35, r_35_1 hS, k_36 hS, l_36 hS, z_36, q147_43, q147_46, q147_47, q147_50, q147_51, as_nil, as_i, as_r, Nat.reduceAdd, Nat.reduceLeDiff, z_eq0, z_eq1, z_or, z_em, Classical.not_not, not_false_eq_true, not_true_eq_false, true_and, and_true, false_and, and_false, and_self, true_implies, false_implies, implies_true, Option.toList_some, Option.toList_none, List.cons_append, List.nil_append, Nat.add_eq_zero_iff, a_nl_i, a_nl_r, a_nl_n, true_or, or_true, eq_self, a_isRA_22, a_isRA_24, a_isRA_32, a_isA_20, ok_4, ok_5, ok_6, ok_7, ok_9, ok_20, ok_21, ok_30, ok_50, ok_180, ok_192, ok_200, hac, hbit, n10, n01]
              try simp only [true_and, and_true, true_implies, false_implies, implies_true, not_true_eq_false, not_false_eq_true]
              first
                | exact p0
                | grind
          · have p1 := p1 e
            subst e
            clear p0
            rcases h7 with e7 | e7
            · rw [e7] at p1 hbit
              simp only [q148_0, q148_1, q148_4, q148_5, q148_6, q148_7, q148_8, q148_9, q148_10, q148_13, q148_14, q148_17, q148_18, q148_20, q148_21, q148_24, q148_25, q148_28, q148_29, q148_30, q148_31, q148_32, q148_33, q148_34, q148_35, q148_36, q148_39, q148_40, q148_43, q148_44, q148_45, q148_46, q148_47, q148_48, q148_49, q148_50, q148_51, q148_52, q148_53, q148_55, q148_56, q148_59, q148_60, q148_63, q148_64, k_35 hS, z_35, r_35_1 hS, k_36 hS, l_36 hS, z_36, q147_43, q147_46, q147_47, q147_50, q147_51, as_nil, as_i, as_r, Nat.reduceAdd, Nat.reduceLeDiff, z_eq0, z_eq1, z_or, z_em, Classical.not_not, not_false_eq_true, not_true_eq_false, true_and, and_true, false_and, and_false, and_self, true_implies, false_implies, implies_true, Option.toList_some, Option.toList_none, List.cons_append, List.nil_append, Nat.add_eq_zero_iff, a_nl_i, a_nl_r, a_nl_n, true_or, or_true, eq_self, a_isRA_22, a_isRA_24, a_isRA_32, a_isA_20, ok_4, ok_5, ok_6, ok_7, ok_9, ok_20, ok_21, ok_30, ok_50, ok_180, ok_192, ok_200, hac, hbit, n10, n01]
              try simp only [true_and, and_true, true_implies, false_implies, implies_true, not_true_eq_false, not_false_eq_true]
              first
                | exact p1
                | grind
            · rw [e7] at p1 hbit
              simp only [q148_0, q148_1, q148_4, q148_5, q148_6, q148_7, q148_8, q148_9, q148_10, q148_13, q148_14, q148_17, q148_18, q148_20, q148_21, q148_24, q148_25, q148_28, q148_29, q148_30, q148_31, q148_32, q148_33, q148_34, q148_35, q148_36, q148_39, q148_40, q148_43, q148_44, q148_45, q148_46, q148_47, q148_48, q148_49, q148_50, q148_51, q148_52, q148_53, q148_55, q148_56, q148_59, q148_60, q148_63, q148_64, k_35 hS, z_35, r_35_1 hS, k_36 hS, l_36 hS, z_36, q147_43, q147_46, q147_47, q147_50, q147_51, as_nil, as_i, as_r, Nat.reduceAdd, Nat.reduceLeDiff, z_eq0, z_eq1, z_or, z_em, Classical.not_not, not_false_eq_true, not_true_eq_false, true_and, and_true, false_and, and_false, and_self, true_implies, false_implies, implies_true, Option.toList_some, Option.toList_none, List.cons_append, List.nil_append, Nat.add_eq_zero_iff, a_nl_i, a_nl_r, a_nl_n, true_or, or_true, eq_self, a_isRA_22, a_isRA_24, a_isRA_32, a_isA_20, ok_4, ok_5, ok_6, ok_7, ok_9, ok_20, ok_21, ok_30, ok_50, ok_180, ok_192, ok_200, hac, hbit, n10, n01]
              try simp only [true_and, and_true, true_implies, false_implies, implies_true, not_true_eq_false, not_false_eq_true]
              first
                | exact p1
                | grind
        clear hP hc hu hr1
        rw [a_enter1 (M := a_m147) rfl (a_cat_rf (a_cat_int (a_cat_int (a_cat_int a_cat_nil)))) (show 4 ≤ 4 by decide)]
        show a_at _ (a_xm a_m147) 0 [some (a_rf C), some (.int a), some (.int o), some (.int w)] [] _ _
        simp only [q147_0, q147_1, q147_4, q147_5, q147_8, q147_11, q147_12, q147_15, q147_16, q147_19, q147_22, q147_23, q147_24, q147_27, q147_28, q147_29, q147_32, q147_33, q147_34, q147_37, q147_38, q147_39, q147_40, k_0 hS, z_C hS, r_0_4 hS, k_14 hS, z_14, r_0_7 hS, k_35 hS, z_35, sp_askAt hS gA, as_nil, as_i, as_r, Nat.reduceAdd, Nat.reduceLeDiff, z_eq0, z_eq1, z_or, z_em, Classical.not_not, not_false_eq_true, not_true_eq_false, true_and, and_true, false_and, and_false, and_self, true_implies, false_implies, implies_true, Option.toList_some, Option.toList_none, List.cons_append, List.nil_append, Nat.add_eq_zero_iff, a_nl_i, a_nl_r, a_nl_n, true_or, or_true, eq_self, a_isRA_22, a_isRA_24, a_isRA_32, a_isA_20, ok_4, ok_5, ok_6, ok_7, ok_9, ok_20, ok_21, ok_30, ok_50, ok_180, ok_192, ok_200, hac, hoc, a0, o0, c3]
        try simp only [true_and, and_true, true_implies, false_implies, implies_true, not_true_eq_false, not_false_eq_true]
        first
          | exact hcl
          | grind
    · have hoc : ¬ (0 ≤ o ∧ o < I (C + 14) 4 ∧ o < 30) := fun q => c2 ⟨q.1, by rw [← e4]; exact q.2.1⟩
      have hr := hr1 (fun q => c2 q.2.1)
      clear hP hc hu hr1
      rw [a_enter1 (M := a_m147) rfl (a_cat_rf (a_cat_int (a_cat_int (a_cat_int a_cat_nil)))) (show 4 ≤ 4 by decide)]
      show a_at _ (a_xm a_m147) 0 [some (a_rf C), some (.int a), some (.int o), some (.int w)] [] _ _
      simp only [q147_0, q147_1, q147_4, q147_5, q147_8, q147_11, q147_12, q147_15, q147_16, q147_19, q147_22, q147_23, q147_24, q147_27, q147_28, q147_29, k_0 hS, z_C hS, r_0_4 hS, k_14 hS, z_14, sp_askAt hS gA, as_nil, as_i, as_r, Nat.reduceAdd, Nat.reduceLeDiff, z_eq0, z_eq1, z_or, z_em, Classical.not_not, not_false_eq_true, not_true_eq_false, true_and, and_true, false_and, and_false, and_self, true_implies, false_implies, implies_true, Option.toList_some, Option.toList_none, List.cons_append, List.nil_append, Nat.add_eq_zero_iff, a_nl_i, a_nl_r, a_nl_n, true_or, or_true, eq_self, a_isRA_22, a_isRA_24, a_isRA_32, a_isA_20, ok_4, ok_5, ok_6, ok_7, ok_9, ok_20, ok_21, ok_30, ok_50, ok_180, ok_192, ok_200, hac, hoc, a0]
      try simp only [true_and, and_true, true_implies, false_implies, implies_true, not_true_eq_false, not_false_eq_true]
      first
        | exact hr
        | grind
  · have hac : ¬ (0 ≤ a ∧ a < I (C + 14) 4 ∧ a < 30) := fun q => c1 ⟨q.1, by rw [← e4]; exact q.2.1⟩
    have hr := hr1 (fun q => c1 q.1)
    clear hP hc hu hr1
    rw [a_enter1 (M := a_m147) rfl (a_cat_rf (a_cat_int (a_cat_int (a_cat_int a_cat_nil)))) (show 4 ≤ 4 by decide)]
    show a_at _ (a_xm a_m147) 0 [some (a_rf C), some (.int a), some (.int o), some (.int w)] [] _ _
    simp only [q147_0, q147_1, q147_4, q147_5, q147_8, q147_11, q147_12, q147_15, q147_16, q147_19, q147_22, q147_23, q147_24, q147_27, q147_28, q147_29, k_0 hS, z_C hS, r_0_4 hS, k_14 hS, z_14, sp_askAt hS gA, as_nil, as_i, as_r, Nat.reduceAdd, Nat.reduceLeDiff, z_eq0, z_eq1, z_or, z_em, Classical.not_not, not_false_eq_true, not_true_eq_false, true_and, and_true, false_and, and_false, and_self, true_implies, false_implies, implies_true, Option.toList_some, Option.toList_none, List.cons_append, List.nil_append, Nat.add_eq_zero_iff, a_nl_i, a_nl_r, a_nl_n, true_or, or_true, eq_self, a_isRA_22, a_isRA_24, a_isRA_32, a_isA_20, ok_4, ok_5, ok_6, ok_7, ok_9, ok_20, ok_21, ok_30, ok_50, ok_180, ok_192, ok_200, hac]
    try simp only [true_and, and_true, true_implies, false_implies, implies_true, not_true_eq_false, not_false_eq_true]
    first
      | exact hr
      | grind
end YS0
end

/-! the class's public calls -/
section YL0
variable {d n t C c : Nat} {K L : Nat → Nat} {I I0 J J0 J1 J2 : Nat → Nat → Int32} {R : Nat → Nat → Nat} {P : Option Value → AH → Prop}
variable {Y Z W : Nat → Nat → Int32} {R' R1 : Nat → Nat → Nat} {K' L' : Nat → Nat}
theorem ge_refuse (hH : cH C c (n + 1) t K L I R) (hu : cuP C K L I R Y) {v : Int32} (hP : ∀ J, cH C c (n + 1) t K L J R → cuP C K L J R Y → P (some (.int v)) (n + 1, t, K, L, J, R)) : a_does (d + 1) 10 [a_rf C, .int v] (n + 1, t, K, L, I, R) P := by
  have hT := hH.1
  have hS := hT.s
  have hw : ∀ k w, P (some (.int v)) (n + 1, t, K, L, (a_ui I (C + 42) k w), R) := fun k w => hP _ (cH_J hH (sT_BeamHall_refused hT)) (cu_42 hT hu hH)
  have hw0 := hP I hH hu
  clear hP hu hH hT
  rw [a_enter1 (M := a_m10) rfl (a_cat_rf (a_cat_int a_cat_nil)) (show 2 ≤ 2 by decide)]
  show a_at _ (a_xm a_m10) 0 [some (a_rf C), some (.int v)] [] _ _
  repeat' first
    | with_reducible apply And.intro
    | with_reducible assumption
    | with_reducible intro _
    | with_reducible apply hw0
    | with_reducible apply hw
    | simp only [q10_0, q10_1, q10_4, q10_5, q10_7, q10_10, q10_11, q10_14, q10_15, q10_16, q10_17, q10_18, q10_19, q10_20, q10_21, q10_22, k_0 hS, z_C hS, r_0_8 hS, k_42 hS, l_42 hS, z_42, as_nil, as_i, as_r, Nat.reduceAdd, Nat.reduceLeDiff, z_eq0, z_eq1, z_or, z_em, Classical.not_not, not_false_eq_true, not_true_eq_false, true_and, and_true, false_and, and_false, and_self, true_implies, false_implies, implies_true, Option.toList_some, Option.toList_none, List.cons_append, List.nil_append, Nat.add_eq_zero_iff, a_nl_i, a_nl_r, a_nl_n, true_or, or_true, eq_self, a_isRA_22, a_isRA_24, a_isRA_32, a_isA_20, ok_4, ok_5, ok_6, ok_7, ok_9, ok_20, ok_21, ok_30, ok_50, ok_180, ok_192, ok_200]
  all_goals ((try clear ih); (try clear hP); (try clear hl); (try clear hq); (try clear a3); grind [ui_ap])
theorem cu_Q {m n' : Nat} (hH : cH C c m t K L I R) (hu : cuP C K L I R Y) (hQ : dQ C m K L I R n' K' L' J R') (hc : cpP C K' L' J R' Z) (hse : seP C R' Y) (hs : ssE Y Z) {i : Int32} (hi : 0 ≤ i ∧ i < Y 0 17) (hz : aZ K (R (C + 15) i.toNatClampNeg) I J) (hno : noP Z) : cuP C K' L' J R' Z := ⟨hc, se_b hse (ss_b hs), siP_ss hs (siP_z hH.1 hu.2.2.1 (fz_Q (fz_refl hH) hH.1 hQ (no_not i hi.1 hi.2) hz)), hno, stP_ss hs (stP_z hH.1 hu.1 hu.2.2.2.2 (fz_Q (fz_refl hH) hH.1 hQ (no_not i hi.1 hi.2) hz))⟩
/-- take, give -/
def tkY (Y : Nat → Nat → Int32) (a : Int32) : Int32 × (Nat → Nat → Int32) := if ¬ (0 ≤ a ∧ a < Y 0 17) then (-1, Y) else if ¬ (0 ≤ Y 20 a.toNatClampNeg ∧ ¬ Y 21 a.toNatClampNeg * 8 < Y 0 0) then (-3, Y) else (1, unY Y a)
def gvY (Y : Nat → Nat → Int32) (a b s : Int32) : Int32 × (Nat → Nat → Int32) := if ¬ ((0 ≤ a ∧ a < Y 0 17) ∧ (0 ≤ b ∧ b < Y 0 6) ∧ (0 ≤ s ∧ s < 200)) then (-1, Y) else if ¬ Y 18 a.toNatClampNeg = 0 ∨ 0 ≤ Y 20 a.toNatClampNeg ∨ ¬ ftY Y a b s = 0 then (-3, Y) else (1, puY Y a b s)
def plO (Y : Nat → Nat → Int32) (a b : Int32) : Int32 × (Nat → Nat → Int32) := if ¬ ((0 ≤ a ∧ a < 200) ∧ (0 ≤ b ∧ b < 200) ∧ a ≤ b) then (-1, Y) else (Int32.ofNat ((orP Y).2 - (plY Y a b).2.1), (plY Y a b).1)
theorem ge_take (hH : cH C c (n + 1) t K L I R) (hu : cuP C K L I R Y) {a : Int32} (hP : ∀ n' t' K' L' J R', cH C c (n' + 1) t' K' L' J R' → cuP C K' L' J R' (tkY Y a).2 → P (some (.int (tkY Y a).1)) (n' + 1, t', K', L', J, R')) : a_does (d + 70) 116 [a_rf C, .int a] (n + 1, t, K, L, I, R) P := by
  have hT := hH.1
  have hS := hT.s
  have gA := hT.g_asksR
  have gB := hT.g_benchesR
  have gX := hT.g_textsR
  have hc := hu.1
  have h17 := hc.2.2.2.2.2.2.2.2.1
  have e4 : I (C + 14) 4 = Y 0 17 := hc.2.2.1.1
  have en : I (C + 1) 6 = Y 0 0 := hc.1.1
  unfold tkY at hP
  by_cases c1 : 0 ≤ a ∧ a < Y 0 17
  · rw [if_neg (fun q => q c1)] at hP
    have hac : 0 ≤ a ∧ a < I (C + 14) 4 ∧ a < 30 := ⟨c1.1, by rw [e4]; exact c1.2, Int32.lt_of_lt_of_le c1.2 h17.2⟩
    have ap := aa_of hc c1.1 c1.2
    obtain ⟨-, ⟨ha, an0, a4n⟩, am, al⟩ := id ap
    have a0 : (R (C + 15) a.toNatClampNeg = 0) = False := eq_false an0
    have e13 : I (R (C + 15) a.toNatClampNeg) 13 = Y 20 a.toNatClampNeg := al.2.2.2.1.1
    have e14 : I (R (C + 15) a.toNatClampNeg) 14 = Y 21 a.toNatClampNeg := al.2.2.2.1.2
    by_cases c2 : 0 ≤ Y 20 a.toNatClampNeg ∧ ¬ Y 21 a.toNatClampNeg * 8 < Y 0 0
    · rw [if_neg (fun q => q c2)] at hP
      have hcl : a_does (d + 69) 45 [a_rf (C + 14), a_rf (R (C + 15) a.toNatClampNeg)] (n + 1, t, K, L, I, R) (fun r h' => a_at (d + 69) (a_xm a_m116) 45 [some (a_rf C), some (.int a), some (a_rf (R (C + 15) a.toNatClampNeg))] (r.toList ++ []) h' P) := by
        refine ce_clear (d := d + 64) hH hc hu.2.1 ap rfl (fun n' t' K' L' J R' hH' hQ hc' hse' h15 haz => ?_) c2.1
        have hp := hP n' t' K' L' J R' hH' (cu_Q hH hu hQ hc' hse' ss_un c1 haz (no_un hu.2.2.2.1))
        clear hP hc ap al am hu
        simp only [q116_45, q116_46, as_nil, as_i, as_r, Nat.reduceAdd, Nat.reduceLeDiff, z_eq0, z_eq1, z_or, z_em, Classical.not_not, not_false_eq_true, not_true_eq_false, true_and, and_true, false_and, and_false, and_self, true_implies, false_implies, implies_true, Option.toList_some, Option.toList_none, List.cons_append, List.nil_append, Nat.add_eq_zero_iff, a_nl_i, a_nl_r, a_nl_n, true_or, or_true, eq_self, a_isRA_22, a_isRA_24, a_isRA_32, a_isA_20, ok_4, ok_5, ok_6, ok_7, ok_9, ok_20, ok_21, ok_30, ok_50, ok_180, ok_192, ok_200]
        exact hp
      clear hP hc ap al am hu
      rw [a_enter1 (M := a_m116) rfl (a_cat_rf (a_cat_int a_cat_nil)) (show 2 ≤ 3 by decide)]
      show a_at _ (a_xm a_m116) 0 [some (a_rf C), some (.int a), none] [] _ _
      simp only [q116_0, q116_1, q116_4, q116_5, q116_8, q116_9, q116_10, q116_19, q116_20, q116_23, q116_24, q116_27, q116_37, q116_38, q116_41, q116_42, k_0 hS, z_C hS, r_0_4 hS, k_14 hS, z_14, sp_askAt hS gA, sp_mayMove hS, as_nil, as_i, as_r, Nat.reduceAdd, Nat.reduceLeDiff, z_eq0, z_eq1, z_or, z_em, Classical.not_not, not_false_eq_true, not_true_eq_false, true_and, and_true, false_and, and_false, and_self, true_implies, false_implies, implies_true, Option.toList_some, Option.toList_none, List.cons_append, List.nil_append, Nat.add_eq_zero_iff, a_nl_i, a_nl_r, a_nl_n, true_or, or_true, eq_self, a_isRA_22, a_isRA_24, a_isRA_32, a_isA_20, ok_4, ok_5, ok_6, ok_7, ok_9, ok_20, ok_21, ok_30, ok_50, ok_180, ok_192, ok_200, hac, ha, a0, e13, e14, en, c2]
      try simp only [true_and, and_true, true_implies, false_implies, implies_true, not_true_eq_false, not_false_eq_true]
      first
        | exact hcl
        | grind
    · rw [if_pos c2] at hP
      have hr : a_does (d + 69) 10 [a_rf C, .int (-3)] (n + 1, t, K, L, I, R) (fun r h' => a_at (d + 69) (a_xm a_m116) 36 [some (a_rf C), some (.int a), some (a_rf (R (C + 15) a.toNatClampNeg))] (r.toList ++ []) h' P) := by
        refine ge_refuse (d := d + 68) hH hu (fun J z1 z2 => ?_)
        have hp := hP n t K L J R z1 z2
        clear hP hc ap al am hu
        simp only [q116_36, as_nil, as_i, as_r, Nat.reduceAdd, Nat.reduceLeDiff, z_eq0, z_eq1, z_or, z_em, Classical.not_not, not_false_eq_true, not_true_eq_false, true_and, and_true, false_and, and_false, and_self, true_implies, false_implies, implies_true, Option.toList_some, Option.toList_none, List.cons_append, List.nil_append, Nat.add_eq_zero_iff, a_nl_i, a_nl_r, a_nl_n, true_or, or_true, eq_self, a_isRA_22, a_isRA_24, a_isRA_32, a_isA_20, ok_4, ok_5, ok_6, ok_7, ok_9, ok_20, ok_21, ok_30, ok_50, ok_180, ok_192, ok_200]
        exact hp
      clear hP hc ap al am hu
      rw [a_enter1 (M := a_m116) rfl (a_cat_rf (a_cat_int a_cat_nil)) (show 2 ≤ 3 by decide)]
      show a_at _ (a_xm a_m116) 0 [some (a_rf C), some (.int a), none] [] _ _
      simp only [q116_0, q116_1, q116_4, q116_5, q116_8, q116_9, q116_10, q116_19, q116_20, q116_23, q116_24, q116_27, q116_30, q116_31, q116_33, k_0 hS, z_C hS, r_0_4 hS, k_14 hS, z_14, sp_askAt hS gA, sp_mayMove hS, as_nil, as_i, as_r, Nat.reduceAdd, Nat.reduceLeDiff, z_eq0, z_eq1, z_or, z_em, Classical.not_not, not_false_eq_true, not_true_eq_false, true_and, and_true, false_and, and_false, and_self, true_implies, false_implies, implies_true, Option.toList_some, Option.toList_none, List.cons_append, List.nil_append, Nat.add_eq_zero_iff, a_nl_i, a_nl_r, a_nl_n, true_or, or_true, eq_self, a_isRA_22, a_isRA_24, a_isRA_32, a_isA_20, ok_4, ok_5, ok_6, ok_7, ok_9, ok_20, ok_21, ok_30, ok_50, ok_180, ok_192, ok_200, hac, ha, a0, e13, e14, en, c2]
      try simp only [true_and, and_true, true_implies, false_implies, implies_true, not_true_eq_false, not_false_eq_true]
      first
        | exact hr
        | grind
  · rw [if_pos c1] at hP
    have hac : ¬ (0 ≤ a ∧ a < I (C + 14) 4 ∧ a < 30) := fun q => c1 ⟨q.1, by rw [← e4]; exact q.2.1⟩
    have hr : a_does (d + 69) 10 [a_rf C, .int (-1)] (n + 1, t, K, L, I, R) (fun r h' => a_at (d + 69) (a_xm a_m116) 18 [some (a_rf C), some (.int a), some (a_rf 0)] (r.toList ++ []) h' P) := by
      refine ge_refuse (d := d + 68) hH hu (fun J z1 z2 => ?_)
      have hp := hP n t K L J R z1 z2
      clear hP hc hu
      simp only [q116_18, as_nil, as_i, as_r, Nat.reduceAdd, Nat.reduceLeDiff, z_eq0, z_eq1, z_or, z_em, Classical.not_not, not_false_eq_true, not_true_eq_false, true_and, and_true, false_and, and_false, and_self, true_implies, false_implies, implies_true, Option.toList_some, Option.toList_none, List.cons_append, List.nil_append, Nat.add_eq_zero_iff, a_nl_i, a_nl_r, a_nl_n, true_or, or_true, eq_self, a_isRA_22, a_isRA_24, a_isRA_32, a_isA_20, ok_4, ok_5, ok_6, ok_7, ok_9, ok_20, ok_21, ok_30, ok_50, ok_180, ok_192, ok_200]
      exact hp
    clear hP hc hu
    rw [a_enter1 (M := a_m116) rfl (a_cat_rf (a_cat_int a_cat_nil)) (show 2 ≤ 3 by decide)]
    show a_at _ (a_xm a_m116) 0 [some (a_rf C), some (.int a), none] [] _ _
    simp only [q116_0, q116_1, q116_4, q116_5, q116_8, q116_9, q116_10, q116_13, q116_14, q116_15, k_0 hS, z_C hS, r_0_4 hS, k_14 hS, z_14, sp_askAt hS gA, as_nil, as_i, as_r, Nat.reduceAdd, Nat.reduceLeDiff, z_eq0, z_eq1, z_or, z_em, Classical.not_not, not_false_eq_true, not_true_eq_false, true_and, and_true, false_and, and_false, and_self, true_implies, false_implies, implies_true, Option.toList_some, Option.toList_none, List.cons_append, List.nil_append, Nat.add_eq_zero_iff, a_nl_i, a_nl_r, a_nl_n, true_or, or_true, eq_self, a_isRA_22, a_isRA_24, a_isRA_32, a_isA_20, ok_4, ok_5, ok_6, ok_7, ok_9, ok_20, ok_21, ok_30, ok_50, ok_180, ok_192, ok_200, hac]
    try simp only [true_and, and_true, true_implies, false_implies, implies_true, not_true_eq_false, not_false_eq_true]
    first
      | exact hr
      | grind
theorem ge_plan (hH : cH C c (n + 1) t K L I R) (hu : cuP C K L I R Y) {a b : Int32} (hP : ∀ n' t' K' L' J R', cH C c (n' + 1) t' K' L' J R' → cuP C K' L' J R' (plO Y a b).2 → P (some (.int (plO Y a b).1)) (n' + 1, t', K', L', J, R')) : a_does (d + 70) 118 [a_rf C, .int a, .int b] (n + 1, t, K, L, I, R) P := by
  have hT := hH.1
  have hS := hT.s
  have hc := hu.1
  unfold plO at hP
  by_cases c1 : (0 ≤ a ∧ a < 200) ∧ (0 ≤ b ∧ b < 200) ∧ a ≤ b
  · rw [if_neg (fun q => q c1)] at hP
    have hcl : a_does (d + 69) 119 [a_rf (C + 22), .int a, .int b] (n + 1, t, K, L, I, R) (fun r h' => a_at (d + 69) (a_xm a_m118) 23 [some (a_rf C), some (.int a), some (.int b)] (r.toList ++ []) h' P) := by
      refine ce_planAll (d := d + 61) (Q := noA C R Y) hT hc hu.2.1 hu.2.2.1.1.1.1 no_not ⟨c1.1.1, by clear hP hc hu; grind⟩ (by clear hP hc hu; grind) (fun J R2 hT2 hc2 hb2 hr2 hle hpn hz2 => ?_)
      have hH2 := cH_rf hH hr2 hT2
      have hz : fZ C (n + 1) K (noA C R Y) I R (n + 1) K J R2 := ⟨⟨hH.2.2.1, Nat.le_refl _⟩, hH.2.1, fun _ _ => rfl, hz2, fun x j _ _ a1 a2 a3 => hr2 x j a1 a2 a3⟩
      have hp := hP n t K L J R2 hH2 ⟨hc2, se_b (se_rf hT hc hu.2.1 hr2) (ss_b ss_pl), siP_ss ss_pl (siP_z hT hu.2.2.1 hz), no_pl hu.2.2.2.1, stP_ss ss_pl (stP_z hT hu.1 hu.2.2.2.2 hz)⟩
      clear hP hc hu hc2 hpn
      simp only [q118_23, as_nil, as_i, as_r, Nat.reduceAdd, Nat.reduceLeDiff, z_eq0, z_eq1, z_or, z_em, Classical.not_not, not_false_eq_true, not_true_eq_false, true_and, and_true, false_and, and_false, and_self, true_implies, false_implies, implies_true, Option.toList_some, Option.toList_none, List.cons_append, List.nil_append, Nat.add_eq_zero_iff, a_nl_i, a_nl_r, a_nl_n, true_or, or_true, eq_self, a_isRA_22, a_isRA_24, a_isRA_32, a_isA_20, ok_4, ok_5, ok_6, ok_7, ok_9, ok_20, ok_21, ok_30, ok_50, ok_180, ok_192, ok_200]
      exact hp
    clear hP hc hu
    rw [a_enter1 (M := a_m118) rfl (a_cat_rf (a_cat_int (a_cat_int a_cat_nil))) (show 3 ≤ 3 by decide)]
    show a_at _ (a_xm a_m118) 0 [some (a_rf C), some (.int a), some (.int b)] [] _ _
    simp only [q118_0, q118_1, q118_2, q118_5, q118_14, q118_15, q118_18, q118_19, q118_20, k_0 hS, z_C hS, r_0_5 hS, k_22 hS, z_22, sp_areShifts, as_nil, as_i, as_r, Nat.reduceAdd, Nat.reduceLeDiff, z_eq0, z_eq1, z_or, z_em, Classical.not_not, not_false_eq_true, not_true_eq_false, true_and, and_true, false_and, and_false, and_self, true_implies, false_implies, implies_true, Option.toList_some, Option.toList_none, List.cons_append, List.nil_append, Nat.add_eq_zero_iff, a_nl_i, a_nl_r, a_nl_n, true_or, or_true, eq_self, a_isRA_22, a_isRA_24, a_isRA_32, a_isA_20, ok_4, ok_5, ok_6, ok_7, ok_9, ok_20, ok_21, ok_30, ok_50, ok_180, ok_192, ok_200, c1]
    try simp only [true_and, and_true, true_implies, false_implies, implies_true, not_true_eq_false, not_false_eq_true]
    first
      | exact hcl
      | grind
  · rw [if_pos c1] at hP
    have hr : a_does (d + 69) 10 [a_rf C, .int (-1)] (n + 1, t, K, L, I, R) (fun r h' => a_at (d + 69) (a_xm a_m118) 13 [some (a_rf C), some (.int a), some (.int b)] (r.toList ++ []) h' P) := by
      refine ge_refuse (d := d + 68) hH hu (fun J z1 z2 => ?_)
      have hp := hP n t K L J R z1 z2
      clear hP hc hu
      simp only [q118_13, as_nil, as_i, as_r, Nat.reduceAdd, Nat.reduceLeDiff, z_eq0, z_eq1, z_or, z_em, Classical.not_not, not_false_eq_true, not_true_eq_false, true_and, and_true, false_and, and_false, and_self, true_implies, false_implies, implies_true, Option.toList_some, Option.toList_none, List.cons_append, List.nil_append, Nat.add_eq_zero_iff, a_nl_i, a_nl_r, a_nl_n, true_or, or_true, eq_self, a_isRA_22, a_isRA_24, a_isRA_32, a_isA_20, ok_4, ok_5, ok_6, ok_7, ok_9, ok_20, ok_21, ok_30, ok_50, ok_180, ok_192, ok_200]
      exact hp
    clear hP hc hu
    rw [a_enter1 (M := a_m118) rfl (a_cat_rf (a_cat_int (a_cat_int a_cat_nil))) (show 3 ≤ 3 by decide)]
    show a_at _ (a_xm a_m118) 0 [some (a_rf C), some (.int a), some (.int b)] [] _ _
    simp only [q118_0, q118_1, q118_2, q118_5, q118_8, q118_9, q118_10, k_0 hS, z_C hS, sp_areShifts, as_nil, as_i, as_r, Nat.reduceAdd, Nat.reduceLeDiff, z_eq0, z_eq1, z_or, z_em, Classical.not_not, not_false_eq_true, not_true_eq_false, true_and, and_true, false_and, and_false, and_self, true_implies, false_implies, implies_true, Option.toList_some, Option.toList_none, List.cons_append, List.nil_append, Nat.add_eq_zero_iff, a_nl_i, a_nl_r, a_nl_n, true_or, or_true, eq_self, a_isRA_22, a_isRA_24, a_isRA_32, a_isA_20, ok_4, ok_5, ok_6, ok_7, ok_9, ok_20, ok_21, ok_30, ok_50, ok_180, ok_192, ok_200, c1]
    try simp only [true_and, and_true, true_implies, false_implies, implies_true, not_true_eq_false, not_false_eq_true]
    first
      | exact hr
      | grind
/-- AGAIN of the class -/
theorem ge_again (hH : cH C c (n + 1) t K L I R) (hu : cuP C K L I R Y) (hP : ∀ n' t' K' L' J R', cH C c (n' + 1) t' K' L' J R' → cuP C K' L' J R' (agY Y).1 → P (some (.int (Int32.ofNat (agY Y).2))) (n' + 1, t', K', L', J, R')) : a_does (d + 70) 143 [a_rf C] (n + 1, t, K, L, I, R) P := by
  have hT := hH.1
  have hS := hT.s
  have hcl : a_does (d + 69) 144 [a_rf (C + 22)] (n + 1, t, K, L, I, R) (fun r h' => a_at (d + 69) (a_xm a_m143) 7 [some (a_rf C)] (r.toList ++ []) h' P) := by
    refine ce_planAgain (d := d + 61) (Q := noA C R Y) hH hu.1 hu.2.1 no_not (fun n' t' K' L' J R' hH' hc' hb' hse' hz' => ?_)
    have hp := hP n' t' K' L' J R' hH' ⟨hc', se_b hse' (ss_b ss_ag), siP_ss ss_ag (siP_z hT hu.2.2.1 hz'), no_ag hu.2.2.2.1, stP_ss ss_ag (stP_z hT hu.1 hu.2.2.2.2 hz')⟩
    clear hP hu hc'
    simp only [q143_7, as_nil, as_i, as_r, Nat.reduceAdd, Nat.reduceLeDiff, z_eq0, z_eq1, z_or, z_em, Classical.not_not, not_false_eq_true, not_true_eq_false, true_and, and_true, false_and, and_false, and_self, true_implies, false_implies, implies_true, Option.toList_some, Option.toList_none, List.cons_append, List.nil_append, Nat.add_eq_zero_iff, a_nl_i, a_nl_r, a_nl_n, true_or, or_true, eq_self, a_isRA_22, a_isRA_24, a_isRA_32, a_isA_20, ok_4, ok_5, ok_6, ok_7, ok_9, ok_20, ok_21, ok_30, ok_50, ok_180, ok_192, ok_200]
    exact hp
  clear hP hu
  rw [a_enter1 (M := a_m143) rfl (a_cat_rf a_cat_nil) (show 1 ≤ 1 by decide)]
  show a_at _ (a_xm a_m143) 0 [some (a_rf C)] [] _ _
  simp only [q143_0, q143_1, q143_4, k_0 hS, z_C hS, r_0_5 hS, k_22 hS, z_22, as_nil, as_i, as_r, Nat.reduceAdd, Nat.reduceLeDiff, z_eq0, z_eq1, z_or, z_em, Classical.not_not, not_false_eq_true, not_true_eq_false, true_and, and_true, false_and, and_false, and_self, true_implies, false_implies, implies_true, Option.toList_some, Option.toList_none, List.cons_append, List.nil_append, Nat.add_eq_zero_iff, a_nl_i, a_nl_r, a_nl_n, true_or, or_true, eq_self, a_isRA_22, a_isRA_24, a_isRA_32, a_isA_20, ok_4, ok_5, ok_6, ok_7, ok_9, ok_20, ok_21, ok_30, ok_50, ok_180, ok_192, ok_200]
  exact hcl
theorem ge_give (hH : cH C c (n + 1) t K L I R) (hu : cuP C K L I R Y) {a b s : Int32} (hP : ∀ n' t' K' L' J R', cH C c (n' + 1) t' K' L' J R' → cuP C K' L' J R' (gvY Y a b s).2 → P (some (.int (gvY Y a b s).1)) (n' + 1, t', K', L', J, R')) : a_does (d + 70) 112 [a_rf C, .int a, .int b, .int s] (n + 1, t, K, L, I, R) P := by
  have hT := hH.1
  have hS := hT.s
  have gA := hT.g_asksR
  have gB := hT.g_benchesR
  have gX := hT.g_textsR
  have hc := hu.1
  have h17 := hc.2.2.2.2.2.2.2.2.1
  have h6 := hc.2.2.2.2.2.2.2.2.2.1
  have e4 : I (C + 14) 4 = Y 0 17 := hc.2.2.1.1
  have e5 : I (C + 14) 5 = Y 0 6 := hc.2.1.1
  unfold gvY at hP
  have hr1 : ¬ ((0 ≤ a ∧ a < Y 0 17) ∧ (0 ≤ b ∧ b < Y 0 6) ∧ (0 ≤ s ∧ s < 200)) → ∀ x, a_does (d + 69) 10 [a_rf C, .int (-1)] (n + 1, t, K, L, I, R) (fun r h' => a_at (d + 69) (a_xm a_m112) 38 [some (a_rf C), some (.int a), some (.int b), some (.int s), x] (r.toList ++ []) h' P) := fun q x => by
    rw [if_pos q] at hP
    refine ge_refuse (d := d + 68) hH hu (fun J z1 z2 => ?_)
    have hp := hP n t K L J R z1 z2
    clear hP hc hu
    simp only [q112_38, as_nil, as_i, as_r, Nat.reduceAdd, Nat.reduceLeDiff, z_eq0, z_eq1, z_or, z_em, Classical.not_not, not_false_eq_true, not_true_eq_false, true_and, and_true, false_and, and_false, and_self, true_implies, false_implies, implies_true, Option.toList_some, Option.toList_none, List.cons_append, List.nil_append, Nat.add_eq_zero_iff, a_nl_i, a_nl_r, a_nl_n, true_or, or_true, eq_self, a_isRA_22, a_isRA_24, a_isRA_32, a_isA_20, ok_4, ok_5, ok_6, ok_7, ok_9, ok_20, ok_21, ok_30, ok_50, ok_180, ok_192, ok_200]
    exact hp
  by_cases c1 : 0 ≤ a ∧ a < Y 0 17
  · have hac : 0 ≤ a ∧ a < I (C + 14) 4 ∧ a < 30 := ⟨c1.1, by rw [e4]; exact c1.2, Int32.lt_of_lt_of_le c1.2 h17.2⟩
    have ap := aa_of hc c1.1 c1.2
    obtain ⟨-, ⟨ha, an0, a4n⟩, am, al⟩ := id ap
    have a0 : (R (C + 15) a.toNatClampNeg = 0) = False := eq_false an0
    have e13 : I (R (C + 15) a.toNatClampNeg) 13 = Y 20 a.toNatClampNeg := al.2.2.2.1.1
    have e15 : (I (R (C + 15) a.toNatClampNeg) 15 = 0) = (Y 18 a.toNatClampNeg = 0) := propext al.2.2.2.2.1
    by_cases c2 : 0 ≤ b ∧ b < Y 0 6
    · have hbc : 0 ≤ b ∧ b < I (C + 14) 5 ∧ b < 6 := ⟨c2.1, by rw [e5]; exact c2.2, Int32.lt_of_lt_of_le c2.2 h6.2⟩
      obtain ⟨kb, kb0, -⟩ := hc.2.1.2.2.1 b c2.1 c2.2
      have b0 : (R (C + 16) b.toNatClampNeg = 0) = False := eq_false kb0
      by_cases c3 : 0 ≤ s ∧ s < 200
      · rw [if_neg (fun q => q ⟨c1, c2, c3⟩)] at hP
        have hr3 : (¬ Y 18 a.toNatClampNeg = 0 ∨ 0 ≤ Y 20 a.toNatClampNeg ∨ ¬ ftY Y a b s = 0) → ∀ J, cH C c (n + 1) t K L J R → cuP C K L J R Y → a_does (d + 69) 10 [a_rf C, .int (-3)] (n + 1, t, K, L, J, R) (fun r h' => a_at (d + 69) (a_xm a_m112) 75 [some (a_rf C), some (.int a), some (.int b), some (.int s), some (a_rf (R (C + 15) a.toNatClampNeg))] (r.toList ++ []) h' P) := fun q J hJ huJ => by
          rw [if_pos q] at hP
          refine ge_refuse (d := d + 68) hJ huJ (fun J2 z1 z2 => ?_)
          have hS2 := z1.1.s
          have hp := hP n t K L J2 R z1 z2
          clear hP hc hu
          simp only [q112_75, as_nil, as_i, as_r, Nat.reduceAdd, Nat.reduceLeDiff, z_eq0, z_eq1, z_or, z_em, Classical.not_not, not_false_eq_true, not_true_eq_false, true_and, and_true, false_and, and_false, and_self, true_implies, false_implies, implies_true, Option.toList_some, Option.toList_none, List.cons_append, List.nil_append, Nat.add_eq_zero_iff, a_nl_i, a_nl_r, a_nl_n, true_or, or_true, eq_self, a_isRA_22, a_isRA_24, a_isRA_32, a_isA_20, ok_4, ok_5, ok_6, ok_7, ok_9, ok_20, ok_21, ok_30, ok_50, ok_180, ok_192, ok_200]
          exact hp
        by_cases c4 : Y 18 a.toNatClampNeg = 0
        · by_cases c5 : 0 ≤ Y 20 a.toNatClampNeg
          · have hr := hr3 (Or.inr (Or.inl c5)) I hH hu
            clear hP hc ap al am hu hr1 hr3
            rw [a_enter1 (M := a_m112) rfl (a_cat_rf (a_cat_int (a_cat_int (a_cat_int a_cat_nil)))) (show 4 ≤ 5 by decide)]
            show a_at _ (a_xm a_m112) 0 [some (a_rf C), some (.int a), some (.int b), some (.int s), none] [] _ _
            simp only [q112_0, q112_1, q112_4, q112_5, q112_8, q112_10, q112_12, q112_15, q112_16, q112_19, q112_20, q112_23, q112_26, q112_27, q112_30, q112_33, q112_34, q112_35, q112_38, q112_39, q112_41, q112_44, q112_47, q112_49, q112_52, q112_55, q112_56, q112_59, q112_61, q112_62, q112_63, q112_66, q112_69, q112_70, q112_72, k_0 hS, z_C hS, r_0_4 hS, k_14 hS, z_14, sp_askAt hS gA, sp_benchAt hS gB, sp_isShiftC, sp_isPlaced, as_nil, as_i, as_r, Nat.reduceAdd, Nat.reduceLeDiff, z_eq0, z_eq1, z_or, z_em, Classical.not_not, not_false_eq_true, not_true_eq_false, true_and, and_true, false_and, and_false, and_self, true_implies, false_implies, implies_true, Option.toList_some, Option.toList_none, List.cons_append, List.nil_append, Nat.add_eq_zero_iff, a_nl_i, a_nl_r, a_nl_n, true_or, or_true, eq_self, a_isRA_22, a_isRA_24, a_isRA_32, a_isA_20, ok_4, ok_5, ok_6, ok_7, ok_9, ok_20, ok_21, ok_30, ok_50, ok_180, ok_192, ok_200, hac, hbc, c3, ha, a0, b0, e13, e15, c4, c5]
            try simp only [true_and, and_true, true_implies, false_implies, implies_true, not_true_eq_false, not_false_eq_true]
            first
              | exact hr
              | grind
          · have hfb : a_does (d + 69) 100 [a_rf (C + 14), a_rf (R (C + 15) a.toNatClampNeg), .int b, .int s] (n + 1, t, K, L, I, R) (fun r h' => a_at (d + 69) (a_xm a_m112) 66 [some (a_rf C), some (.int a), some (.int b), some (.int s), some (a_rf (R (C + 15) a.toNatClampNeg))] (r.toList ++ []) h' P) := by
              refine ce_firstBar (d := d + 64) hT hc ap c2 ⟨c3.1, by clear hP hc hu ap al am hr1 hr3; grind⟩ (fun J hJ => ?_)
              have hT2 := hJ.1
              have hS2 := hT2.s
              have hH2 := cH_J hH hT2
              have hu2 := cu_C hT hJ hu hH
              by_cases cf : ftY Y a b s = 0
              · rw [if_neg (fun q => by rcases q with q | q | q; exact q c4; exact c5 q; exact q cf)] at hP
                have hl := hc.2.2.2.2.2.2.1 a c1.1 c1.2
                have hin := ft_in cf ⟨hl, (hc.2.2.2.2.2.1 _).2⟩ ⟨c3.1, by clear hP hc hu ap al am hr1 hr3 hu2; grind⟩
                have s199 : 0 ≤ s ∧ s ≤ 199 := ⟨c3.1, hin.1⟩
                have hpl : a_does (d + 69) 113 [a_rf (C + 14), a_rf (R (C + 15) a.toNatClampNeg), .int b, .int s] (n + 1, t, K, L, J, R) (fun r h' => a_at (d + 69) (a_xm a_m112) 87 [some (a_rf C), some (.int a), some (.int b), some (.int s), some (a_rf (R (C + 15) a.toNatClampNeg))] (r.toList ++ []) h' P) := by
                  refine ce_place (d := d + 63) hT2 hu2.1 hu2.2.1 (aaP_C hT ap hJ) rfl c2 s199 hin.2 c5 (ft_free hT2 hu2.1 hu2.2.1 c1 c2 s199 hin.2 c5 cf) (fun J3 d3 c3' z3 => ?_)
                  have hS3 := d3.1.s
                  have hp := hP n t K L J3 R (cH_J hH2 d3.1) (cu_Q hH2 hu2 (dQ_L d3) c3' hu2.2.1 ss_pu c1 z3 (no_pu c2.1 hu2.2.2.2.1))
                  clear hP hc hu ap al am hr1 hr3 hu2 c3'
                  simp only [q112_87, q112_88, as_nil, as_i, as_r, Nat.reduceAdd, Nat.reduceLeDiff, z_eq0, z_eq1, z_or, z_em, Classical.not_not, not_false_eq_true, not_true_eq_false, true_and, and_true, false_and, and_false, and_self, true_implies, false_implies, implies_true, Option.toList_some, Option.toList_none, List.cons_append, List.nil_append, Nat.add_eq_zero_iff, a_nl_i, a_nl_r, a_nl_n, true_or, or_true, eq_self, a_isRA_22, a_isRA_24, a_isRA_32, a_isA_20, ok_4, ok_5, ok_6, ok_7, ok_9, ok_20, ok_21, ok_30, ok_50, ok_180, ok_192, ok_200]
                  exact hp
                clear hP hc hu ap al am hr1 hr3 hu2
                simp only [q112_66, q112_76, q112_77, q112_80, q112_82, q112_83, q112_84, k_0 hS2, z_C hS2, r_0_4 hS2, k_14 hS2, z_14, as_nil, as_i, as_r, Nat.reduceAdd, Nat.reduceLeDiff, z_eq0, z_eq1, z_or, z_em, Classical.not_not, not_false_eq_true, not_true_eq_false, true_and, and_true, false_and, and_false, and_self, true_implies, false_implies, implies_true, Option.toList_some, Option.toList_none, List.cons_append, List.nil_append, Nat.add_eq_zero_iff, a_nl_i, a_nl_r, a_nl_n, true_or, or_true, eq_self, a_isRA_22, a_isRA_24, a_isRA_32, a_isA_20, ok_4, ok_5, ok_6, ok_7, ok_9, ok_20, ok_21, ok_30, ok_50, ok_180, ok_192, ok_200, cf]
                try simp only [true_and, and_true, true_implies, false_implies, implies_true, not_true_eq_false, not_false_eq_true]
                first
                  | exact hpl
                  | grind
              · have hr := hr3 (Or.inr (Or.inr cf)) J hH2 hu2
                clear hP hc hu ap al am hr1 hr3 hu2
                simp only [q112_66, q112_69, q112_70, q112_72, k_0 hS2, z_C hS2, as_nil, as_i, as_r, Nat.reduceAdd, Nat.reduceLeDiff, z_eq0, z_eq1, z_or, z_em, Classical.not_not, not_false_eq_true, not_true_eq_false, true_and, and_true, false_and, and_false, and_self, true_implies, false_implies, implies_true, Option.toList_some, Option.toList_none, List.cons_append, List.nil_append, Nat.add_eq_zero_iff, a_nl_i, a_nl_r, a_nl_n, true_or, or_true, eq_self, a_isRA_22, a_isRA_24, a_isRA_32, a_isA_20, ok_4, ok_5, ok_6, ok_7, ok_9, ok_20, ok_21, ok_30, ok_50, ok_180, ok_192, ok_200, cf]
                try simp only [true_and, and_true, true_implies, false_implies, implies_true, not_true_eq_false, not_false_eq_true]
                first
                  | exact hr
                  | grind
            clear hP hc ap al am hu hr1 hr3
            rw [a_enter1 (M := a_m112) rfl (a_cat_rf (a_cat_int (a_cat_int (a_cat_int a_cat_nil)))) (show 4 ≤ 5 by decide)]
            show a_at _ (a_xm a_m112) 0 [some (a_rf C), some (.int a), some (.int b), some (.int s), none] [] _ _
            simp only [q112_0, q112_1, q112_4, q112_5, q112_8, q112_10, q112_12, q112_15, q112_16, q112_19, q112_20, q112_23, q112_26, q112_27, q112_30, q112_33, q112_34, q112_35, q112_38, q112_39, q112_41, q112_44, q112_47, q112_49, q112_52, q112_55, q112_56, q112_59, q112_61, q112_62, q112_63, k_0 hS, z_C hS, r_0_4 hS, k_14 hS, z_14, sp_askAt hS gA, sp_benchAt hS gB, sp_isShiftC, sp_isPlaced, as_nil, as_i, as_r, Nat.reduceAdd, Nat.reduceLeDiff, z_eq0, z_eq1, z_or, z_em, Classical.not_not, not_false_eq_true, not_true_eq_false, true_and, and_true, false_and, and_false, and_self, true_implies, false_implies, implies_true, Option.toList_some, Option.toList_none, List.cons_append, List.nil_append, Nat.add_eq_zero_iff, a_nl_i, a_nl_r, a_nl_n, true_or, or_true, eq_self, a_isRA_22, a_isRA_24, a_isRA_32, a_isA_20, ok_4, ok_5, ok_6, ok_7, ok_9, ok_20, ok_21, ok_30, ok_50, ok_180, ok_192, ok_200, hac, hbc, c3, ha, a0, b0, e13, e15, c4, c5]
            try simp only [true_and, and_true, true_implies, false_implies, implies_true, not_true_eq_false, not_false_eq_true]
            first
              | exact hfb
              | grind
        · have hr := hr3 (Or.inl c4) I hH hu
          clear hP hc ap al am hu hr1 hr3
          rw [a_enter1 (M := a_m112) rfl (a_cat_rf (a_cat_int (a_cat_int (a_cat_int a_cat_nil)))) (show 4 ≤ 5 by decide)]
          show a_at _ (a_xm a_m112) 0 [some (a_rf C), some (.int a), some (.int b), some (.int s), none] [] _ _
          simp only [q112_0, q112_1, q112_4, q112_5, q112_8, q112_10, q112_12, q112_15, q112_16, q112_19, q112_20, q112_23, q112_26, q112_27, q112_30, q112_33, q112_34, q112_35, q112_38, q112_39, q112_41, q112_44, q112_47, q112_49, q112_52, q112_55, q112_56, q112_59, q112_61, q112_62, q112_63, q112_66, q112_69, q112_70, q112_72, k_0 hS, z_C hS, r_0_4 hS, k_14 hS, z_14, sp_askAt hS gA, sp_benchAt hS gB, sp_isShiftC, sp_isPlaced, as_nil, as_i, as_r, Nat.reduceAdd, Nat.reduceLeDiff, z_eq0, z_eq1, z_or, z_em, Classical.not_not, not_false_eq_true, not_true_eq_false, true_and, and_true, false_and, and_false, and_self, true_implies, false_implies, implies_true, Option.toList_some, Option.toList_none, List.cons_append, List.nil_append, Nat.add_eq_zero_iff, a_nl_i, a_nl_r, a_nl_n, true_or, or_true, eq_self, a_isRA_22, a_isRA_24, a_isRA_32, a_isA_20, ok_4, ok_5, ok_6, ok_7, ok_9, ok_20, ok_21, ok_30, ok_50, ok_180, ok_192, ok_200, hac, hbc, c3, ha, a0, b0, e13, e15, c4]
          try simp only [true_and, and_true, true_implies, false_implies, implies_true, not_true_eq_false, not_false_eq_true]
          first
            | exact hr
            | grind
      · have hr := hr1 (fun q => c3 q.2.2)
        clear hP hc ap al am hu hr1
        rw [a_enter1 (M := a_m112) rfl (a_cat_rf (a_cat_int (a_cat_int (a_cat_int a_cat_nil)))) (show 4 ≤ 5 by decide)]
        show a_at _ (a_xm a_m112) 0 [some (a_rf C), some (.int a), some (.int b), some (.int s), none] [] _ _
        simp only [q112_0, q112_1, q112_4, q112_5, q112_8, q112_10, q112_12, q112_15, q112_16, q112_19, q112_20, q112_23, q112_26, q112_27, q112_30, q112_33, q112_34, q112_35, k_0 hS, z_C hS, r_0_4 hS, k_14 hS, z_14, sp_askAt hS gA, sp_benchAt hS gB, sp_isShiftC, as_nil, as_i, as_r, Nat.reduceAdd, Nat.reduceLeDiff, z_eq0, z_eq1, z_or, z_em, Classical.not_not, not_false_eq_true, not_true_eq_false, true_and, and_true, false_and, and_false, and_self, true_implies, false_implies, implies_true, Option.toList_some, Option.toList_none, List.cons_append, List.nil_append, Nat.add_eq_zero_iff, a_nl_i, a_nl_r, a_nl_n, true_or, or_true, eq_self, a_isRA_22, a_isRA_24, a_isRA_32, a_isA_20, ok_4, ok_5, ok_6, ok_7, ok_9, ok_20, ok_21, ok_30, ok_50, ok_180, ok_192, ok_200, hac, hbc, c3, ha, a0, b0]
        try simp only [true_and, and_true, true_implies, false_implies, implies_true, not_true_eq_false, not_false_eq_true]
        first
          | exact hr _
          | grind
    · have hbc : ¬ (0 ≤ b ∧ b < I (C + 14) 5 ∧ b < 6) := fun q => c2 ⟨q.1, by rw [← e5]; exact q.2.1⟩
      have hr := hr1 (fun q => c2 q.2.1)
      clear hP hc ap al am hu hr1
      rw [a_enter1 (M := a_m112) rfl (a_cat_rf (a_cat_int (a_cat_int (a_cat_int a_cat_nil)))) (show 4 ≤ 5 by decide)]
      show a_at _ (a_xm a_m112) 0 [some (a_rf C), some (.int a), some (.int b), some (.int s), none] [] _ _
      simp only [q112_0, q112_1, q112_4, q112_5, q112_8, q112_10, q112_12, q112_15, q112_16, q112_19, q112_20, q112_23, q112_26, q112_27, q112_30, q112_33, q112_34, q112_35, k_0 hS, z_C hS, r_0_4 hS, k_14 hS, z_14, sp_askAt hS gA, sp_benchAt hS gB, sp_isShiftC, as_nil, as_i, as_r, Nat.reduceAdd, Nat.reduceLeDiff, z_eq0, z_eq1, z_or, z_em, Classical.not_not, not_false_eq_true, not_true_eq_false, true_and, and_true, false_and, and_false, and_self, true_implies, false_implies, implies_true, Option.toList_some, Option.toList_none, List.cons_append, List.nil_append, Nat.add_eq_zero_iff, a_nl_i, a_nl_r, a_nl_n, true_or, or_true, eq_self, a_isRA_22, a_isRA_24, a_isRA_32, a_isA_20, ok_4, ok_5, ok_6, ok_7, ok_9, ok_20, ok_21, ok_30, ok_50, ok_180, ok_192, ok_200, hac, hbc, ha, a0]
      try simp only [true_and, and_true, true_implies, false_implies, implies_true, not_true_eq_false, not_false_eq_true]
      first
        | exact hr _
        | grind
  · have hac : ¬ (0 ≤ a ∧ a < I (C + 14) 4 ∧ a < 30) := fun q => c1 ⟨q.1, by rw [← e4]; exact q.2.1⟩
    have hr := hr1 (fun q => c1 q.1)
    clear hP hc hu hr1
    rw [a_enter1 (M := a_m112) rfl (a_cat_rf (a_cat_int (a_cat_int (a_cat_int a_cat_nil)))) (show 4 ≤ 5 by decide)]
    show a_at _ (a_xm a_m112) 0 [some (a_rf C), some (.int a), some (.int b), some (.int s), none] [] _ _
    simp only [q112_0, q112_1, q112_4, q112_5, q112_8, q112_10, q112_12, q112_15, q112_16, q112_19, q112_20, q112_23, q112_26, q112_27, q112_30, q112_33, q112_34, q112_35, k_0 hS, z_C hS, r_0_4 hS, k_14 hS, z_14, sp_askAt hS gA, sp_benchAt hS gB, sp_isShiftC, as_nil, as_i, as_r, Nat.reduceAdd, Nat.reduceLeDiff, z_eq0, z_eq1, z_or, z_em, Classical.not_not, not_false_eq_true, not_true_eq_false, true_and, and_true, false_and, and_false, and_self, true_implies, false_implies, implies_true, Option.toList_some, Option.toList_none, List.cons_append, List.nil_append, Nat.add_eq_zero_iff, a_nl_i, a_nl_r, a_nl_n, true_or, or_true, eq_self, a_isRA_22, a_isRA_24, a_isRA_32, a_isA_20, ok_4, ok_5, ok_6, ok_7, ok_9, ok_20, ok_21, ok_30, ok_50, ok_180, ok_192, ok_200, hac]
    try simp only [true_and, and_true, true_implies, false_implies, implies_true, not_true_eq_false, not_false_eq_true]
    first
      | exact hr _
      | grind
end YL0
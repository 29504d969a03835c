/-! what was had: the class's calls -/
/-- a call of the class -/
def hxK (C : Nat) (I : Nat → Nat → Int32) (R : Nat → Nat → Nat) (Y : Nat → Nat → Int32) (m : Nat) (J : Nat → Nat → Int32) (R' : Nat → Nat → Nat) (W1 Z : Nat → Nat → Int32) : Prop := ciP C J R' Z (m + 30) ∧ J (C + 1) 6 = I (C + 1) 6 ∧ Z 0 6 = Y 0 6 ∧ hxF (Y 0 6) (I (C + 1) 6) Y W1 Z (hdC C I R) (ldC C I R) (hdC C J R') (ldC C J R')
section HH0
variable {d n t C c : Nat} {K L : Nat → Nat} {I I0 J J0 J1 J2 : Nat → Nat → Int32} {R : Nat → Nat → Nat} {P : Option Value → AH → Prop}
variable {Y Z W WB W1 Y2 : Nat → Nat → Int32} {IB JB : Nat → Nat → Int32} {RB R' R1 R2 : Nat → Nat → Nat} {K' L' : Nat → Nat} {m m' : Nat} {g : Nat → Int32}
theorem hk_0 (hc : cpP C K L I R Y) (hi : ciP C I R Y m) : hxK C I R Y m I R Y Y := ⟨ci_le hi (by omega), rfl, rfl, hx_0 (hd_N hc hi)⟩
theorem hk_fr (hT : cT C K L I R) (hc : cpP C K L I R Y) (hi : ciP C I R Y m) (e : hfE C K I R J R') : hxK C I R Y m J R' Y Y := ⟨ci_le (ci_fr hT hc e hi) (by omega), e.2.1, rfl, by
  have h := hx_0 (ld := ldC C I R) (hd_N hc hi)
  refine ⟨fun c t hb ht => ?_, fun c t hb ht => ?_, h.2.2⟩
  · have q := (hd_vw hT hc e c t hb ht).1
    simp only [q]
    exact h.1 c t hb ht
  · obtain ⟨q1, q2⟩ := hd_vw hT hc e c t hb ht
    exact ⟨fun k _ => q1 k, fun q => q2.trans ((h.2.1 c t hb ht).2.1 q), fun _ => q2⟩⟩
theorem hk_t (hm : m' ≤ m + 30) (h : tkC C I R Y m' J R' Z) : hxK C I R Y m J R' Z Z := ⟨ci_le h.1 hm, h.2.1, h.2.2.1, hx_tk h.2.2.2⟩
theorem hk_g (hc : cpP C K L I R Y) (hi : ciP C I R Y m) (hm : m' ≤ m + 30) (h : gvC C I R Y m' J R' Z) : hxK C I R Y m J R' Y Z := ⟨ci_le h.1 hm, h.2.1, h.2.2.1, hx_gv (hd_N hc hi) h.2.2.2⟩
theorem hk_tg (hm : m' ≤ m + 30) (h : tkC C I R Y m' JB RB W1) (h2 : gvC C JB RB W1 m' J R' Z) : hxK C I R Y m J R' W1 Z := ⟨ci_le h2.1 hm, h2.2.1.trans h.2.1, h2.2.2.1.trans h.2.2.1, hx_tg h.2.2.2 (by have := h2.2.2.2; rw [h.2.1, h.2.2.1] at this; exact this)⟩
/-- words alike where places hang, at the start -/
theorem ci_w (h : ciP C I R Y m) (e6 : Y2 0 6 = Y 0 6) (e17 : Y2 0 17 = Y 0 17) (er : ∀ k, k = 20 ∨ k = 21 ∨ k = 10 → Y2 k = Y k) : ciP C I R Y2 m := by
  have ho : ∀ x c t, hoY Y2 x c t = hoY Y x c t := fun x c t => ho_e (fun k hk => by rw [er k hk])
  refine ⟨fun c c0 c1 => h.1 c c0 (by rw [← e6]; exact c1), fun x x0 x1 t ht q => ?_, fun b c b0 b1 c0 c1 q => h.2.2 b c b0 (by rw [← e6]; exact b1) c0 (by rw [← e6]; exact c1) q⟩
  rw [er 20 (by omega), er 21 (by omega)]
  rw [er 20 (by omega), ho] at q
  exact h.2.1 x x0 (by rw [← e17]; exact x1) t ht q
theorem hk_b (hT : cT C K L I R) (hc : cpP C K L I R Y) (hi : ciP C I R Y m) (e : hfE C K I R J R1) (e6 : Y2 0 6 = Y 0 6) (e17 : Y2 0 17 = Y 0 17) (er : ∀ k, k = 20 ∨ k = 21 ∨ k = 10 → Y2 k = Y k) (h : hxK C J R1 Y2 m J2 R2 W1 Z) : hxK C I R Y m J2 R2 W1 Z := by
  obtain ⟨h1, h2, h3, h4⟩ := h
  rw [e6, e.2.1] at h4
  refine ⟨h1, h2.trans e.2.1, h3.trans e6, ?_⟩
  have h5 := hx_w h4 e17.symm (fun k hk => (er k hk).symm)
  refine ⟨h5.1, fun c t hb ht => ?_, h5.2.2⟩
  obtain ⟨q1, q2⟩ := hd_vw hT hc e c t hb ht
  have q := h5.2.1 c t hb ht
  simp only [q1, q2] at q
  exact q
theorem gr_refuse (hH : cH C c (n + 1) t K L I R) (hu : cuP C K L I R Y) {v : Int32} (hP : ∀ J, cH C c (n + 1) t K L J R → cuP C K L J R Y → hfE C K I R J R → P (some (.int v)) (n + 1, t, K, L, J, R)) : a_does (d + 1) 10 [a_rf C, .int v] (n + 1, t, K, L, I, R) P := by
  have hT := hH.1
  have hS := hT.s
  have hw : ∀ k w, P (some (.int v)) (n + 1, t, K, L, (a_ui I (C + 42) k w), R) := fun k w => hP _ (cH_J hH (sT_BeamHall_refused hT)) (cu_42 hT hu hH) (hf_ui (by omega) (by omega))
  have hw0 := hP I hH hu hf_refl
  ((try clear hP); (try clear hu); (try clear hH); (try clear hT))
  rw [a_enter1 (M := a_m10) rfl (a_cat_rf (a_cat_int a_cat_nil)) (show 2 ≤ 2 by decide)]
  show a_at _ (a_xm a_m10) 0 [some (a_rf C), some (.int v)] [] _ _
  repeat' first
    | with_reducible apply And.intro
    | with_reducible assumption
    | with_reducible intro _
    | with_reducible apply hw0
    | with_reducible apply hw
    | simp only [q10_0, q10_1, q10_4, q10_5, q10_7, q10_10, q10_11, q10_14, q10_15, q10_16, q10_17, q10_18, q10_19, q10_20, q10_21, q10_22, k_0 hS, z_C hS, r_0_8 hS, k_42 hS, l_42 hS, z_42, as_nil, as_i, as_r, Nat.reduceAdd, Nat.reduceLeDiff, z_eq0, z_eq1, z_or, z_em, Classical.not_not, not_false_eq_true, not_true_eq_false, true_and, and_true, false_and, and_false, and_self, true_implies, false_implies, implies_true, Option.toList_some, Option.toList_none, List.cons_append, List.nil_append, Nat.add_eq_zero_iff, a_nl_i, a_nl_r, a_nl_n, true_or, or_true, eq_self, a_isRA_22, a_isRA_24, a_isRA_32, a_isA_20, ok_4, ok_5, ok_6, ok_7, ok_9, ok_20, ok_21, ok_30, ok_50, ok_180, ok_192, ok_200]
  all_goals ((try clear ih); (try clear hP); (try clear hl); (try clear hq); (try clear a3); grind [ui_ap])
theorem gk_take (hH : cH C c (n + 1) t K L I R) (hu : cuP C K L I R Y) (hi : ciP C I R Y m) (hm : m + 30 < 16384) {a : Int32} (hP : ∀ n' t' K' L' J R', cH C c (n' + 1) t' K' L' J R' → cuP C K' L' J R' (tkY Y a).2 → hxK C I R Y m J R' (tkY Y a).2 (tkY Y a).2 → P (some (.int (tkY Y a).1)) (n' + 1, t', K', L', J, R')) : a_does (d + 70) 116 [a_rf C, .int a] (n + 1, t, K, L, I, R) P := by
  have hT := hH.1
  have hS := hT.s
  have gA := hT.g_asksR
  have gB := hT.g_benchesR
  have gX := hT.g_textsR
  have hc := hu.1
  have h17 := hc.2.2.2.2.2.2.2.2.1
  have e4 : I (C + 14) 4 = Y 0 17 := hc.2.2.1.1
  have en : I (C + 1) 6 = Y 0 0 := hc.1.1
  unfold tkY at hP
  by_cases c1 : 0 ≤ a ∧ a < Y 0 17
  · rw [if_neg (fun q => q c1)] at hP
    have hac : 0 ≤ a ∧ a < I (C + 14) 4 ∧ a < 30 := ⟨c1.1, by rw [e4]; exact c1.2, Int32.lt_of_lt_of_le c1.2 h17.2⟩
    have ap := aa_of hc c1.1 c1.2
    obtain ⟨-, ⟨ha, an0, a4n⟩, am, al⟩ := id ap
    have a0 : (R (C + 15) a.toNatClampNeg = 0) = False := eq_false an0
    have e13 : I (R (C + 15) a.toNatClampNeg) 13 = Y 20 a.toNatClampNeg := al.2.2.2.1.1
    have e14 : I (R (C + 15) a.toNatClampNeg) 14 = Y 21 a.toNatClampNeg := al.2.2.2.1.2
    by_cases c2 : 0 ≤ Y 20 a.toNatClampNeg ∧ ¬ Y 21 a.toNatClampNeg * 8 < Y 0 0
    · rw [if_neg (fun q => q c2)] at hP
      have hcl : a_does (d + 69) 45 [a_rf (C + 14), a_rf (R (C + 15) a.toNatClampNeg)] (n + 1, t, K, L, I, R) (fun r h' => a_at (d + 69) (a_xm a_m116) 45 [some (a_rf C), some (.int a), some (a_rf (R (C + 15) a.toNatClampNeg))] (r.toList ++ []) h' P) := by
        refine ch_clear (d := d + 64) hH hc hu.2.1 ap rfl (pc_lt hT hc hi (by omega) c2.1 (hc.2.1.2.2.2.1 a c1.1 c1.2 c2.1).1).2 (fun n' t' K' L' J R' hH' hQ hc' hse' h15 haz p1 p2 p3 p4 p5 p7 => ?_) c2.1
        have hp := hP n' t' K' L' J R' hH' (cu_Q hH hu hQ hc' hse' ss_un c1 haz (no_un hu.2.2.2.1)) (hk_t (by omega) (tkC_un (tkC_0 hc hi) hT hH.2.1 hc hu.2.1 (by omega) hc' c1 c2.1 (hQ.2.2.2.2 _ _ (by have := hH.2.2.1; omega) (by omega) (by omega) (by omega)) p1 p2 p3 p4 p5 p7))
        ((try clear hP); (try clear hc); (try clear ap); (try clear al); (try clear am); (try clear hu))
        simp only [q116_45, q116_46, as_nil, as_i, as_r, Nat.reduceAdd, Nat.reduceLeDiff, z_eq0, z_eq1, z_or, z_em, Classical.not_not, not_false_eq_true, not_true_eq_false, true_and, and_true, false_and, and_false, and_self, true_implies, false_implies, implies_true, Option.toList_some, Option.toList_none, List.cons_append, List.nil_append, Nat.add_eq_zero_iff, a_nl_i, a_nl_r, a_nl_n, true_or, or_true, eq_self, a_isRA_22, a_isRA_24, a_isRA_32, a_isA_20, ok_4, ok_5, ok_6, ok_7, ok_9, ok_20, ok_21, ok_30, ok_50, ok_180, ok_192, ok_200]
        exact hp
      ((try clear hP); (try clear hc); (try clear ap); (try clear al); (try clear am); (try clear hu))
      rw [a_enter1 (M := a_m116) rfl (a_cat_rf (a_cat_int a_cat_nil)) (show 2 ≤ 3 by decide)]
      show a_at _ (a_xm a_m116) 0 [some (a_rf C), some (.int a), none] [] _ _
      simp only [q116_0, q116_1, q116_4, q116_5, q116_8, q116_9, q116_10, q116_19, q116_20, q116_23, q116_24, q116_27, q116_37, q116_38, q116_41, q116_42, k_0 hS, z_C hS, r_0_4 hS, k_14 hS, z_14, sp_askAt hS gA, sp_mayMove hS, as_nil, as_i, as_r, Nat.reduceAdd, Nat.reduceLeDiff, z_eq0, z_eq1, z_or, z_em, Classical.not_not, not_false_eq_true, not_true_eq_false, true_and, and_true, false_and, and_false, and_self, true_implies, false_implies, implies_true, Option.toList_some, Option.toList_none, List.cons_append, List.nil_append, Nat.add_eq_zero_iff, a_nl_i, a_nl_r, a_nl_n, true_or, or_true, eq_self, a_isRA_22, a_isRA_24, a_isRA_32, a_isA_20, ok_4, ok_5, ok_6, ok_7, ok_9, ok_20, ok_21, ok_30, ok_50, ok_180, ok_192, ok_200, hac, ha, a0, e13, e14, en, c2]
      try simp only [true_and, and_true, true_implies, false_implies, implies_true, not_true_eq_false, not_false_eq_true]
      first
        | exact hcl
        | grind
    · rw [if_pos c2] at hP
      have hr : a_does (d + 69) 10 [a_rf C, .int (-3)] (n + 1, t, K, L, I, R) (fun r h' => a_at (d + 69) (a_xm a_m116) 36 [some (a_rf C), some (.int a), some (a_rf (R (C + 15) a.toNatClampNeg))] (r.toList ++ []) h' P) := by
        refine gr_refuse (d := d + 68) hH hu (fun J z1 z2 z3 => ?_)
        have hp := hP n t K L J R z1 z2 (hk_fr hT hu.1 hi z3)
        ((try clear hP); (try clear hc); (try clear ap); (try clear al); (try clear am); (try clear hu))
        simp only [q116_36, as_nil, as_i, as_r, Nat.reduceAdd, Nat.reduceLeDiff, z_eq0, z_eq1, z_or, z_em, Classical.not_not, not_false_eq_true, not_true_eq_false, true_and, and_true, false_and, and_false, and_self, true_implies, false_implies, implies_true, Option.toList_some, Option.toList_none, List.cons_append, List.nil_append, Nat.add_eq_zero_iff, a_nl_i, a_nl_r, a_nl_n, true_or, or_true, eq_self, a_isRA_22, a_isRA_24, a_isRA_32, a_isA_20, ok_4, ok_5, ok_6, ok_7, ok_9, ok_20, ok_21, ok_30, ok_50, ok_180, ok_192, ok_200]
        exact hp
      ((try clear hP); (try clear hc); (try clear ap); (try clear al); (try clear am); (try clear hu))
      rw [a_enter1 (M := a_m116) rfl (a_cat_rf (a_cat_int a_cat_nil)) (show 2 ≤ 3 by decide)]
      show a_at _ (a_xm a_m116) 0 [some (a_rf C), some (.int a), none] [] _ _
      simp only [q116_0, q116_1, q116_4, q116_5, q116_8, q116_9, q116_10, q116_19, q116_20, q116_23, q116_24, q116_27, q116_30, q116_31, q116_33, k_0 hS, z_C hS, r_0_4 hS, k_14 hS, z_14, sp_askAt hS gA, sp_mayMove hS, as_nil, as_i, as_r, Nat.reduceAdd, Nat.reduceLeDiff, z_eq0, z_eq1, z_or, z_em, Classical.not_not, not_false_eq_true, not_true_eq_false, true_and, and_true, false_and, and_false, and_self, true_implies, false_implies, implies_true, Option.toList_some, Option.toList_none, List.cons_append, List.nil_append, Nat.add_eq_zero_iff, a_nl_i, a_nl_r, a_nl_n, true_or, or_true, eq_self, a_isRA_22, a_isRA_24, a_isRA_32, a_isA_20, ok_4, ok_5, ok_6, ok_7, ok_9, ok_20, ok_21, ok_30, ok_50, ok_180, ok_192, ok_200, hac, ha, a0, e13, e14, en, c2]
      try simp only [true_and, and_true, true_implies, false_implies, implies_true, not_true_eq_false, not_false_eq_true]
      first
        | exact hr
        | grind
  · rw [if_pos c1] at hP
    have hac : ¬ (0 ≤ a ∧ a < I (C + 14) 4 ∧ a < 30) := fun q => c1 ⟨q.1, by rw [← e4]; exact q.2.1⟩
    have hr : a_does (d + 69) 10 [a_rf C, .int (-1)] (n + 1, t, K, L, I, R) (fun r h' => a_at (d + 69) (a_xm a_m116) 18 [some (a_rf C), some (.int a), some (a_rf 0)] (r.toList ++ []) h' P) := by
      refine gr_refuse (d := d + 68) hH hu (fun J z1 z2 z3 => ?_)
      have hp := hP n t K L J R z1 z2 (hk_fr hT hu.1 hi z3)
      ((try clear hP); (try clear hc); (try clear hu))
      simp only [q116_18, as_nil, as_i, as_r, Nat.reduceAdd, Nat.reduceLeDiff, z_eq0, z_eq1, z_or, z_em, Classical.not_not, not_false_eq_true, not_true_eq_false, true_and, and_true, false_and, and_false, and_self, true_implies, false_implies, implies_true, Option.toList_some, Option.toList_none, List.cons_append, List.nil_append, Nat.add_eq_zero_iff, a_nl_i, a_nl_r, a_nl_n, true_or, or_true, eq_self, a_isRA_22, a_isRA_24, a_isRA_32, a_isA_20, ok_4, ok_5, ok_6, ok_7, ok_9, ok_20, ok_21, ok_30, ok_50, ok_180, ok_192, ok_200]
      exact hp
    ((try clear hP); (try clear hc); (try clear hu))
    rw [a_enter1 (M := a_m116) rfl (a_cat_rf (a_cat_int a_cat_nil)) (show 2 ≤ 3 by decide)]
    show a_at _ (a_xm a_m116) 0 [some (a_rf C), some (.int a), none] [] _ _
    simp only [q116_0, q116_1, q116_4, q116_5, q116_8, q116_9, q116_10, q116_13, q116_14, q116_15, k_0 hS, z_C hS, r_0_4 hS, k_14 hS, z_14, sp_askAt hS gA, as_nil, as_i, as_r, Nat.reduceAdd, Nat.reduceLeDiff, z_eq0, z_eq1, z_or, z_em, Classical.not_not, not_false_eq_true, not_true_eq_false, true_and, and_true, false_and, and_false, and_self, true_implies, false_implies, implies_true, Option.toList_some, Option.toList_none, List.cons_append, List.nil_append, Nat.add_eq_zero_iff, a_nl_i, a_nl_r, a_nl_n, true_or, or_true, eq_self, a_isRA_22, a_isRA_24, a_isRA_32, a_isA_20, ok_4, ok_5, ok_6, ok_7, ok_9, ok_20, ok_21, ok_30, ok_50, ok_180, ok_192, ok_200, hac]
    try simp only [true_and, and_true, true_implies, false_implies, implies_true, not_true_eq_false, not_false_eq_true]
    first
      | exact hr
      | grind
theorem gk_plan (hH : cH C c (n + 1) t K L I R) (hu : cuP C K L I R Y) (hi : ciP C I R Y m) (hm : m + 30 < 16384) {a b : Int32} (hP : ∀ n' t' K' L' J R', cH C c (n' + 1) t' K' L' J R' → cuP C K' L' J R' (plO Y a b).2 → hxK C I R Y m J R' Y (plO Y a b).2 → P (some (.int (plO Y a b).1)) (n' + 1, t', K', L', J, R')) : a_does (d + 70) 118 [a_rf C, .int a, .int b] (n + 1, t, K, L, I, R) P := by
  have hT := hH.1
  have hS := hT.s
  have hc := hu.1
  unfold plO at hP
  by_cases c1 : (0 ≤ a ∧ a < 200) ∧ (0 ≤ b ∧ b < 200) ∧ a ≤ b
  · rw [if_neg (fun q => q c1)] at hP
    have hcl : a_does (d + 69) 119 [a_rf (C + 22), .int a, .int b] (n + 1, t, K, L, I, R) (fun r h' => a_at (d + 69) (a_xm a_m118) 23 [some (a_rf C), some (.int a), some (.int b)] (r.toList ++ []) h' P) := by
      refine ch_planAll (d := d + 61) (Q := noA C R Y) hT hc hu.2.1 (gvC_0 hc hi) hu.2.2.1.1.1.1 no_not ⟨c1.1.1, by ((try clear hP); (try clear hc); (try clear hu)); grind⟩ (by ((try clear hP); (try clear hc); (try clear hu)); grind) (fun J R2 hT2 hc2 hg2 hb2 hr2 hle hpn hz2 => ?_)
      have hH2 := cH_rf hH hr2 hT2
      have hz : fZ C (n + 1) K (noA C R Y) I R (n + 1) K J R2 := ⟨⟨hH.2.2.1, Nat.le_refl _⟩, hH.2.1, fun _ _ => rfl, hz2, fun x j _ _ a1 a2 a3 => hr2 x j a1 a2 a3⟩
      have hp := hP n t K L J R2 hH2 ⟨hc2, se_b (se_rf hT hc hu.2.1 hr2) (ss_b ss_pl), siP_ss ss_pl (siP_z hT hu.2.2.1 hz), no_pl hu.2.2.2.1, stP_ss ss_pl (stP_z hT hu.1 hu.2.2.2.2 hz)⟩ (hk_g hc hi (by omega) hg2)
      ((try clear hP); (try clear hc); (try clear hu); (try clear hc2); (try clear hpn))
      simp only [q118_23, as_nil, as_i, as_r, Nat.reduceAdd, Nat.reduceLeDiff, z_eq0, z_eq1, z_or, z_em, Classical.not_not, not_false_eq_true, not_true_eq_false, true_and, and_true, false_and, and_false, and_self, true_implies, false_implies, implies_true, Option.toList_some, Option.toList_none, List.cons_append, List.nil_append, Nat.add_eq_zero_iff, a_nl_i, a_nl_r, a_nl_n, true_or, or_true, eq_self, a_isRA_22, a_isRA_24, a_isRA_32, a_isA_20, ok_4, ok_5, ok_6, ok_7, ok_9, ok_20, ok_21, ok_30, ok_50, ok_180, ok_192, ok_200]
      exact hp
    ((try clear hP); (try clear hc); (try clear hu))
    rw [a_enter1 (M := a_m118) rfl (a_cat_rf (a_cat_int (a_cat_int a_cat_nil))) (show 3 ≤ 3 by decide)]
    show a_at _ (a_xm a_m118) 0 [some (a_rf C), some (.int a), some (.int b)] [] _ _
    simp only [q118_0, q118_1, q118_2, q118_5, q118_14, q118_15, q118_18, q118_19, q118_20, k_0 hS, z_C hS, r_0_5 hS, k_22 hS, z_22, sp_areShifts, as_nil, as_i, as_r, Nat.reduceAdd, Nat.reduceLeDiff, z_eq0, z_eq1, z_or, z_em, Classical.not_not, not_false_eq_true, not_true_eq_false, true_and, and_true, false_and, and_false, and_self, true_implies, false_implies, implies_true, Option.toList_some, Option.toList_none, List.cons_append, List.nil_append, Nat.add_eq_zero_iff, a_nl_i, a_nl_r, a_nl_n, true_or, or_true, eq_self, a_isRA_22, a_isRA_24, a_isRA_32, a_isA_20, ok_4, ok_5, ok_6, ok_7, ok_9, ok_20, ok_21, ok_30, ok_50, ok_180, ok_192, ok_200, c1]
    try simp only [true_and, and_true, true_implies, false_implies, implies_true, not_true_eq_false, not_false_eq_true]
    first
      | exact hcl
      | grind
  · rw [if_pos c1] at hP
    have hr : a_does (d + 69) 10 [a_rf C, .int (-1)] (n + 1, t, K, L, I, R) (fun r h' => a_at (d + 69) (a_xm a_m118) 13 [some (a_rf C), some (.int a), some (.int b)] (r.toList ++ []) h' P) := by
      refine gr_refuse (d := d + 68) hH hu (fun J z1 z2 z3 => ?_)
      have hp := hP n t K L J R z1 z2 (hk_fr hT hu.1 hi z3)
      ((try clear hP); (try clear hc); (try clear hu))
      simp only [q118_13, as_nil, as_i, as_r, Nat.reduceAdd, Nat.reduceLeDiff, z_eq0, z_eq1, z_or, z_em, Classical.not_not, not_false_eq_true, not_true_eq_false, true_and, and_true, false_and, and_false, and_self, true_implies, false_implies, implies_true, Option.toList_some, Option.toList_none, List.cons_append, List.nil_append, Nat.add_eq_zero_iff, a_nl_i, a_nl_r, a_nl_n, true_or, or_true, eq_self, a_isRA_22, a_isRA_24, a_isRA_32, a_isA_20, ok_4, ok_5, ok_6, ok_7, ok_9, ok_20, ok_21, ok_30, ok_50, ok_180, ok_192, ok_200]
      exact hp
    ((try clear hP); (try clear hc); (try clear hu))
    rw [a_enter1 (M := a_m118) rfl (a_cat_rf (a_cat_int (a_cat_int a_cat_nil))) (show 3 ≤ 3 by decide)]
    show a_at _ (a_xm a_m118) 0 [some (a_rf C), some (.int a), some (.int b)] [] _ _
    simp only [q118_0, q118_1, q118_2, q118_5, q118_8, q118_9, q118_10, k_0 hS, z_C hS, sp_areShifts, as_nil, as_i, as_r, Nat.reduceAdd, Nat.reduceLeDiff, z_eq0, z_eq1, z_or, z_em, Classical.not_not, not_false_eq_true, not_true_eq_false, true_and, and_true, false_and, and_false, and_self, true_implies, false_implies, implies_true, Option.toList_some, Option.toList_none, List.cons_append, List.nil_append, Nat.add_eq_zero_iff, a_nl_i, a_nl_r, a_nl_n, true_or, or_true, eq_self, a_isRA_22, a_isRA_24, a_isRA_32, a_isA_20, ok_4, ok_5, ok_6, ok_7, ok_9, ok_20, ok_21, ok_30, ok_50, ok_180, ok_192, ok_200, c1]
    try simp only [true_and, and_true, true_implies, false_implies, implies_true, not_true_eq_false, not_false_eq_true]
    first
      | exact hr
      | grind
theorem gk_again (hH : cH C c (n + 1) t K L I R) (hu : cuP C K L I R Y) (hi : ciP C I R Y m) (hm : m + 30 < 16384) (hP : ∀ n' t' K' L' J R', cH C c (n' + 1) t' K' L' J R' → cuP C K' L' J R' (agY Y).1 → hxK C I R Y m J R' (agP Y).1 (agY Y).1 → P (some (.int (Int32.ofNat (agY Y).2))) (n' + 1, t', K', L', J, R')) : a_does (d + 70) 143 [a_rf C] (n + 1, t, K, L, I, R) P := by
  have hT := hH.1
  have hS := hT.s
  have hcl : a_does (d + 69) 144 [a_rf (C + 22)] (n + 1, t, K, L, I, R) (fun r h' => a_at (d + 69) (a_xm a_m143) 7 [some (a_rf C)] (r.toList ++ []) h' P) := by
    refine ch_planAgain (d := d + 61) (Q := noA C R Y) hH hu.1 hu.2.1 no_not (tkC_0 hu.1 hi) hm (fun JB RB2 n' t' K' L' J R' hH' hc' hq1 hq2 hb' hse' hz' => ?_)
    have hp := hP n' t' K' L' J R' hH' ⟨hc', se_b hse' (ss_b ss_ag), siP_ss ss_ag (siP_z hT hu.2.2.1 hz'), no_ag hu.2.2.2.1, stP_ss ss_ag (stP_z hT hu.1 hu.2.2.2.2 hz')⟩ (hk_tg (Nat.le_refl _) hq1 hq2)
    ((try clear hP); (try clear hu); (try clear hc'))
    simp only [q143_7, as_nil, as_i, as_r, Nat.reduceAdd, Nat.reduceLeDiff, z_eq0, z_eq1, z_or, z_em, Classical.not_not, not_false_eq_true, not_true_eq_false, true_and, and_true, false_and, and_false, and_self, true_implies, false_implies, implies_true, Option.toList_some, Option.toList_none, List.cons_append, List.nil_append, Nat.add_eq_zero_iff, a_nl_i, a_nl_r, a_nl_n, true_or, or_true, eq_self, a_isRA_22, a_isRA_24, a_isRA_32, a_isA_20, ok_4, ok_5, ok_6, ok_7, ok_9, ok_20, ok_21, ok_30, ok_50, ok_180, ok_192, ok_200]
    exact hp
  ((try clear hP); (try clear hu))
  rw [a_enter1 (M := a_m143) rfl (a_cat_rf a_cat_nil) (show 1 ≤ 1 by decide)]
  show a_at _ (a_xm a_m143) 0 [some (a_rf C)] [] _ _
  simp only [q143_0, q143_1, q143_4, k_0 hS, z_C hS, r_0_5 hS, k_22 hS, z_22, as_nil, as_i, as_r, Nat.reduceAdd, Nat.reduceLeDiff, z_eq0, z_eq1, z_or, z_em, Classical.not_not, not_false_eq_true, not_true_eq_false, true_and, and_true, false_and, and_false, and_self, true_implies, false_implies, implies_true, Option.toList_some, Option.toList_none, List.cons_append, List.nil_append, Nat.add_eq_zero_iff, a_nl_i, a_nl_r, a_nl_n, true_or, or_true, eq_self, a_isRA_22, a_isRA_24, a_isRA_32, a_isA_20, ok_4, ok_5, ok_6, ok_7, ok_9, ok_20, ok_21, ok_30, ok_50, ok_180, ok_192, ok_200]
  exact hcl
theorem gk_give (hH : cH C c (n + 1) t K L I R) (hu : cuP C K L I R Y) (hi : ciP C I R Y m) (hm : m + 30 < 16384) {a b s : Int32} (hP : ∀ n' t' K' L' J R', cH C c (n' + 1) t' K' L' J R' → cuP C K' L' J R' (gvY Y a b s).2 → hxK C I R Y m J R' Y (gvY Y a b s).2 → P (some (.int (gvY Y a b s).1)) (n' + 1, t', K', L', J, R')) : a_does (d + 70) 112 [a_rf C, .int a, .int b, .int s] (n + 1, t, K, L, I, R) P := by
  have hT := hH.1
  have hS := hT.s
  have gA := hT.g_asksR
  have gB := hT.g_benchesR
  have gX := hT.g_textsR
  have hc := hu.1
  have h17 := hc.2.2.2.2.2.2.2.2.1
  have h6 := hc.2.2.2.2.2.2.2.2.2.1
  have e4 : I (C + 14) 4 = Y 0 17 := hc.2.2.1.1
  have e5 : I (C + 14) 5 = Y 0 6 := hc.2.1.1
  unfold gvY at hP
  have hr1 : ¬ ((0 ≤ a ∧ a < Y 0 17) ∧ (0 ≤ b ∧ b < Y 0 6) ∧ (0 ≤ s ∧ s < 200)) → ∀ x, a_does (d + 69) 10 [a_rf C, .int (-1)] (n + 1, t, K, L, I, R) (fun r h' => a_at (d + 69) (a_xm a_m112) 38 [some (a_rf C), some (.int a), some (.int b), some (.int s), x] (r.toList ++ []) h' P) := fun q x => by
    rw [if_pos q] at hP
    refine gr_refuse (d := d + 68) hH hu (fun J z1 z2 z3 => ?_)
    have hp := hP n t K L J R z1 z2 (hk_fr hT hu.1 hi z3)
    ((try clear hP); (try clear hc); (try clear hu))
    simp only [q112_38, as_nil, as_i, as_r, Nat.reduceAdd, Nat.reduceLeDiff, z_eq0, z_eq1, z_or, z_em, Classical.not_not, not_false_eq_true, not_true_eq_false, true_and, and_true, false_and, and_false, and_self, true_implies, false_implies, implies_true, Option.toList_some, Option.toList_none, List.cons_append, List.nil_append, Nat.add_eq_zero_iff, a_nl_i, a_nl_r, a_nl_n, true_or, or_true, eq_self, a_isRA_22, a_isRA_24, a_isRA_32, a_isA_20, ok_4, ok_5, ok_6, ok_7, ok_9, ok_20, ok_21, ok_30, ok_50, ok_180, ok_192, ok_200]
    exact hp
  by_cases c1 : 0 ≤ a ∧ a < Y 0 17
  · have hac : 0 ≤ a ∧ a < I (C + 14) 4 ∧ a < 30 := ⟨c1.1, by rw [e4]; exact c1.2, Int32.lt_of_lt_of_le c1.2 h17.2⟩
    have ap := aa_of hc c1.1 c1.2
    obtain ⟨-, ⟨ha, an0, a4n⟩, am, al⟩ := id ap
    have a0 : (R (C + 15) a.toNatClampNeg = 0) = False := eq_false an0
    have e13 : I (R (C + 15) a.toNatClampNeg) 13 = Y 20 a.toNatClampNeg := al.2.2.2.1.1
    have e15 : (I (R (C + 15) a.toNatClampNeg) 15 = 0) = (Y 18 a.toNatClampNeg = 0) := propext al.2.2.2.2.1
    by_cases c2 : 0 ≤ b ∧ b < Y 0 6
    · have hbc : 0 ≤ b ∧ b < I (C + 14) 5 ∧ b < 6 := ⟨c2.1, by rw [e5]; exact c2.2, Int32.lt_of_lt_of_le c2.2 h6.2⟩
      obtain ⟨kb, kb0, -⟩ := hc.2.1.2.2.1 b c2.1 c2.2
      have b0 : (R (C + 16) b.toNatClampNeg = 0) = False := eq_false kb0
      by_cases c3 : 0 ≤ s ∧ s < 200
      · rw [if_neg (fun q => q ⟨c1, c2, c3⟩)] at hP
        have hr3 : (¬ Y 18 a.toNatClampNeg = 0 ∨ 0 ≤ Y 20 a.toNatClampNeg ∨ ¬ ftY Y a b s = 0) → ∀ J, cH C c (n + 1) t K L J R → cuP C K L J R Y → hfE C K I R J R → a_does (d + 69) 10 [a_rf C, .int (-3)] (n + 1, t, K, L, J, R) (fun r h' => a_at (d + 69) (a_xm a_m112) 75 [some (a_rf C), some (.int a), some (.int b), some (.int s), some (a_rf (R (C + 15) a.toNatClampNeg))] (r.toList ++ []) h' P) := fun q J hJ huJ hfJ => by
          rw [if_pos q] at hP
          refine gr_refuse (d := d + 68) hJ huJ (fun J2 z1 z2 z3 => ?_)
          have hS2 := z1.1.s
          have hp := hP n t K L J2 R z1 z2 (hk_fr hT hu.1 hi (hf_tr hfJ z3))
          ((try clear hP); (try clear hc); (try clear hu))
          simp only [q112_75, as_nil, as_i, as_r, Nat.reduceAdd, Nat.reduceLeDiff, z_eq0, z_eq1, z_or, z_em, Classical.not_not, not_false_eq_true, not_true_eq_false, true_and, and_true, false_and, and_false, and_self, true_implies, false_implies, implies_true, Option.toList_some, Option.toList_none, List.cons_append, List.nil_append, Nat.add_eq_zero_iff, a_nl_i, a_nl_r, a_nl_n, true_or, or_true, eq_self, a_isRA_22, a_isRA_24, a_isRA_32, a_isA_20, ok_4, ok_5, ok_6, ok_7, ok_9, ok_20, ok_21, ok_30, ok_50, ok_180, ok_192, ok_200]
          exact hp
        by_cases c4 : Y 18 a.toNatClampNeg = 0
        · by_cases c5 : 0 ≤ Y 20 a.toNatClampNeg
          · have hr := hr3 (Or.inr (Or.inl c5)) I hH hu hf_refl
            ((try clear hP); (try clear hc); (try clear ap); (try clear al); (try clear am); (try clear hu); (try clear hr1); (try clear hr3))
            rw [a_enter1 (M := a_m112) rfl (a_cat_rf (a_cat_int (a_cat_int (a_cat_int a_cat_nil)))) (show 4 ≤ 5 by decide)]
            show a_at _ (a_xm a_m112) 0 [some (a_rf C), some (.int a), some (.int b), some (.int s), none] [] _ _
            simp only [q112_0, q112_1, q112_4, q112_5, q112_8, q112_10, q112_12, q112_15, q112_16, q112_19, q112_20, q112_23, q112_26, q112_27, q112_30, q112_33, q112_34, q112_35, q112_38, q112_39, q112_41, q112_44, q112_47, q112_49, q112_52, q112_55, q112_56, q112_59, q112_61, q112_62, q112_63, q112_66, q112_69, q112_70, q112_72, k_0 hS, z_C hS, r_0_4 hS, k_14 hS, z_14, sp_askAt hS gA, sp_benchAt hS gB, sp_isShiftC, sp_isPlaced, as_nil, as_i, as_r, Nat.reduceAdd, Nat.reduceLeDiff, z_eq0, z_eq1, z_or, z_em, Classical.not_not, not_false_eq_true, not_true_eq_false, true_and, and_true, false_and, and_false, and_self, true_implies, false_implies, implies_true, Option.toList_some, Option.toList_none, List.cons_append, List.nil_append, Nat.add_eq_zero_iff, a_nl_i, a_nl_r, a_nl_n, true_or, or_true, eq_self, a_isRA_22, a_isRA_24, a_isRA_32, a_isA_20, ok_4, ok_5, ok_6, ok_7, ok_9, ok_20, ok_21, ok_30, ok_50, ok_180, ok_192, ok_200, hac, hbc, c3, ha, a0, b0, e13, e15, c4, c5]
            try simp only [true_and, and_true, true_implies, false_implies, implies_true, not_true_eq_false, not_false_eq_true]
            first
              | exact hr
              | grind
          · have hfb : a_does (d + 69) 100 [a_rf (C + 14), a_rf (R (C + 15) a.toNatClampNeg), .int b, .int s] (n + 1, t, K, L, I, R) (fun r h' => a_at (d + 69) (a_xm a_m112) 66 [some (a_rf C), some (.int a), some (.int b), some (.int s), some (a_rf (R (C + 15) a.toNatClampNeg))] (r.toList ++ []) h' P) := by
              refine ce_firstBar (d := d + 64) hT hc ap c2 ⟨c3.1, by ((try clear hP); (try clear hc); (try clear hu); (try clear ap); (try clear al); (try clear am); (try clear hr1); (try clear hr3)); grind⟩ (fun J hJ => ?_)
              have hT2 := hJ.1
              have hS2 := hT2.s
              have hH2 := cH_J hH hT2
              have hu2 := cu_C hT hJ hu hH
              by_cases cf : ftY Y a b s = 0
              · rw [if_neg (fun q => by rcases q with q | q | q; exact q c4; exact c5 q; exact q cf)] at hP
                have hl := hc.2.2.2.2.2.2.1 a c1.1 c1.2
                have hin := ft_in cf ⟨hl, (hc.2.2.2.2.2.1 _).2⟩ ⟨c3.1, by ((try clear hP); (try clear hc); (try clear hu); (try clear ap); (try clear al); (try clear am); (try clear hr1); (try clear hr3); (try clear hu2)); grind⟩
                have s199 : 0 ≤ s ∧ s ≤ 199 := ⟨c3.1, hin.1⟩
                have hpl : a_does (d + 69) 113 [a_rf (C + 14), a_rf (R (C + 15) a.toNatClampNeg), .int b, .int s] (n + 1, t, K, L, J, R) (fun r h' => a_at (d + 69) (a_xm a_m112) 87 [some (a_rf C), some (.int a), some (.int b), some (.int s), some (a_rf (R (C + 15) a.toNatClampNeg))] (r.toList ++ []) h' P) := by
                  refine ch_place (d := d + 63) hT2 hu2.1 hu2.2.1 (aaP_C hT ap hJ) rfl c2 s199 hin.2 c5 (ft_free hT2 hu2.1 hu2.2.1 c1 c2 s199 hin.2 c5 cf) (fun J3 d3 c3' z3 p1 p2 => ?_)
                  have hS3 := d3.1.s
                  have hp := hP n t K L J3 R (cH_J hH2 d3.1) (cu_Q hH2 hu2 (dQ_L d3) c3' hu2.2.1 ss_pu c1 z3 (no_pu c2.1 hu2.2.2.2.1)) (hk_g hc hi (by omega) (gvC_put (gvC_fr (gvC_0 hc hi) hT hc (hf_C hJ)) hT2 hu2.1 hu2.2.1 c3' d3 c1 c5 c2 s199 hin.2 (ft_free hT2 hu2.1 hu2.2.1 c1 c2 s199 hin.2 c5 cf) p1 p2))
                  ((try clear hP); (try clear hc); (try clear hu); (try clear ap); (try clear al); (try clear am); (try clear hr1); (try clear hr3); (try clear hu2); (try clear c3'))
                  simp only [q112_87, q112_88, as_nil, as_i, as_r, Nat.reduceAdd, Nat.reduceLeDiff, z_eq0, z_eq1, z_or, z_em, Classical.not_not, not_false_eq_true, not_true_eq_false, true_and, and_true, false_and, and_false, and_self, true_implies, false_implies, implies_true, Option.toList_some, Option.toList_none, List.cons_append, List.nil_append, Nat.add_eq_zero_iff, a_nl_i, a_nl_r, a_nl_n, true_or, or_true, eq_self, a_isRA_22, a_isRA_24, a_isRA_32, a_isA_20, ok_4, ok_5, ok_6, ok_7, ok_9, ok_20, ok_21, ok_30, ok_50, ok_180, ok_192, ok_200]
                  exact hp
                ((try clear hP); (try clear hc); (try clear hu); (try clear ap); (try clear al); (try clear am); (try clear hr1); (try clear hr3); (try clear hu2))
                simp only [q112_66, q112_76, q112_77, q112_80, q112_82, q112_83, q112_84, k_0 hS2, z_C hS2, r_0_4 hS2, k_14 hS2, z_14, as_nil, as_i, as_r, Nat.reduceAdd, Nat.reduceLeDiff, z_eq0, z_eq1, z_or, z_em, Classical.not_not, not_false_eq_true, not_true_eq_false, true_and, and_true, false_and, and_false, and_self, true_implies, false_implies, implies_true, Option.toList_some, Option.toList_none, List.cons_append, List.nil_append, Nat.add_eq_zero_iff, a_nl_i, a_nl_r, a_nl_n, true_or, or_true, eq_self, a_isRA_22, a_isRA_24, a_isRA_32, a_isA_20, ok_4, ok_5, ok_6, ok_7, ok_9, ok_20, ok_21, ok_30, ok_50, ok_180, ok_192, ok_200, cf]
                try simp only [true_and, and_true, true_implies, false_implies, implies_true, not_true_eq_false, not_false_eq_true]
                first
                  | exact hpl
                  | grind
              · have hr := hr3 (Or.inr (Or.inr cf)) J hH2 hu2 (hf_C hJ)
                ((try clear hP); (try clear hc); (try clear hu); (try clear ap); (try clear al); (try clear am); (try clear hr1); (try clear hr3); (try clear hu2))
                simp only [q112_66, q112_69, q112_70, q112_72, k_0 hS2, z_C hS2, as_nil, as_i, as_r, Nat.reduceAdd, Nat.reduceLeDiff, z_eq0, z_eq1, z_or, z_em, Classical.not_not, not_false_eq_true, not_true_eq_false, true_and, and_true, false_and, and_false, and_self, true_implies, false_implies, implies_true, Option.toList_some, Option.toList_none, List.cons_append, List.nil_append, Nat.add_eq_zero_iff, a_nl_i, a_nl_r, a_nl_n, true_or, or_true, eq_self, a_isRA_22, a_isRA_24, a_isRA_32, a_isA_20, ok_4, ok_5, ok_6, ok_7, ok_9, ok_20, ok_21, ok_30, ok_50, ok_180, ok_192, ok_200, cf]
                try simp only [true_and, and_true, true_implies, false_implies, implies_true, not_true_eq_false, not_false_eq_true]
                first
                  | exact hr
                  | grind
            ((try clear hP); (try clear hc); (try clear ap); (try clear al); (try clear am); (try clear hu); (try clear hr1); (try clear hr3))
            rw [a_enter1 (M := a_m112) rfl (a_cat_rf (a_cat_int (a_cat_int (a_cat_int a_cat_nil)))) (show 4 ≤ 5 by decide)]
            show a_at _ (a_xm a_m112) 0 [some (a_rf C), some (.int a), some (.int b), some (.int s), none] [] _ _
            simp only [q112_0, q112_1, q112_4, q112_5, q112_8, q112_10, q112_12, q112_15, q112_16, q112_19, q112_20, q112_23, q112_26, q112_27, q112_30, q112_33, q112_34, q112_35, q112_38, q112_39, q112_41, q112_44, q112_47, q112_49, q112_52, q112_55, q112_56, q112_59, q112_61, q112_62, q112_63, k_0 hS, z_C hS, r_0_4 hS, k_14 hS, z_14, sp_askAt hS gA, sp_benchAt hS gB, sp_isShiftC, sp_isPlaced, as_nil, as_i, as_r, Nat.reduceAdd, Nat.reduceLeDiff, z_eq0, z_eq1, z_or, z_em, Classical.not_not, not_false_eq_true, not_true_eq_false, true_and, and_true, false_and, and_false, and_self, true_implies, false_implies, implies_true, Option.toList_some, Option.toList_none, List.cons_append, List.nil_append, Nat.add_eq_zero_iff, a_nl_i, a_nl_r, a_nl_n, true_or, or_true, eq_self, a_isRA_22, a_isRA_24, a_isRA_32, a_isA_20, ok_4, ok_5, ok_6, ok_7, ok_9, ok_20, ok_21, ok_30, ok_50, ok_180, ok_192, ok_200, hac, hbc, c3, ha, a0, b0, e13, e15, c4, c5]
            try simp only [true_and, and_true, true_implies, false_implies, implies_true, not_true_eq_false, not_false_eq_true]
            first
              | exact hfb
              | grind
        · have hr := hr3 (Or.inl c4) I hH hu hf_refl
          ((try clear hP); (try clear hc); (try clear ap); (try clear al); (try clear am); (try clear hu); (try clear hr1); (try clear hr3))
          rw [a_enter1 (M := a_m112) rfl (a_cat_rf (a_cat_int (a_cat_int (a_cat_int a_cat_nil)))) (show 4 ≤ 5 by decide)]
          show a_at _ (a_xm a_m112) 0 [some (a_rf C), some (.int a), some (.int b), some (.int s), none] [] _ _
          simp only [q112_0, q112_1, q112_4, q112_5, q112_8, q112_10, q112_12, q112_15, q112_16, q112_19, q112_20, q112_23, q112_26, q112_27, q112_30, q112_33, q112_34, q112_35, q112_38, q112_39, q112_41, q112_44, q112_47, q112_49, q112_52, q112_55, q112_56, q112_59, q112_61, q112_62, q112_63, q112_66, q112_69, q112_70, q112_72, k_0 hS, z_C hS, r_0_4 hS, k_14 hS, z_14, sp_askAt hS gA, sp_benchAt hS gB, sp_isShiftC, sp_isPlaced, as_nil, as_i, as_r, Nat.reduceAdd, Nat.reduceLeDiff, z_eq0, z_eq1, z_or, z_em, Classical.not_not, not_false_eq_true, not_true_eq_false, true_and, and_true, false_and, and_false, and_self, true_implies, false_implies, implies_true, Option.toList_some, Option.toList_none, List.cons_append, List.nil_append, Nat.add_eq_zero_iff, a_nl_i, a_nl_r, a_nl_n, true_or, or_true, eq_self, a_isRA_22, a_isRA_24, a_isRA_32, a_isA_20, ok_4, ok_5, ok_6, ok_7, ok_9, ok_20, ok_21, ok_30, ok_50, ok_180, ok_192, ok_200, hac, hbc, c3, ha, a0, b0, e13, e15, c4]
          try simp only [true_and, and_true, true_implies, false_implies, implies_true, not_true_eq_false, not_false_eq_true]
          first
            | exact hr
            | grind
      · have hr := hr1 (fun q => c3 q.2.2)
        ((try clear hP); (try clear hc); (try clear ap); (try clear al); (try clear am); (try clear hu); (try clear hr1))
        rw [a_enter1 (M := a_m112) rfl (a_cat_rf (a_cat_int (a_cat_int (a_cat_int a_cat_nil)))) (show 4 ≤ 5 by decide)]
        show a_at _ (a_xm a_m112) 0 [some (a_rf C), some (.int a), some (.int b), some (.int s), none] [] _ _
        simp only [q112_0, q112_1, q112_4, q112_5, q112_8, q112_10, q112_12, q112_15, q112_16, q112_19, q112_20, q112_23, q112_26, q112_27, q112_30, q112_33, q112_34, q112_35, k_0 hS, z_C hS, r_0_4 hS, k_14 hS, z_14, sp_askAt hS gA, sp_benchAt hS gB, sp_isShiftC, as_nil, as_i, as_r, Nat.reduceAdd, Nat.reduceLeDiff, z_eq0, z_eq1, z_or, z_em, Classical.not_not, not_false_eq_true, not_true_eq_false, true_and, and_true, false_and, and_false, and_self, true_implies, false_implies, implies_true, Option.toList_some, Option.toList_none, List.cons_append, List.nil_append, Nat.add_eq_zero_iff, a_nl_i, a_nl_r, a_nl_n, true_or, or_true, eq_self, a_isRA_22, a_isRA_24, a_isRA_32, a_isA_20, ok_4, ok_5, ok_6, ok_7, ok_9, ok_20, ok_21, ok_30, ok_50, ok_180, ok_192, ok_200, hac, hbc, c3, ha, a0, b0]
        try simp only [true_and, and_true, true_implies, false_implies, implies_true, not_true_eq_false, not_false_eq_true]
        first
          | exact hr _
          | grind
    · have hbc : ¬ (0 ≤ b ∧ b < I (C + 14) 5 ∧ b < 6) := fun q => c2 ⟨q.1, by rw [← e5]; exact q.2.1⟩
      have hr := hr1 (fun q => c2 q.2.1)
      ((try clear hP); (try clear hc); (try clear ap); (try clear al); (try clear am); (try clear hu); (try clear hr1))
      rw [a_enter1 (M := a_m112) rfl (a_cat_rf (a_cat_int (a_cat_int (a_cat_int a_cat_nil)))) (show 4 ≤ 5 by decide)]
      show a_at _ (a_xm a_m112) 0 [some (a_rf C), some (.int a), some (.int b), some (.int s), none] [] _ _
      simp only [q112_0, q112_1, q112_4, q112_5, q112_8, q112_10, q112_12, q112_15, q112_16, q112_19, q112_20, q112_23, q112_26, q112_27, q112_30, q112_33, q112_34, q112_35, k_0 hS, z_C hS, r_0_4 hS, k_14 hS, z_14, sp_askAt hS gA, sp_benchAt hS gB, sp_isShiftC, as_nil, as_i, as_r, Nat.reduceAdd, Nat.reduceLeDiff, z_eq0, z_eq1, z_or, z_em, Classical.not_not, not_false_eq_true, not_true_eq_false, true_and, and_true, false_and, and_false, and_self, true_implies, false_implies, implies_true, Option.toList_some, Option.toList_none, List.cons_append, List.nil_append, Nat.add_eq_zero_iff, a_nl_i, a_nl_r, a_nl_n, true_or, or_true, eq_self, a_isRA_22, a_isRA_24, a_isRA_32, a_isA_20, ok_4, ok_5, ok_6, ok_7, ok_9, ok_20, ok_21, ok_30, ok_50, ok_180, ok_192, ok_200, hac, hbc, ha, a0]
      try simp only [true_and, and_true, true_implies, false_implies, implies_true, not_true_eq_false, not_false_eq_true]
      first
        | exact hr _
        | grind
  · have hac : ¬ (0 ≤ a ∧ a < I (C + 14) 4 ∧ a < 30) := fun q => c1 ⟨q.1, by rw [← e4]; exact q.2.1⟩
    have hr := hr1 (fun q => c1 q.1)
    ((try clear hP); (try clear hc); (try clear hu); (try clear hr1))
    rw [a_enter1 (M := a_m112) rfl (a_cat_rf (a_cat_int (a_cat_int (a_cat_int a_cat_nil)))) (show 4 ≤ 5 by decide)]
    show a_at _ (a_xm a_m112) 0 [some (a_rf C), some (.int a), some (.int b), some (.int s), none] [] _ _
    simp only [q112_0, q112_1, q112_4, q112_5, q112_8, q112_10, q112_12, q112_15, q112_16, q112_19, q112_20, q112_23, q112_26, q112_27, q112_30, q112_33, q112_34, q112_35, k_0 hS, z_C hS, r_0_4 hS, k_14 hS, z_14, sp_askAt hS gA, sp_benchAt hS gB, sp_isShiftC, as_nil, as_i, as_r, Nat.reduceAdd, Nat.reduceLeDiff, z_eq0, z_eq1, z_or, z_em, Classical.not_not, not_false_eq_true, not_true_eq_false, true_and, and_true, false_and, and_false, and_self, true_implies, false_implies, implies_true, Option.toList_some, Option.toList_none, List.cons_append, List.nil_append, Nat.add_eq_zero_iff, a_nl_i, a_nl_r, a_nl_n, true_or, or_true, eq_self, a_isRA_22, a_isRA_24, a_isRA_32, a_isA_20, ok_4, ok_5, ok_6, ok_7, ok_9, ok_20, ok_21, ok_30, ok_50, ok_180, ok_192, ok_200, hac]
    try simp only [true_and, and_true, true_implies, false_implies, implies_true, not_true_eq_false, not_false_eq_true]
    first
      | exact hr _
      | grind
theorem gk_withdraw (hH : cH C c (n + 1) t K L I R) (hu : cuP C K L I R Y) (hi : ciP C I R Y m) (hm : m + 30 < 16384) {a : Int32} (hP : ∀ n' t' K' L' J R', cH C c (n' + 1) t' K' L' J R' → cuP C K' L' J R' (wdY Y a).2 → hxK C I R Y m J R' (wdY Y a).2 (wdY Y a).2 → P (some (.int (wdY Y a).1)) (n' + 1, t', K', L', J, R')) : a_does (d + 70) 44 [a_rf C, .int a] (n + 1, t, K, L, I, R) P := by
  have hT := hH.1
  have hS := hT.s
  have gA := hT.g_asksR
  have gB := hT.g_benchesR
  have gX := hT.g_textsR
  have hc := hu.1
  have h17 := hc.2.2.2.2.2.2.2.2.1
  have e4 : I (C + 14) 4 = Y 0 17 := hc.2.2.1.1
  unfold wdY at hP
  by_cases c1 : 0 ≤ a ∧ a < Y 0 17
  · rw [if_neg (fun q => q c1)] at hP
    have hac : 0 ≤ a ∧ a < I (C + 14) 4 ∧ a < 30 := ⟨c1.1, by rw [e4]; exact c1.2, Int32.lt_of_lt_of_le c1.2 h17.2⟩
    have ap := aa_of hc c1.1 c1.2
    obtain ⟨-, ⟨ha, an0, a4n⟩, am, al⟩ := id ap
    have a0 : ((R (C + 15) a.toNatClampNeg) = 0) = False := eq_false an0
    have aC := (hT.g_ask _ ha).1
    have gasks := hT.g_asks
    have e13 : I (R (C + 15) a.toNatClampNeg) 13 = Y 20 a.toNatClampNeg := al.2.2.2.1.1
    have e15 : (I (R (C + 15) a.toNatClampNeg) 15 = 0) = (Y 18 a.toNatClampNeg = 0) := propext al.2.2.2.2.1
    by_cases c2 : Y 18 a.toNatClampNeg = 0
    · rw [if_neg (fun q => q c2)] at hP
      have hT1 := sT_askf hT aC ha (k := 15) (v := 1) (by omega)
      have hu1 := cu_af hH hu c1 (rw_up9 (j := a.toNatClampNeg) (v := 1) (Or.inr (Or.inl rfl))) (funext (fun m => up_no (by omega))) (j := 15) (v := 1) (Or.inr (Or.inl rfl)) (al_15 al) up_row
      have hH1 := cH_J hH hT1
      have z17 : upY Y 18 a.toNatClampNeg 1 0 17 = Y 0 17 := up_no (by omega)
      have z20 : upY Y 18 a.toNatClampNeg 1 20 a.toNatClampNeg = Y 20 a.toNatClampNeg := up_no (by omega)
      have f13 : a_ui I (R (C + 15) a.toNatClampNeg) 15 1 (R (C + 15) a.toNatClampNeg) 13 = Y 20 a.toNatClampNeg := by rw [ui_ap, if_neg (by omega)]; exact e13
      have i30 : a.toNatClampNeg < 30 := a_lt30 ⟨hac.1, hac.2.2⟩
      have hi0 := hi
      have e6z : upY Y 18 a.toNatClampNeg 1 0 6 = Y 0 6 := up_no (by omega)
      have zr := up_r (Y := Y) (k := 18) (j := a.toNatClampNeg) (v := 1) (by omega)
      have hfz : hfE C K I R (a_ui I (R (C + 15) a.toNatClampNeg) 15 1) R := ⟨fun x j hx hk => by rw [ui_ap, if_neg (fun e => by rw [e.1, ha] at hk; omega)], by rw [ui_ap, if_neg (fun e => by have := (hT.g_ask _ ha).1; omega)], fun _ _ _ => rfl, fun x j p q => by rw [ui_ap, if_neg (fun e => by have := (hT.g_ask _ ha).1; omega)]⟩
      have hi1 := ci_w (ci_fr hT hc hfz hi) e6z z17 (fun q hq => (zr q hq).symm)
      generalize eJ : a_ui I (R (C + 15) a.toNatClampNeg) 15 1 = J1 at hT1 hu1 hH1 f13 hfz hi1
      have hcl : a_does (d + 69) 45 [a_rf (C + 14), a_rf (R (C + 15) a.toNatClampNeg)] (n + 1, t, K, L, J1, R) (fun r h' => a_at (d + 69) (a_xm a_m44) 46 [some (a_rf C), some (.int a), some (a_rf (R (C + 15) a.toNatClampNeg))] (r.toList ++ []) h' P) := by
        by_cases c3 : 0 ≤ Y 20 a.toNatClampNeg
        · refine ch_clear (d := d + 64) hH1 hu1.1 hu1.2.1 (aa_of hu1.1 c1.1 (by rw [z17]; exact c1.2)) rfl (pc_lt hT1 hu1.1 hi1 (by omega) (by rw [z20]; exact c3) (hu1.1.2.1.2.2.2.1 a c1.1 (by rw [z17]; exact c1.2) (by rw [z20]; exact c3)).1).2 (fun n' t' K' L' J R' hH' hQ hc' hse' h15 haz p1 p2 p3 p4 p5 p7 => ?_) (by rw [z20]; exact c3)
          dsimp only at hP
          rw [if_pos c3] at hP
          have hp := hP n' t' K' L' J R' hH' (cu_Q hH1 hu1 hQ hc' hse' ss_un (by rw [z17]; exact c1) haz (no_un hu1.2.2.2.1)) (hk_b hT hc hi hfz e6z z17 (fun q hq => (zr q hq).symm) (hk_t (by omega) (tkC_un (tkC_0 hu1.1 hi1) hT1 hH1.2.1 hu1.1 hu1.2.1 (by omega) hc' (by rw [z17]; exact c1) (by rw [z20]; exact c3) (hQ.2.2.2.2 _ _ (by have := hH1.2.2.1; omega) (by omega) (by omega) (by omega)) p1 p2 p3 p4 p5 p7)))
          ((try clear hP); (try clear hc); (try clear ap); (try clear al); (try clear am); (try clear hu); (try clear hu1))
          simp only [q44_46, q44_47, as_nil, as_i, as_r, Nat.reduceAdd, Nat.reduceLeDiff, z_eq0, z_eq1, z_or, z_em, Classical.not_not, not_false_eq_true, not_true_eq_false, true_and, and_true, false_and, and_false, and_self, true_implies, false_implies, implies_true, Option.toList_some, Option.toList_none, List.cons_append, List.nil_append, Nat.add_eq_zero_iff, a_nl_i, a_nl_r, a_nl_n, true_or, or_true, eq_self, a_isRA_22, a_isRA_24, a_isRA_32, a_isA_20, ok_4, ok_5, ok_6, ok_7, ok_9, ok_20, ok_21, ok_30, ok_50, ok_180, ok_192, ok_200]
          exact hp
        · dsimp only at hP
          rw [if_neg c3] at hP
          obtain ⟨w1, w2⟩ := hu1.2.2.2.1 a.toNatClampNeg i30 (by rw [z20]; exact c3)
          have f14 : J1 (R (C + 15) a.toNatClampNeg) 14 = -9 := by
            have := (hu1.1.2.2.1.2.2.2 a c1.1 (by rw [z17]; exact c1.2)).2.2.2.1.2
            rw [this]
            exact w2
          rw [z20] at w1
          rw [w1] at f13
          have hp := hP n t K L J1 R hH1 hu1 (hk_b hT hc hi hfz e6z z17 (fun q hq => (zr q hq).symm) (hk_0 hu1.1 hi1))
          have hS1 := hT1.s
          have n9 : ¬ (0 : Int32) ≤ -9 := by decide
          have s13 := ui_same f13
          have s14 := ui_same f14
          ((try clear hP); (try clear hc); (try clear ap); (try clear al); (try clear am); (try clear hu); (try clear hu1))
          rw [a_enter1 (M := a_m45) rfl (a_cat_rf (a_cat_rf a_cat_nil)) (show 2 ≤ 3 by decide)]
          show a_at _ (a_xm a_m45) 0 [some (a_rf (C + 14)), some (a_rf (R (C + 15) a.toNatClampNeg)), none] [] _ _
          simp only [q45_0, q45_1, q45_2, q45_5, q45_8, q45_9, q45_10, q45_44, q45_45, q45_46, k_14 hS1, z_14, sp_benchAt hS1 gB, as_nil, as_i, as_r, Nat.reduceAdd, Nat.reduceLeDiff, z_eq0, z_eq1, z_or, z_em, Classical.not_not, not_false_eq_true, not_true_eq_false, true_and, and_true, false_and, and_false, and_self, true_implies, false_implies, implies_true, Option.toList_some, Option.toList_none, List.cons_append, List.nil_append, Nat.add_eq_zero_iff, a_nl_i, a_nl_r, a_nl_n, true_or, or_true, eq_self, a_isRA_22, a_isRA_24, a_isRA_32, a_isA_20, ok_4, ok_5, ok_6, ok_7, ok_9, ok_20, ok_21, ok_30, ok_50, ok_180, ok_192, ok_200, ha, a0, f13, n9]
          try simp only [true_and, and_true, true_implies, false_implies, implies_true, not_true_eq_false, not_false_eq_true]
          rw [a_enter1 (M := a_m51) rfl (a_cat_rf (a_cat_rf a_cat_nil)) (show 2 ≤ 4 by decide)]
          show a_at _ (a_xm a_m51) 0 [some (a_rf (C + 14)), some (a_rf (R (C + 15) a.toNatClampNeg)), none, none] [] _ _
          simp only [q51_0, q51_1, q51_2, q51_5, q51_8, q51_9, q51_10, q51_13, q51_14, q51_15, q51_47, q51_48, q51_50, q51_53, q51_54, q51_56, q51_59, k_14 hS1, z_14, sp_benchAt hS1 gB, as_nil, as_i, as_r, Nat.reduceAdd, Nat.reduceLeDiff, z_eq0, z_eq1, z_or, z_em, Classical.not_not, not_false_eq_true, not_true_eq_false, true_and, and_true, false_and, and_false, and_self, true_implies, false_implies, implies_true, Option.toList_some, Option.toList_none, List.cons_append, List.nil_append, Nat.add_eq_zero_iff, a_nl_i, a_nl_r, a_nl_n, true_or, or_true, eq_self, a_isRA_22, a_isRA_24, a_isRA_32, a_isA_20, ok_4, ok_5, ok_6, ok_7, ok_9, ok_20, ok_21, ok_30, ok_50, ok_180, ok_192, ok_200, ha, a0, f13, n9, s13, s14]
          try simp only [true_and, and_true, true_implies, false_implies, implies_true, not_true_eq_false, not_false_eq_true]
          simp only [q45_49, q44_46, q44_47, as_nil, as_i, as_r, Nat.reduceAdd, Nat.reduceLeDiff, z_eq0, z_eq1, z_or, z_em, Classical.not_not, not_false_eq_true, not_true_eq_false, true_and, and_true, false_and, and_false, and_self, true_implies, false_implies, implies_true, Option.toList_some, Option.toList_none, List.cons_append, List.nil_append, Nat.add_eq_zero_iff, a_nl_i, a_nl_r, a_nl_n, true_or, or_true, eq_self, a_isRA_22, a_isRA_24, a_isRA_32, a_isA_20, ok_4, ok_5, ok_6, ok_7, ok_9, ok_20, ok_21, ok_30, ok_50, ok_180, ok_192, ok_200]
          first
            | exact hp
            | grind
      ((try clear hP); (try clear hc); (try clear ap); (try clear al); (try clear am); (try clear hu); (try clear hu1))
      rw [a_enter1 (M := a_m44) rfl (a_cat_rf (a_cat_int a_cat_nil)) (show 2 ≤ 3 by decide)]
      show a_at _ (a_xm a_m44) 0 [some (a_rf C), some (.int a), none] [] _ _
      simp only [q44_0, q44_1, q44_4, q44_5, q44_8, q44_9, q44_10, q44_13, q44_14, q44_15, q44_18, q44_19, q44_20, q44_23, q44_26, q44_27, q44_29, q44_32, q44_33, q44_34, q44_35, q44_38, q44_39, q44_42, q44_43, k_0 hS, z_C hS, r_0_4 hS, k_14 hS, z_14, sp_askAt hS gA, as_nil, as_i, as_r, Nat.reduceAdd, Nat.reduceLeDiff, z_eq0, z_eq1, z_or, z_em, Classical.not_not, not_false_eq_true, not_true_eq_false, true_and, and_true, false_and, and_false, and_self, true_implies, false_implies, implies_true, Option.toList_some, Option.toList_none, List.cons_append, List.nil_append, Nat.add_eq_zero_iff, a_nl_i, a_nl_r, a_nl_n, true_or, or_true, eq_self, a_isRA_22, a_isRA_24, a_isRA_32, a_isA_20, ok_4, ok_5, ok_6, ok_7, ok_9, ok_20, ok_21, ok_30, ok_50, ok_180, ok_192, ok_200, hac, ha, a0, e15, c2, eJ]
      try simp only [true_and, and_true, true_implies, false_implies, implies_true, not_true_eq_false, not_false_eq_true]
      first
        | exact hcl
        | grind
    · rw [if_pos c2] at hP
      have hr : a_does (d + 69) 10 [a_rf C, .int (-3)] (n + 1, t, K, L, I, R) (fun r h' => a_at (d + 69) (a_xm a_m44) 32 [some (a_rf C), some (.int a), some (a_rf (R (C + 15) a.toNatClampNeg))] (r.toList ++ []) h' P) := by
        refine gr_refuse (d := d + 68) hH hu (fun J z1 z2 z3 => ?_)
        have hp := hP n t K L J R z1 z2 (hk_fr hT hu.1 hi z3)
        ((try clear hP); (try clear hc); (try clear hu))
        simp only [q44_32, as_nil, as_i, as_r, Nat.reduceAdd, Nat.reduceLeDiff, z_eq0, z_eq1, z_or, z_em, Classical.not_not, not_false_eq_true, not_true_eq_false, true_and, and_true, false_and, and_false, and_self, true_implies, false_implies, implies_true, Option.toList_some, Option.toList_none, List.cons_append, List.nil_append, Nat.add_eq_zero_iff, a_nl_i, a_nl_r, a_nl_n, true_or, or_true, eq_self, a_isRA_22, a_isRA_24, a_isRA_32, a_isA_20, ok_4, ok_5, ok_6, ok_7, ok_9, ok_20, ok_21, ok_30, ok_50, ok_180, ok_192, ok_200]
        exact hp
      ((try clear hP); (try clear hc); (try clear hu))
      rw [a_enter1 (M := a_m44) rfl (a_cat_rf (a_cat_int a_cat_nil)) (show 2 ≤ 3 by decide)]
      show a_at _ (a_xm a_m44) 0 [some (a_rf C), some (.int a), none] [] _ _
      simp only [q44_0, q44_1, q44_4, q44_5, q44_8, q44_9, q44_10, q44_13, q44_14, q44_15, q44_18, q44_19, q44_20, q44_23, q44_26, q44_27, q44_29, k_0 hS, z_C hS, r_0_4 hS, k_14 hS, z_14, sp_askAt hS gA, as_nil, as_i, as_r, Nat.reduceAdd, Nat.reduceLeDiff, z_eq0, z_eq1, z_or, z_em, Classical.not_not, not_false_eq_true, not_true_eq_false, true_and, and_true, false_and, and_false, and_self, true_implies, false_implies, implies_true, Option.toList_some, Option.toList_none, List.cons_append, List.nil_append, Nat.add_eq_zero_iff, a_nl_i, a_nl_r, a_nl_n, true_or, or_true, eq_self, a_isRA_22, a_isRA_24, a_isRA_32, a_isA_20, ok_4, ok_5, ok_6, ok_7, ok_9, ok_20, ok_21, ok_30, ok_50, ok_180, ok_192, ok_200, hac, ha, a0, e15, c2]
      try simp only [true_and, and_true, true_implies, false_implies, implies_true, not_true_eq_false, not_false_eq_true]
      first
        | exact hr
        | grind
  · rw [if_pos c1] at hP
    have hac : ¬ (0 ≤ a ∧ a < I (C + 14) 4 ∧ a < 30) := fun q => c1 ⟨q.1, by rw [← e4]; exact q.2.1⟩
    have hr : a_does (d + 69) 10 [a_rf C, .int (-1)] (n + 1, t, K, L, I, R) (fun r h' => a_at (d + 69) (a_xm a_m44) 18 [some (a_rf C), some (.int a), some (a_rf 0)] (r.toList ++ []) h' P) := by
      refine gr_refuse (d := d + 68) hH hu (fun J z1 z2 z3 => ?_)
      have hp := hP n t K L J R z1 z2 (hk_fr hT hu.1 hi z3)
      ((try clear hP); (try clear hc); (try clear hu))
      simp only [q44_18, as_nil, as_i, as_r, Nat.reduceAdd, Nat.reduceLeDiff, z_eq0, z_eq1, z_or, z_em, Classical.not_not, not_false_eq_true, not_true_eq_false, true_and, and_true, false_and, and_false, and_self, true_implies, false_implies, implies_true, Option.toList_some, Option.toList_none, List.cons_append, List.nil_append, Nat.add_eq_zero_iff, a_nl_i, a_nl_r, a_nl_n, true_or, or_true, eq_self, a_isRA_22, a_isRA_24, a_isRA_32, a_isA_20, ok_4, ok_5, ok_6, ok_7, ok_9, ok_20, ok_21, ok_30, ok_50, ok_180, ok_192, ok_200]
      exact hp
    ((try clear hP); (try clear hc); (try clear hu))
    rw [a_enter1 (M := a_m44) rfl (a_cat_rf (a_cat_int a_cat_nil)) (show 2 ≤ 3 by decide)]
    show a_at _ (a_xm a_m44) 0 [some (a_rf C), some (.int a), none] [] _ _
    simp only [q44_0, q44_1, q44_4, q44_5, q44_8, q44_9, q44_10, q44_13, q44_14, q44_15, k_0 hS, z_C hS, r_0_4 hS, k_14 hS, z_14, sp_askAt hS gA, as_nil, as_i, as_r, Nat.reduceAdd, Nat.reduceLeDiff, z_eq0, z_eq1, z_or, z_em, Classical.not_not, not_false_eq_true, not_true_eq_false, true_and, and_true, false_and, and_false, and_self, true_implies, false_implies, implies_true, Option.toList_some, Option.toList_none, List.cons_append, List.nil_append, Nat.add_eq_zero_iff, a_nl_i, a_nl_r, a_nl_n, true_or, or_true, eq_self, a_isRA_22, a_isRA_24, a_isRA_32, a_isA_20, ok_4, ok_5, ok_6, ok_7, ok_9, ok_20, ok_21, ok_30, ok_50, ok_180, ok_192, ok_200, hac]
    try simp only [true_and, and_true, true_implies, false_implies, implies_true, not_true_eq_false, not_false_eq_true]
    first
      | exact hr
      | grind
theorem gk_danger (hH : cH C c (n + 1) t K L I R) (hu : cuP C K L I R Y) (hi : ciP C I R Y m) (hm : m + 30 < 16384) {a v : Int32} (hP : ∀ n' t' K' L' J R', cH C c (n' + 1) t' K' L' J R' → cuP C K' L' J R' (dgY Y a v).2 → hxK C I R Y m J R' (dgY Y a v).2 (dgY Y a v).2 → P (some (.int (dgY Y a v).1)) (n' + 1, t', K', L', J, R')) : a_does (d + 70) 146 [a_rf C, .int a, .int v] (n + 1, t, K, L, I, R) P := by
  have hT := hH.1
  have hS := hT.s
  have gA := hT.g_asksR
  have gB := hT.g_benchesR
  have gX := hT.g_textsR
  have hc := hu.1
  have h17 := hc.2.2.2.2.2.2.2.2.1
  have e4 : I (C + 14) 4 = Y 0 17 := hc.2.2.1.1
  unfold dgY at hP
  by_cases c1 : 0 ≤ a ∧ a < Y 0 17
  · rw [if_neg (fun q => q c1)] at hP
    have hac : 0 ≤ a ∧ a < I (C + 14) 4 ∧ a < 30 := ⟨c1.1, by rw [e4]; exact c1.2, Int32.lt_of_lt_of_le c1.2 h17.2⟩
    have ap := aa_of hc c1.1 c1.2
    obtain ⟨-, ⟨ha, an0, a4n⟩, am, al⟩ := id ap
    have a0 : ((R (C + 15) a.toNatClampNeg) = 0) = False := eq_false an0
    have aC := (hT.g_ask _ ha).1
    have gasks := hT.g_asks
    have e13 : I (R (C + 15) a.toNatClampNeg) 13 = Y 20 a.toNatClampNeg := al.2.2.2.1.1
    have e15 : (I (R (C + 15) a.toNatClampNeg) 15 = 0) = (Y 18 a.toNatClampNeg = 0) := propext al.2.2.2.2.1
    by_cases c2 : v < 0
    · rw [if_pos c2] at hP
      have c2' : ¬ 0 ≤ v := Int32.not_le.mpr c2
      have hr : a_does (d + 69) 10 [a_rf C, .int (-4)] (n + 1, t, K, L, I, R) (fun r h' => a_at (d + 69) (a_xm a_m146) 29 [some (a_rf C), some (.int a), some (.int v), some (a_rf (R (C + 15) a.toNatClampNeg))] (r.toList ++ []) h' P) := by
        refine gr_refuse (d := d + 68) hH hu (fun J z1 z2 z3 => ?_)
        have hp := hP n t K L J R z1 z2 (hk_fr hT hu.1 hi z3)
        ((try clear hP); (try clear hc); (try clear hu))
        simp only [q146_29, as_nil, as_i, as_r, Nat.reduceAdd, Nat.reduceLeDiff, z_eq0, z_eq1, z_or, z_em, Classical.not_not, not_false_eq_true, not_true_eq_false, true_and, and_true, false_and, and_false, and_self, true_implies, false_implies, implies_true, Option.toList_some, Option.toList_none, List.cons_append, List.nil_append, Nat.add_eq_zero_iff, a_nl_i, a_nl_r, a_nl_n, true_or, or_true, eq_self, a_isRA_22, a_isRA_24, a_isRA_32, a_isA_20, ok_4, ok_5, ok_6, ok_7, ok_9, ok_20, ok_21, ok_30, ok_50, ok_180, ok_192, ok_200]
        exact hp
      ((try clear hP); (try clear hc); (try clear hu))
      rw [a_enter1 (M := a_m146) rfl (a_cat_rf (a_cat_int (a_cat_int a_cat_nil))) (show 3 ≤ 4 by decide)]
      show a_at _ (a_xm a_m146) 0 [some (a_rf C), some (.int a), some (.int v), none] [] _ _
      simp only [q146_0, q146_1, q146_4, q146_5, q146_8, q146_9, q146_10, q146_13, q146_14, q146_15, q146_18, q146_19, q146_20, q146_23, q146_24, q146_26, k_0 hS, z_C hS, r_0_4 hS, k_14 hS, z_14, sp_askAt hS gA, as_nil, as_i, as_r, Nat.reduceAdd, Nat.reduceLeDiff, z_eq0, z_eq1, z_or, z_em, Classical.not_not, not_false_eq_true, not_true_eq_false, true_and, and_true, false_and, and_false, and_self, true_implies, false_implies, implies_true, Option.toList_some, Option.toList_none, List.cons_append, List.nil_append, Nat.add_eq_zero_iff, a_nl_i, a_nl_r, a_nl_n, true_or, or_true, eq_self, a_isRA_22, a_isRA_24, a_isRA_32, a_isA_20, ok_4, ok_5, ok_6, ok_7, ok_9, ok_20, ok_21, ok_30, ok_50, ok_180, ok_192, ok_200, hac, ha, a0, c2, c2']
      try simp only [true_and, and_true, true_implies, false_implies, implies_true, not_true_eq_false, not_false_eq_true]
      first
        | exact hr
        | grind
    · rw [if_neg c2] at hP
      have c2' : 0 ≤ v := Int32.not_lt.mp c2
      by_cases c3 : 9 < v
      · rw [if_pos c3] at hP
        have c3' : ¬ v ≤ 9 := Int32.not_le.mpr c3
        have hr : a_does (d + 69) 10 [a_rf C, .int (-6)] (n + 1, t, K, L, I, R) (fun r h' => a_at (d + 69) (a_xm a_m146) 42 [some (a_rf C), some (.int a), some (.int v), some (a_rf (R (C + 15) a.toNatClampNeg))] (r.toList ++ []) h' P) := by
          refine gr_refuse (d := d + 68) hH hu (fun J z1 z2 z3 => ?_)
          have hp := hP n t K L J R z1 z2 (hk_fr hT hu.1 hi z3)
          ((try clear hP); (try clear hc); (try clear hu))
          simp only [q146_42, as_nil, as_i, as_r, Nat.reduceAdd, Nat.reduceLeDiff, z_eq0, z_eq1, z_or, z_em, Classical.not_not, not_false_eq_true, not_true_eq_false, true_and, and_true, false_and, and_false, and_self, true_implies, false_implies, implies_true, Option.toList_some, Option.toList_none, List.cons_append, List.nil_append, Nat.add_eq_zero_iff, a_nl_i, a_nl_r, a_nl_n, true_or, or_true, eq_self, a_isRA_22, a_isRA_24, a_isRA_32, a_isA_20, ok_4, ok_5, ok_6, ok_7, ok_9, ok_20, ok_21, ok_30, ok_50, ok_180, ok_192, ok_200]
          exact hp
        ((try clear hP); (try clear hc); (try clear hu))
        rw [a_enter1 (M := a_m146) rfl (a_cat_rf (a_cat_int (a_cat_int a_cat_nil))) (show 3 ≤ 4 by decide)]
        show a_at _ (a_xm a_m146) 0 [some (a_rf C), some (.int a), some (.int v), none] [] _ _
        simp only [q146_0, q146_1, q146_4, q146_5, q146_8, q146_9, q146_10, q146_13, q146_14, q146_15, q146_18, q146_19, q146_20, q146_23, q146_24, q146_26, q146_29, q146_30, q146_31, q146_33, q146_36, q146_37, q146_39, k_0 hS, z_C hS, r_0_4 hS, k_14 hS, z_14, sp_askAt hS gA, as_nil, as_i, as_r, Nat.reduceAdd, Nat.reduceLeDiff, z_eq0, z_eq1, z_or, z_em, Classical.not_not, not_false_eq_true, not_true_eq_false, true_and, and_true, false_and, and_false, and_self, true_implies, false_implies, implies_true, Option.toList_some, Option.toList_none, List.cons_append, List.nil_append, Nat.add_eq_zero_iff, a_nl_i, a_nl_r, a_nl_n, true_or, or_true, eq_self, a_isRA_22, a_isRA_24, a_isRA_32, a_isA_20, ok_4, ok_5, ok_6, ok_7, ok_9, ok_20, ok_21, ok_30, ok_50, ok_180, ok_192, ok_200, hac, ha, a0, c2, c2', c3, c3']
        try simp only [true_and, and_true, true_implies, false_implies, implies_true, not_true_eq_false, not_false_eq_true]
        first
          | exact hr
          | grind
      · rw [if_neg c3] at hP
        have c3' : v ≤ 9 := Int32.not_lt.mp c3
        have hT1 := sT_askf hT aC ha (k := 9) (v := v) (by omega)
        have hu1 := cu_af hH hu c1 (rw_up9 (j := a.toNatClampNeg) (v := v) (Or.inl rfl)) (funext (fun m => up_no (by omega))) (j := 9) (v := v) (Or.inl rfl) (al_9 al) up_row
        have hH1 := cH_J hH hT1
        have z17 : upY Y 15 a.toNatClampNeg v 0 17 = Y 0 17 := up_no (by omega)
        have hi0 := hi
        have e6z : upY Y 15 a.toNatClampNeg v 0 6 = Y 0 6 := up_no (by omega)
        have zr := up_r (Y := Y) (k := 15) (j := a.toNatClampNeg) (v := v) (by omega)
        have hfz : hfE C K I R (a_ui I (R (C + 15) a.toNatClampNeg) 9 v) R := ⟨fun x j hx hk => by rw [ui_ap, if_neg (fun e => by rw [e.1, ha] at hk; omega)], by rw [ui_ap, if_neg (fun e => by have := (hT.g_ask _ ha).1; omega)], fun _ _ _ => rfl, fun x j p q => by rw [ui_ap, if_neg (fun e => by have := (hT.g_ask _ ha).1; omega)]⟩
        have hi1 := ci_w (ci_fr hT hc hfz hi) e6z z17 (fun q hq => (zr q hq).symm)
        generalize eJ : a_ui I (R (C + 15) a.toNatClampNeg) 9 v = J1 at hT1 hu1 hH1 hfz hi1
        have hcl : a_does (d + 69) 145 [a_rf (C + 14), a_rf (R (C + 15) a.toNatClampNeg)] (n + 1, t, K, L, J1, R) (fun r h' => a_at (d + 69) (a_xm a_m146) 56 [some (a_rf C), some (.int a), some (.int v), some (a_rf (R (C + 15) a.toNatClampNeg))] (r.toList ++ []) h' P) := by
          refine ch_clearUnfit (d := d + 63) hH1 hu1.1 hu1.2.1 (aa_of hu1.1 c1.1 (by rw [z17]; exact c1.2)) rfl (tkC_0 hu1.1 hi1) (by omega) (fun ag n' t' K' L' J R' hH' hQ hc' hse' h15 haz hq2 => ?_) (fun ag J hJ => ?_)
          · rw [if_pos ag] at hP
            have hp := hP n' t' K' L' J R' hH' (cu_Q hH1 hu1 hQ hc' hse' ss_un (by rw [z17]; exact c1) haz (no_un hu1.2.2.2.1)) (hk_b hT hc hi hfz e6z z17 (fun q hq => (zr q hq).symm) (hk_t (by omega) hq2))
            have n10 : ¬ (1 : Int32) = 0 := by decide
            ((try clear hP); (try clear hc); (try clear ap); (try clear al); (try clear am); (try clear hu); (try clear hu1); (try clear hc'))
            simp only [q146_56, q146_59, q146_60, q146_63, q146_64, as_nil, as_i, as_r, Nat.reduceAdd, Nat.reduceLeDiff, z_eq0, z_eq1, z_or, z_em, Classical.not_not, not_false_eq_true, not_true_eq_false, true_and, and_true, false_and, and_false, and_self, true_implies, false_implies, implies_true, Option.toList_some, Option.toList_none, List.cons_append, List.nil_append, Nat.add_eq_zero_iff, a_nl_i, a_nl_r, a_nl_n, true_or, or_true, eq_self, a_isRA_22, a_isRA_24, a_isRA_32, a_isA_20, ok_4, ok_5, ok_6, ok_7, ok_9, ok_20, ok_21, ok_30, ok_50, ok_180, ok_192, ok_200, n10]
            try simp only [true_and, and_true, true_implies, false_implies, implies_true, not_true_eq_false, not_false_eq_true]
            first
              | exact hp
              | grind
          · rw [if_neg ag] at hP
            have hp := hP n t K L J R (cH_J hH1 hJ.1) (cu_C hT1 hJ hu1 hH1) (hk_b hT hc hi hfz e6z z17 (fun q hq => (zr q hq).symm) (hk_fr hT1 hu1.1 hi1 (hf_C hJ)))
            ((try clear hP); (try clear hc); (try clear ap); (try clear al); (try clear am); (try clear hu); (try clear hu1))
            simp only [q146_56, q146_59, q146_60, q146_63, q146_64, as_nil, as_i, as_r, Nat.reduceAdd, Nat.reduceLeDiff, z_eq0, z_eq1, z_or, z_em, Classical.not_not, not_false_eq_true, not_true_eq_false, true_and, and_true, false_and, and_false, and_self, true_implies, false_implies, implies_true, Option.toList_some, Option.toList_none, List.cons_append, List.nil_append, Nat.add_eq_zero_iff, a_nl_i, a_nl_r, a_nl_n, true_or, or_true, eq_self, a_isRA_22, a_isRA_24, a_isRA_32, a_isA_20, ok_4, ok_5, ok_6, ok_7, ok_9, ok_20, ok_21, ok_30, ok_50, ok_180, ok_192, ok_200]
            try simp only [true_and, and_true, true_implies, false_implies, implies_true, not_true_eq_false, not_false_eq_true]
            first
              | exact hp
              | grind
        ((try clear hP); (try clear hc); (try clear ap); (try clear al); (try clear am); (try clear hu); (try clear hu1))
        rw [a_enter1 (M := a_m146) rfl (a_cat_rf (a_cat_int (a_cat_int a_cat_nil))) (show 3 ≤ 4 by decide)]
        show a_at _ (a_xm a_m146) 0 [some (a_rf C), some (.int a), some (.int v), none] [] _ _
        simp only [q146_0, q146_1, q146_4, q146_5, q146_8, q146_9, q146_10, q146_13, q146_14, q146_15, q146_18, q146_19, q146_20, q146_23, q146_24, q146_26, q146_29, q146_30, q146_31, q146_33, q146_36, q146_37, q146_39, q146_42, q146_43, q146_44, q146_45, q146_48, q146_49, q146_52, q146_53, k_0 hS, z_C hS, r_0_4 hS, k_14 hS, z_14, sp_askAt hS gA, as_nil, as_i, as_r, Nat.reduceAdd, Nat.reduceLeDiff, z_eq0, z_eq1, z_or, z_em, Classical.not_not, not_false_eq_true, not_true_eq_false, true_and, and_true, false_and, and_false, and_self, true_implies, false_implies, implies_true, Option.toList_some, Option.toList_none, List.cons_append, List.nil_append, Nat.add_eq_zero_iff, a_nl_i, a_nl_r, a_nl_n, true_or, or_true, eq_self, a_isRA_22, a_isRA_24, a_isRA_32, a_isA_20, ok_4, ok_5, ok_6, ok_7, ok_9, ok_20, ok_21, ok_30, ok_50, ok_180, ok_192, ok_200, hac, ha, a0, c2, c2', c3, c3', eJ]
        try simp only [true_and, and_true, true_implies, false_implies, implies_true, not_true_eq_false, not_false_eq_true]
        first
          | exact hcl
          | grind
  · rw [if_pos c1] at hP
    have hac : ¬ (0 ≤ a ∧ a < I (C + 14) 4 ∧ a < 30) := fun q => c1 ⟨q.1, by rw [← e4]; exact q.2.1⟩
    have hr : a_does (d + 69) 10 [a_rf C, .int (-1)] (n + 1, t, K, L, I, R) (fun r h' => a_at (d + 69) (a_xm a_m146) 18 [some (a_rf C), some (.int a), some (.int v), some (a_rf 0)] (r.toList ++ []) h' P) := by
      refine gr_refuse (d := d + 68) hH hu (fun J z1 z2 z3 => ?_)
      have hp := hP n t K L J R z1 z2 (hk_fr hT hu.1 hi z3)
      ((try clear hP); (try clear hc); (try clear hu))
      simp only [q146_18, as_nil, as_i, as_r, Nat.reduceAdd, Nat.reduceLeDiff, z_eq0, z_eq1, z_or, z_em, Classical.not_not, not_false_eq_true, not_true_eq_false, true_and, and_true, false_and, and_false, and_self, true_implies, false_implies, implies_true, Option.toList_some, Option.toList_none, List.cons_append, List.nil_append, Nat.add_eq_zero_iff, a_nl_i, a_nl_r, a_nl_n, true_or, or_true, eq_self, a_isRA_22, a_isRA_24, a_isRA_32, a_isA_20, ok_4, ok_5, ok_6, ok_7, ok_9, ok_20, ok_21, ok_30, ok_50, ok_180, ok_192, ok_200]
      exact hp
    ((try clear hP); (try clear hc); (try clear hu))
    rw [a_enter1 (M := a_m146) rfl (a_cat_rf (a_cat_int (a_cat_int a_cat_nil))) (show 3 ≤ 4 by decide)]
    show a_at _ (a_xm a_m146) 0 [some (a_rf C), some (.int a), some (.int v), none] [] _ _
    simp only [q146_0, q146_1, q146_4, q146_5, q146_8, q146_9, q146_10, q146_13, q146_14, q146_15, k_0 hS, z_C hS, r_0_4 hS, k_14 hS, z_14, sp_askAt hS gA, as_nil, as_i, as_r, Nat.reduceAdd, Nat.reduceLeDiff, z_eq0, z_eq1, z_or, z_em, Classical.not_not, not_false_eq_true, not_true_eq_false, true_and, and_true, false_and, and_false, and_self, true_implies, false_implies, implies_true, Option.toList_some, Option.toList_none, List.cons_append, List.nil_append, Nat.add_eq_zero_iff, a_nl_i, a_nl_r, a_nl_n, true_or, or_true, eq_self, a_isRA_22, a_isRA_24, a_isRA_32, a_isA_20, ok_4, ok_5, ok_6, ok_7, ok_9, ok_20, ok_21, ok_30, ok_50, ok_180, ok_192, ok_200, hac]
    try simp only [true_and, and_true, true_implies, false_implies, implies_true, not_true_eq_false, not_false_eq_true]
    first
      | exact hr
      | grind
theorem gvC_w (h : gvC C IB RB WB m J R W) (e6 : Z 0 6 = W 0 6) (e17 : Z 0 17 = W 0 17) (er : ∀ k, k = 20 ∨ k = 21 ∨ k = 10 → Z k = W k) : gvC C IB RB WB m J R Z := ⟨ci_w h.1 e6 e17 er, h.2.1, e6.trans h.2.2.1, gv_w h.2.2.2 e17 er⟩
theorem lh_swap_35 {z : Int32} (ez : z.toNatClampNeg = m) (hz : 1 ≤ z ∧ z ≤ 5) (tp : tyP Y m g) (hr : ∀ k, k < m → rgF Y m g k) (yl : ∀ k, k < m → (0 ≤ Y 20 (g k).toNatClampNeg ∧ Y 20 (g k).toNatClampNeg < Y 0 6) ∧ (0 ≤ (Y 21 (g k).toNatClampNeg) ∧ (Y 21 (g k).toNatClampNeg) ≤ 199) ∧ (Y 21 (g k).toNatClampNeg) + (Y 10 (g 0).toNatClampNeg) ≤ 200) (hno : noP Y) {mm : Nat} (hP : ∀ J, cH C c (n + 1) t K L J R1 → cuP C K L J R1 (swS g m Y m) → gvC C IB RB WB mm J R1 (swS g m Y m) → P (some (.int z)) (n + 1, t, K, L, J, R1)) : ∀ i : Int32, i ≤ 5 → ∀ J w, 0 ≤ i → i ≤ z → cH C c (n + 1) t K L J R1 → cuP C K L J R1 (swS g m Y i.toNatClampNeg) → gvC C IB RB WB mm J R1 (swS g m Y i.toNatClampNeg) → (∀ k, k < m → (J (C + 39) k = Y 20 (g k).toNatClampNeg ∧ J (C + 40) k = (Y 21 (g k).toNatClampNeg)) ∧ R1 (C + 38) k = R1 (C + 15) (g k).toNatClampNeg) → J (C + 35) 7 = z → a_at (d + 7) (a_xm a_m159) 35 [some (a_rf (C + 35)), some (.int i), w] [] (n + 1, t, K, L, J, R1) P := by
  refine up_ind 5 (fun i hk ih => ?_)
  intro J w q0 q1 hH hu hq kv e7
  have hT := hH.1
  have hS := hT.s
  have hz0 : ¬ z = 0 := by ((try clear hP); (try clear ih)); grind
  rw [q159_35]
  by_cases c : z ≤ i
  · have e : i = z := by ((try clear hP); (try clear ih)); grind
    have hp := hP J hH (by rw [e, ez] at hu; exact hu) (by rw [e, ez] at hq; exact hq)
    ((try clear hP); (try clear ih); (try clear hu))
    simp only [q159_36, q159_37, q159_40, q159_98, q159_99, q159_102, k_35 hS, z_35, as_nil, as_i, as_r, Nat.reduceAdd, Nat.reduceLeDiff, z_eq0, z_eq1, z_or, z_em, Classical.not_not, not_false_eq_true, not_true_eq_false, true_and, and_true, false_and, and_false, and_self, true_implies, false_implies, implies_true, Option.toList_some, Option.toList_none, List.cons_append, List.nil_append, Nat.add_eq_zero_iff, a_nl_i, a_nl_r, a_nl_n, true_or, or_true, eq_self, a_isRA_22, a_isRA_24, a_isRA_32, a_isA_20, ok_4, ok_5, ok_6, ok_7, ok_9, ok_20, ok_21, ok_30, ok_50, ok_180, ok_192, ok_200, e7]
    try simp only [true_and, and_true, true_implies, false_implies, implies_true, not_true_eq_false, not_false_eq_true]
    first
      | exact ⟨fun _ => hp, fun h => absurd c h⟩
      | exact hp
      | grind
  · have h1 := Int32.not_le.mp c
    have hi : 0 ≤ i ∧ i < 5 := ⟨q0, Int32.lt_of_lt_of_le h1 hz.2⟩
    have him : i.toNatClampNeg < m := by rw [← ez]; exact cl_lt q0 h1
    have hnm := nxN_lt (m := m) him
    have hx := nxt_lt hz.2 q0 h1
    have hx5 : 0 ≤ nxt z i ∧ nxt z i < 5 := ⟨hx.1, Int32.lt_of_lt_of_le hx.2 hz.2⟩
    have exn : (nxt z i).toNatClampNeg = (nxN m i.toNatClampNeg) := by rw [nxt_nx hz.2 q0 h1, ez]
    obtain ⟨t1, t2, t3, t4⟩ := lp_st q0 h1
    obtain ⟨⟨pb, pb6⟩, ps, psl⟩ := yl _ hnm
    obtain ⟨⟨a0, a1⟩, -⟩ := tp.1 _ him
    obtain ⟨⟨v39, v40⟩, -⟩ := kv _ hnm
    have er := (kv _ him).2
    have e10 := tp.2.2 _ him
    have r20 : (swS g m Y i.toNatClampNeg) 20 = (rgP g m Y (rgU g Y m) i.toNatClampNeg) 20 := sw_row (by decide) _
    have r21 : (swS g m Y i.toNatClampNeg) 21 = (rgP g m Y (rgU g Y m) i.toNatClampNeg) 21 := sw_row (by decide) _
    have r10 : (swS g m Y i.toNatClampNeg) 10 = (rgP g m Y (rgU g Y m) i.toNatClampNeg) 10 := sw_row (by decide) _
    have r14 : (swS g m Y i.toNatClampNeg) 14 = (rgP g m Y (rgU g Y m) i.toNatClampNeg) 14 := sw_row (by decide) _
    have r0 : (swS g m Y i.toNatClampNeg) 0 = (rgP g m Y (rgU g Y m) i.toNatClampNeg) 0 := sw_row (by decide) _
    have sW : ssE Y (rgP g m Y (rgU g Y m) i.toNatClampNeg) := ss_tr (rgU_s m) (rgP_s _)
    have e17 : (swS g m Y i.toNatClampNeg) 0 17 = Y 0 17 := by rw [r0]; exact sW 0 17 (by unfold ss ps1; omega)
    have e06 : (swS g m Y i.toNatClampNeg) 0 6 = Y 0 6 := by rw [r0]; exact sW 0 6 (by unfold ss ps1; omega)
    have o10 : (swS g m Y i.toNatClampNeg) 10 = Y 10 := by rw [r10]; exact rg_10 _
    have un : ¬ 0 ≤ (swS g m Y i.toNatClampNeg) 20 (g i.toNatClampNeg).toNatClampNeg := by
      rw [r20, rgP_o (g := g) (by decide) i.toNatClampNeg (fun k hk e => by have := tp.2.1 _ _ him (by omega) e; omega), rgU_at (g := g) (Or.inl rfl) m i.toNatClampNeg him]
      decide
    have hc := hu.1
    have ag : 0 ≤ g i.toNatClampNeg ∧ g i.toNatClampNeg < (swS g m Y i.toNatClampNeg) 0 17 := ⟨a0, by rw [e17]; exact a1⟩
    have ap := aa_of hc (i := g i.toNatClampNeg) ag.1 ag.2
    have hb : 0 ≤ (Y 20 (g (nxN m i.toNatClampNeg)).toNatClampNeg) ∧ (Y 20 (g (nxN m i.toNatClampNeg)).toNatClampNeg) < (swS g m Y i.toNatClampNeg) 0 6 := by rw [e06]; exact ⟨pb, pb6⟩
    have hsl : (Y 21 (g (nxN m i.toNatClampNeg)).toNatClampNeg) + (swS g m Y i.toNatClampNeg) 10 (g i.toNatClampNeg).toNatClampNeg ≤ 200 := by rw [o10, e10]; exact psl
    have l4 := hc.2.2.2.2.2.1 (g i.toNatClampNeg).toNatClampNeg
    obtain ⟨-, ⟨ha, an0, -⟩, -⟩ := id ap
    have hx96 := (hT.g_ask _ ha).1
    have x39 : J (C + 39) (nxt z i).toNatClampNeg = (Y 20 (g (nxN m i.toNatClampNeg)).toNatClampNeg) := by rw [exn]; exact v39
    have x40 : J (C + 40) (nxt z i).toNatClampNeg = (Y 21 (g (nxN m i.toNatClampNeg)).toNatClampNeg) := by rw [exn]; exact v40
    have fr : ∀ y : Int32, 0 ≤ y → y < (swS g m Y i.toNatClampNeg) 10 (g i.toNatClampNeg).toNatClampNeg → whC C J R1 (Y 20 (g (nxN m i.toNatClampNeg)).toNatClampNeg) ((Y 21 (g (nxN m i.toNatClampNeg)).toNatClampNeg) + y).toNatClampNeg = -9 := fun y y0 y1 => by
      have hsz := (sh_lt (i := y) ⟨ps.1, Int32.le_trans ps.2 (by decide)⟩ l4 hsl ⟨y0, Int32.le_of_lt y1⟩).1 y1
      refine hg_free hc ag hb hsz.1 un ?_
      have hf := (br_fx (ft_br (hr _ him) y0 (by rw [← r10]; exact y1))).2
      rw [hgI_r (Y := (rgP g m Y (rgU g Y m) i.toNatClampNeg)) (fun q hq => by rcases hq with h | h | h | h <;> subst h <;> assumption), r0]
      exact hf
    have hcall := ch_place (d := d + 1) (n := n + 1) (t := t) hT hc hu.2.1 ap rfl hb ps hsl un fr (P := fun r' h' => a_at (d + 7) (a_xm a_m159) 77 [some (a_rf (C + 35)), some (.int i), some (.int (nxt z i))] (r'.toList ++ []) h' P) (fun J2 j2 c2 z2 p1 p2 => by
      have hH2 := cH_J hH j2.1
      have hS2 := j2.1.s
      have hu2 := cu_Q hH hu (dQ_l j2) c2 hu.2.1 ss_pu ag z2 (no_pu hb.1 hu.2.2.2.1)
      have hu3 := cu_clW hH2 hu2 (a := g i.toNatClampNeg) ag
      have hH3 := cH_J hH2 (sT_Circle_wishes (k := (g i.toNatClampNeg).toNatClampNeg) (v := 0) j2.1)
      have hq2 := gvC_put hq hT hc hu.2.1 c2 j2 ag un hb ps hsl fr p1 p2
      have hq3 := gvC_w (gvC_fr hq2 j2.1 c2 (hf_ui (k := 36) (j := (g i.toNatClampNeg).toNatClampNeg) (v := 0) (by omega) (by omega))) (Z := clW (puY (swS g m Y i.toNatClampNeg) (g i.toNatClampNeg) (Y 20 (g (nxN m i.toNatClampNeg)).toNatClampNeg) (Y 21 (g (nxN m i.toNatClampNeg)).toNatClampNeg)) (g i.toNatClampNeg)) (cl_no (by omega)) (cl_no (by omega)) (fun k hk => funext (fun j => cl_no (by omega)))
      have f4 : J2 (R1 (C + 15) (g i.toNatClampNeg).toNatClampNeg) 4 = g i.toNatClampNeg := (aa_of c2 (i := g i.toNatClampNeg) ag.1 ag.2).2.1.2.2
      have fC : ∀ k, k ≤ 43 → ¬ k = 9 ∧ ¬ k = 10 ∧ ¬ k = 36 → ∀ j, a_ui J2 (C + 36) (g i.toNatClampNeg).toNatClampNeg 0 (C + k) j = J (C + k) j := fun k hk hn j => by
        rw [ui_ap, if_neg (by omega)]
        exact j2.2 _ _ (by omega) (by omega) (by omega)
      have g30 : 0 ≤ g i.toNatClampNeg ∧ g i.toNatClampNeg < 30 := ⟨a0, Int32.lt_of_lt_of_le ag.2 hc.2.2.2.2.2.2.2.2.1.2⟩
      have hg := ih hi.2 _ (some (.int (nxt z i))) t2 t3 hH3 (by rw [t4]; exact hu3) (by rw [t4]; exact hq3) (fun k hk => by
        rw [fC 39 (by omega) (by omega), fC 40 (by omega) (by omega)]
        exact kv k hk) ((fC 35 (by omega) (by omega) 7).trans e7)
      ((try clear ih); (try clear hP); (try clear hu); (try clear hc); (try clear c2); (try clear hu2); (try clear hu3); (try clear kv); (try clear yl); (try clear tp); (try clear hr))
      simp only [q159_77, q159_78, q159_81, q159_82, q159_85, q159_86, q159_87, q159_90, q159_91, q159_92, q159_95, k_35 hS, z_35, r_35_1 hS, k_36 hS, l_36 hS, z_36, r_35_3 hS, k_38 hS, l_38 hS, z_38, as_nil, as_i, as_r, Nat.reduceAdd, Nat.reduceLeDiff, z_eq0, z_eq1, z_or, z_em, Classical.not_not, not_false_eq_true, not_true_eq_false, true_and, and_true, false_and, and_false, and_self, true_implies, false_implies, implies_true, Option.toList_some, Option.toList_none, List.cons_append, List.nil_append, Nat.add_eq_zero_iff, a_nl_i, a_nl_r, a_nl_n, true_or, or_true, eq_self, a_isRA_22, a_isRA_24, a_isRA_32, a_isA_20, ok_4, ok_5, ok_6, ok_7, ok_9, ok_20, ok_21, ok_30, ok_50, ok_180, ok_192, ok_200, ui_ap, cc_ne, cc_n0, cc_0n, Nat.reduceEqDiff, reduceIte, if_true, if_false, er, ha, an0, f4]
      try simp only [true_and, and_true, true_implies, false_implies, implies_true, not_true_eq_false, not_false_eq_true]
      first
        | exact ⟨hi, g30, hg⟩
        | exact hg
        | grind)
    ((try clear ih); (try clear hP); (try clear hu); (try clear hc); (try clear kv); (try clear yl); (try clear tp); (try clear hr); (try clear fr))
    simp only [q159_36, q159_37, q159_40, q159_43, q159_44, q159_45, q159_46, q159_47, q159_50, q159_51, q159_52, q159_53, q159_56, q159_57, q159_60, q159_61, q159_62, q159_63, q159_66, q159_67, q159_68, q159_69, q159_72, q159_73, q159_74, k_35 hS, z_35, r_35_0 hS, k_14 hS, z_14, r_35_3 hS, k_38 hS, l_38 hS, z_38, r_35_4 hS, k_39 hS, l_39 hS, z_39, r_35_5 hS, k_40 hS, l_40 hS, z_40, as_nil, as_i, as_r, Nat.reduceAdd, Nat.reduceLeDiff, z_eq0, z_eq1, z_or, z_em, Classical.not_not, not_false_eq_true, not_true_eq_false, true_and, and_true, false_and, and_false, and_self, true_implies, false_implies, implies_true, Option.toList_some, Option.toList_none, List.cons_append, List.nil_append, Nat.add_eq_zero_iff, a_nl_i, a_nl_r, a_nl_n, true_or, or_true, eq_self, a_isRA_22, a_isRA_24, a_isRA_32, a_isA_20, ok_4, ok_5, ok_6, ok_7, ok_9, ok_20, ok_21, ok_30, ok_50, ok_180, ok_192, ok_200, e7, hz0]
    refine ⟨fun h => absurd h c, fun _ => ?_⟩
    show (0 ≤ i ∧ i < 5) ∧ (0 ≤ nxt z i ∧ nxt z i < 5) ∧ (0 ≤ nxt z i ∧ nxt z i < 5) ∧ _
    refine ⟨hi, hx5, hx5, ?_⟩
    rw [er]
    have hcall2 := hcall
    rw [← x39, ← x40] at hcall2
    exact hcall2
theorem lh_swap_6 {z : Int32} (ez : z.toNatClampNeg = m) (hz : 1 ≤ z ∧ z ≤ 5) (tp : tyP Y m g) {mm : Nat} (hmm : mm + 30 < 16384) (hP : ∀ n t K L J R1 w, cH C c (n + 1) t K L J R1 → cuP C K L J R1 (rgU g Y m) → tkC C IB RB WB (mm + 5) J R1 (rgU g Y m) → (∀ k, k < m → (J (C + 39) k = Y 20 (g k).toNatClampNeg ∧ J (C + 40) k = (Y 21 (g k).toNatClampNeg)) ∧ R1 (C + 38) k = R1 (C + 15) (g k).toNatClampNeg) → J (C + 35) 7 = z → a_at (d + 7) (a_xm a_m159) 33 [some (a_rf (C + 35)), w, none] [] (n + 1, t, K, L, J, R1) P) : ∀ i : Int32, i ≤ 5 → ∀ n t K L J R1, 0 ≤ i → i ≤ z → cH C c (n + 1) t K L J R1 → cuP C K L J R1 (rgU g Y i.toNatClampNeg) → tkC C IB RB WB (mm + i.toNatClampNeg) J R1 (rgU g Y i.toNatClampNeg) → (∀ k, k < m → (J (C + 39) k = Y 20 (g k).toNatClampNeg ∧ J (C + 40) k = (Y 21 (g k).toNatClampNeg)) ∧ R1 (C + 38) k = R1 (C + 15) (g k).toNatClampNeg) → J (C + 35) 7 = z → a_at (d + 7) (a_xm a_m159) 6 [some (a_rf (C + 35)), some (.int i), none] [] (n + 1, t, K, L, J, R1) P := by
  refine up_ind 5 (fun i hk ih => ?_)
  intro n t K L J R1 q0 q1 hH hu hq kv e7
  have hT := hH.1
  have hS := hT.s
  rw [q159_6]
  by_cases c : z ≤ i
  · have e : i = z := by ((try clear hP); (try clear ih)); grind
    have hp := hP n t K L J R1 (some (.int i)) hH (by rw [e, ez] at hu; exact hu) (by rw [e, ez] at hq; exact tkC_le hq (by have h5 := cl_le0 (x := z) (y := 5) (Int32.le_trans (by decide) hz.1) hz.2; rw [show (5 : Int32).toNatClampNeg = 5 from rfl] at h5; omega)) kv e7
    ((try clear hP); (try clear ih); (try clear hu))
    simp only [q159_7, q159_8, q159_11, k_35 hS, z_35, as_nil, as_i, as_r, Nat.reduceAdd, Nat.reduceLeDiff, z_eq0, z_eq1, z_or, z_em, Classical.not_not, not_false_eq_true, not_true_eq_false, true_and, and_true, false_and, and_false, and_self, true_implies, false_implies, implies_true, Option.toList_some, Option.toList_none, List.cons_append, List.nil_append, Nat.add_eq_zero_iff, a_nl_i, a_nl_r, a_nl_n, true_or, or_true, eq_self, a_isRA_22, a_isRA_24, a_isRA_32, a_isA_20, ok_4, ok_5, ok_6, ok_7, ok_9, ok_20, ok_21, ok_30, ok_50, ok_180, ok_192, ok_200, e7]
    try simp only [true_and, and_true, true_implies, false_implies, implies_true, not_true_eq_false, not_false_eq_true]
    first
      | exact ⟨fun _ => hp, fun h => absurd c h⟩
      | exact hp
      | grind
  · have h1 := Int32.not_le.mp c
    have hi : 0 ≤ i ∧ i < 5 := ⟨q0, Int32.lt_of_lt_of_le h1 hz.2⟩
    have him : i.toNatClampNeg < m := by rw [← ez]; exact cl_lt q0 h1
    obtain ⟨t1, t2, t3, t4⟩ := lp_st q0 h1
    obtain ⟨⟨a0, a1⟩, pa⟩ := tp.1 _ him
    have er := (kv _ him).2
    have o20 := rgU_o (g := g) (Y := Y) (q := 20) (j := (g i.toNatClampNeg).toNatClampNeg) i.toNatClampNeg (fun k hk e => by have := tp.2.1 _ _ him (by omega) e; omega)
    have e17 : rgU g Y i.toNatClampNeg 0 17 = Y 0 17 := rgU_s i.toNatClampNeg 0 17 (by unfold ss ps1; omega)
    have hc := hu.1
    have ag : 0 ≤ g i.toNatClampNeg ∧ g i.toNatClampNeg < rgU g Y i.toNatClampNeg 0 17 := ⟨a0, by rw [e17]; exact a1⟩
    have ap := aa_of hc (i := g i.toNatClampNeg) ag.1 ag.2
    obtain ⟨-, ⟨ha, an0, -⟩, -⟩ := id ap
    have c96 : C + 96 < n + 1 := hH.2.2.1
    have hcall := ch_clear (d := d + 2) hH hc hu.2.1 ap rfl (pc_lt hT hc hq.1 (by have := cl_lt (i := i) (j := 5) q0 hi.2; rw [show (5 : Int32).toNatClampNeg = 5 from rfl] at this; omega) (by rw [o20]; exact pa) (hc.2.1.2.2.2.1 _ ag.1 ag.2 (by rw [o20]; exact pa)).1).2 (P := fun r' h' => a_at (d + 7) (a_xm a_m159) 27 [some (a_rf (C + 35)), some (.int i), none] (r'.toList ++ []) h' P) (fun n2 t2' K2 L2 J2 R2 h2 hQ c2 s2 r15 z2 p1 p2 p3 p4 p5 p7 => by
      have hS2 := h2.1.s
      have hu2 := cu_Q hH hu hQ c2 s2 ss_un ag z2 (no_un hu.2.2.2.1)
      have hq2 := tkC_un hq hT hH.2.1 hc hu.2.1 (by have := cl_lt (i := i) (j := 5) q0 hi.2; rw [show (5 : Int32).toNatClampNeg = 5 from rfl] at this; omega) c2 ag (by rw [o20]; exact pa) (hQ.2.2.2.2 _ _ (by omega) (by omega) (by omega) (by omega)) p1 p2 p3 p4 p5 p7
      have hg := ih hi.2 n2 t2' K2 L2 J2 R2 t2 t3 h2 (by rw [t4]; exact hu2) (by rw [t4]; exact hq2) (fun k hk => by
        rw [hQ.2.2.2.2 _ _ (by omega) (by omega) (by omega) (by omega), hQ.2.2.2.2 _ _ (by omega) (by omega) (by omega) (by omega), hQ.2.2.2.1 (C + 38) _ (by omega) (by rw [k_38 hS]; decide), r15]
        exact kv k hk) (by rw [hQ.2.2.2.2 _ _ (by omega) (by omega) (by omega) (by omega)]; exact e7)
      ((try clear ih); (try clear hP); (try clear hu); (try clear hc); (try clear c2); (try clear hu2); (try clear kv); (try clear tp))
      simp only [q159_27, q159_30, as_nil, as_i, as_r, Nat.reduceAdd, Nat.reduceLeDiff, z_eq0, z_eq1, z_or, z_em, Classical.not_not, not_false_eq_true, not_true_eq_false, true_and, and_true, false_and, and_false, and_self, true_implies, false_implies, implies_true, Option.toList_some, Option.toList_none, List.cons_append, List.nil_append, Nat.add_eq_zero_iff, a_nl_i, a_nl_r, a_nl_n, true_or, or_true, eq_self, a_isRA_22, a_isRA_24, a_isRA_32, a_isA_20, ok_4, ok_5, ok_6, ok_7, ok_9, ok_20, ok_21, ok_30, ok_50, ok_180, ok_192, ok_200]
      exact hg) (by rw [o20]; exact pa)
    ((try clear ih); (try clear hP); (try clear hu); (try clear hc); (try clear kv); (try clear tp))
    simp only [q159_7, q159_8, q159_11, q159_14, q159_15, q159_18, q159_19, q159_22, q159_23, q159_24, k_35 hS, z_35, r_35_0 hS, k_14 hS, z_14, r_35_3 hS, k_38 hS, l_38 hS, z_38, as_nil, as_i, as_r, Nat.reduceAdd, Nat.reduceLeDiff, z_eq0, z_eq1, z_or, z_em, Classical.not_not, not_false_eq_true, not_true_eq_false, true_and, and_true, false_and, and_false, and_self, true_implies, false_implies, implies_true, Option.toList_some, Option.toList_none, List.cons_append, List.nil_append, Nat.add_eq_zero_iff, a_nl_i, a_nl_r, a_nl_n, true_or, or_true, eq_self, a_isRA_22, a_isRA_24, a_isRA_32, a_isA_20, ok_4, ok_5, ok_6, ok_7, ok_9, ok_20, ok_21, ok_30, ok_50, ok_180, ok_192, ok_200, e7, hi, er, an0, ha]
    refine ⟨fun h => absurd h c, fun _ => ?_⟩
    try simp only [true_and, and_true, true_implies, false_implies, implies_true, not_true_eq_false, not_false_eq_true]
    first
      | exact hcall
      | exact ⟨hi, hcall⟩
theorem ch_turn {z : Int32} (ez : z.toNatClampNeg = m) (hz : 1 ≤ z ∧ z ≤ 5) (hH : cH C c (n + 1) t K L I R) (hu : cuP C K L I R Y) {mm : Nat} (hq : tkC C IB RB WB mm I R Y) (hmm : mm + 30 < 16384) (r : rgA Y m g) (hb : mbP C R Y m g) (es : I (C + 35) 7 = z) (hP : ∀ JB RB2 n' t' K' L' J R', cH C c (n' + 1) t' K' L' J R' → cuP C K' L' J R' (swS g m Y m) → tkC C IB RB WB (mm + 5) JB RB2 (rgU g Y m) → gvC C JB RB2 (rgU g Y m) (mm + 5) J R' (swS g m Y m) → P (some (.int z)) (n' + 1, t', K', L', J, R')) : a_does (d + 8) 159 [a_rf (C + 35)] (n + 1, t, K, L, I, R) P := by
  have hT := hH.1
  have hS := hT.s
  have ty := rg_ty r
  have tp : tuP C R Y m g := ⟨fun k hk => ⟨(ty.1 k hk).1, (ty.1 k hk).2, (hb k hk).2⟩, ty.2.1, ty.2.2⟩
  have hz0 : 0 ≤ z ∧ z ≤ 5 := ⟨Int32.le_trans (by decide) hz.1, hz.2⟩
  have hno0 : noP Y := hu.2.2.2.1
  have yl : ∀ k, k < m → (0 ≤ Y 20 (g k).toNatClampNeg ∧ Y 20 (g k).toNatClampNeg < Y 0 6) ∧ (0 ≤ (Y 21 (g k).toNatClampNeg) ∧ (Y 21 (g k).toNatClampNeg) ≤ 199) ∧ (Y 21 (g k).toNatClampNeg) + (Y 10 (g 0).toNatClampNeg) ≤ 200 := fun k hk => by
    obtain ⟨a1, a2, a3, -⟩ := tp_pl hu.1 tp hk
    exact ⟨a1, a2, a3⟩
  have hmain := ce_keep (d := d + 5) (n := n + 1) (t := t) hT hu.1 hu.2.1 tp ez hz0 es (P := fun r' h' => a_at (d + 7) (a_xm a_m159) 4 [some (a_rf (C + 35)), none, none] (r'.toList ++ []) h' P) (fun J1 T1 k1 => by
    have hS1 := T1.s
    have q1 := kp_fq hH T1 k1
    have hu1 := fq_cu hH hu q1
    have e7 : J1 (C + 35) 7 = z := (k1.1 _ _ (by omega) (by omega) (by omega)).trans es
    have hl := lh_swap_6 (d := d) (c := c) (C := C) (P := P) ez hz ty (IB := IB) (RB := RB) (WB := WB) hmm (fun n t K L J R1 w hH hu hq kv e7 => by
      have hS := hH.1.s
      have hg := lh_swap_35 (d := d) (n := n) (t := t) (P := P) (R1 := R1) ez hz ty r.2 yl hno0 (IB := J) (RB := R1) (WB := rgU g Y m) (fun J2 h2 u2 g2 => hP J R1 n t K L J2 R1 h2 u2 hq g2) 0 (by decide) J none (by decide) hz0.1 hH hu (gvC_0 hu.1 hq.1) kv e7
      ((try clear hP); (try clear hu); (try clear kv))
      simp only [q159_33, q159_34, as_nil, as_i, as_r, Nat.reduceAdd, Nat.reduceLeDiff, z_eq0, z_eq1, z_or, z_em, Classical.not_not, not_false_eq_true, not_true_eq_false, true_and, and_true, false_and, and_false, and_self, true_implies, false_implies, implies_true, Option.toList_some, Option.toList_none, List.cons_append, List.nil_append, Nat.add_eq_zero_iff, a_nl_i, a_nl_r, a_nl_n, true_or, or_true, eq_self, a_isRA_22, a_isRA_24, a_isRA_32, a_isA_20, ok_4, ok_5, ok_6, ok_7, ok_9, ok_20, ok_21, ok_30, ok_50, ok_180, ok_192, ok_200]
      exact hg) 0 (by decide) n t K L J1 R (by decide) hz0.1 q1.1 hu1 (tkC_le (tkC_fr hq hT hu.1 ⟨fun x j hx _ => k1.1 _ _ (by omega) (by omega) (by omega), k1.1 _ _ (by omega) (by omega) (by omega), fun _ _ _ => rfl, fun x j p q => k1.1 _ _ (by omega) (by omega) (by omega)⟩) (Nat.le_add_right _ _)) (fun k hk => ⟨k1.2.1 k hk, (hb k hk).2⟩) e7
    ((try clear hP); (try clear hu); (try clear hu1); (try clear k1); (try clear yl); (try clear tp); (try clear hb); (try clear r))
    simp only [q159_4, q159_5, as_nil, as_i, as_r, Nat.reduceAdd, Nat.reduceLeDiff, z_eq0, z_eq1, z_or, z_em, Classical.not_not, not_false_eq_true, not_true_eq_false, true_and, and_true, false_and, and_false, and_self, true_implies, false_implies, implies_true, Option.toList_some, Option.toList_none, List.cons_append, List.nil_append, Nat.add_eq_zero_iff, a_nl_i, a_nl_r, a_nl_n, true_or, or_true, eq_self, a_isRA_22, a_isRA_24, a_isRA_32, a_isA_20, ok_4, ok_5, ok_6, ok_7, ok_9, ok_20, ok_21, ok_30, ok_50, ok_180, ok_192, ok_200]
    exact hl)
  ((try clear hP); (try clear hu); (try clear yl); (try clear tp); (try clear hb); (try clear r))
  rw [a_enter1 (M := a_m159) rfl (a_cat_rf a_cat_nil) (show 1 ≤ 3 by decide)]
  show a_at _ (a_xm a_m159) 0 [some (a_rf (C + 35)), none, none] [] _ _
  simp only [q159_0, q159_1, k_35 hS, z_35, as_nil, as_i, as_r, Nat.reduceAdd, Nat.reduceLeDiff, z_eq0, z_eq1, z_or, z_em, Classical.not_not, not_false_eq_true, not_true_eq_false, true_and, and_true, false_and, and_false, and_self, true_implies, false_implies, implies_true, Option.toList_some, Option.toList_none, List.cons_append, List.nil_append, Nat.add_eq_zero_iff, a_nl_i, a_nl_r, a_nl_n, true_or, or_true, eq_self, a_isRA_22, a_isRA_24, a_isRA_32, a_isA_20, ok_4, ok_5, ok_6, ok_7, ok_9, ok_20, ok_21, ok_30, ok_50, ok_180, ok_192, ok_200]
  exact hmain
theorem hf_q (hT : cT C K L I R) (h : fqP C c n t K L I R J R1) : hfE C K I R J R1 := ⟨fun x j hx _ => h.2.2 _ _ (by omega) (by omega) (by omega) (by omega) (by omega) (by omega) (by omega), h.2.2 _ _ (by omega) (by omega) (by omega) (by omega) (by omega) (by omega) (by omega), (hf_rf hT h.2.1).2.2.1, fun x j p q => h.2.2 _ _ (by omega) (by omega) (by omega) (by omega) (by omega) (by omega) (by omega)⟩
theorem hf_b (hT : cT C K L I R) (h : fbP C c n t K L I R J R1) : hfE C K I R J R1 := ⟨fun x j hx _ => h.2.2 _ _ (by omega) (by omega) (by omega), h.2.2 _ _ (by omega) (by omega) (by omega), (hf_rf hT h.2.1).2.2.1, fun x j p q => h.2.2 _ _ (by omega) (by omega) (by omega)⟩
theorem gk_swap (hH : cH C c (n + 1) t K L I R) (hu : cuP C K L I R Y) (hi : ciP C I R Y m) (hm : m + 30 < 16384) (hP : ∀ v Z W1 n' t' K' L' J R', swO Y v Z → swW Y W1 → cH C c (n' + 1) t' K' L' J R' → cuP C K' L' J R' Z → hxK C I R Y m J R' W1 Z → P (some (.int v)) (n' + 1, t', K', L', J, R')) : a_does (d + 70) 158 [a_rf C] (n + 1, t, K, L, I, R) P := by
  have hS := hH.1.s
  have hl := ce_find (d := d + 28) (n := n + 1) hH hu (P := fun r' h' => a_at (d + 69) (a_xm a_m158) 7 [some (a_rf C)] (r'.toList ++ []) h' P) (fun v J R1 g q es hv hr hb => by
    have hT2 := q.1.1
    have hS := hT2.s
    have hu2 := fq_cu hH hu q
    have hfq : hfE C K I R J R1 := hf_q hH.1 q
    by_cases c1 : v = 0
    · have hf := gr_refuse (d := d + 68) (v := -3) q.1 hu2 (P := fun r' h' => a_at (d + 69) (a_xm a_m158) 16 [some (a_rf C)] (r'.toList ++ []) h' P) (fun J2 z2 u2 z3 => by
        have hS := z2.1.s
        have hp := hP (-3) Y Y n t K L J2 R1 ⟨_, g, hr, Or.inl ⟨by rw [c1]; rfl, rfl, rfl⟩⟩ ⟨_, g, hr, by rw [c1]; rfl⟩ z2 u2 (hk_fr hH.1 hu.1 hi (hf_tr hfq z3))
        ((try clear hP); (try clear hu); (try clear hu2); (try clear hr); (try clear hb); (try clear q))
        simp only [q158_16, as_nil, as_i, as_r, Nat.reduceAdd, Nat.reduceLeDiff, z_eq0, z_eq1, z_or, z_em, Classical.not_not, not_false_eq_true, not_true_eq_false, true_and, and_true, false_and, and_false, and_self, true_implies, false_implies, implies_true, Option.toList_some, Option.toList_none, List.cons_append, List.nil_append, Nat.add_eq_zero_iff, a_nl_i, a_nl_r, a_nl_n, true_or, or_true, eq_self, a_isRA_22, a_isRA_24, a_isRA_32, a_isA_20, ok_4, ok_5, ok_6, ok_7, ok_9, ok_20, ok_21, ok_30, ok_50, ok_180, ok_192, ok_200]
        exact hp)
      ((try clear hP); (try clear hu); (try clear hu2); (try clear hr); (try clear hb); (try clear q))
      simp only [q158_7, q158_10, q158_11, q158_13, k_0 hS, z_C hS, as_nil, as_i, as_r, Nat.reduceAdd, Nat.reduceLeDiff, z_eq0, z_eq1, z_or, z_em, Classical.not_not, not_false_eq_true, not_true_eq_false, true_and, and_true, false_and, and_false, and_self, true_implies, false_implies, implies_true, Option.toList_some, Option.toList_none, List.cons_append, List.nil_append, Nat.add_eq_zero_iff, a_nl_i, a_nl_r, a_nl_n, true_or, or_true, eq_self, a_isRA_22, a_isRA_24, a_isRA_32, a_isA_20, ok_4, ok_5, ok_6, ok_7, ok_9, ok_20, ok_21, ok_30, ok_50, ok_180, ok_192, ok_200, c1]
      try simp only [true_and, and_true, true_implies, false_implies, implies_true, not_true_eq_false, not_false_eq_true]
      first
        | exact hf
        | exact ⟨fun h => absurd rfl h, fun _ => hf⟩
        | grind
    · have v25 := hv.resolve_left c1
      have v1 : 1 ≤ v ∧ v ≤ 5 := ⟨Int32.le_trans (by decide) v25.1, v25.2⟩
      have v0 : 0 ≤ v := Int32.le_trans (by decide) v25.1
      have vn : 1 < v.toNatClampNeg := cl_lt (i := 1) (by decide) (Int32.lt_of_lt_of_le (by decide) v25.1)
      rcases hr with ⟨e, -⟩ | hr2
      · omega
      · have ht := ch_turn (d := d + 61) (m := v.toNatClampNeg) rfl v1 q.1 hu2 (tkC_fr (tkC_0 hu.1 hi) hH.1 hu.1 hfq) hm hr2.2.1 hb es (P := fun r' h' => a_at (d + 69) (a_xm a_m158) 24 [some (a_rf C)] (r'.toList ++ []) h' P) (fun JB RB2 n' t' K' L' J2 R2 z2 u2 g1 g2 => by
          have hS := z2.1.s
          have hp := hP v _ _ n' t' K' L' J2 R2 ⟨_, g, Or.inr hr2, Or.inr ⟨by omega, on_cl v0, rfl⟩⟩ ⟨_, g, Or.inr hr2, rfl⟩ z2 u2 (hk_tg (by omega) g1 g2)
          ((try clear hP); (try clear hu); (try clear hu2); (try clear hr2); (try clear hb); (try clear q))
          simp only [q158_24, as_nil, as_i, as_r, Nat.reduceAdd, Nat.reduceLeDiff, z_eq0, z_eq1, z_or, z_em, Classical.not_not, not_false_eq_true, not_true_eq_false, true_and, and_true, false_and, and_false, and_self, true_implies, false_implies, implies_true, Option.toList_some, Option.toList_none, List.cons_append, List.nil_append, Nat.add_eq_zero_iff, a_nl_i, a_nl_r, a_nl_n, true_or, or_true, eq_self, a_isRA_22, a_isRA_24, a_isRA_32, a_isA_20, ok_4, ok_5, ok_6, ok_7, ok_9, ok_20, ok_21, ok_30, ok_50, ok_180, ok_192, ok_200]
          exact hp)
        ((try clear hP); (try clear hu); (try clear hu2); (try clear hr2); (try clear hb); (try clear q))
        simp only [q158_7, q158_17, q158_18, q158_21, k_0 hS, z_C hS, r_0_7 hS, k_35 hS, z_35, as_nil, as_i, as_r, Nat.reduceAdd, Nat.reduceLeDiff, z_eq0, z_eq1, z_or, z_em, Classical.not_not, not_false_eq_true, not_true_eq_false, true_and, and_true, false_and, and_false, and_self, true_implies, false_implies, implies_true, Option.toList_some, Option.toList_none, List.cons_append, List.nil_append, Nat.add_eq_zero_iff, a_nl_i, a_nl_r, a_nl_n, true_or, or_true, eq_self, a_isRA_22, a_isRA_24, a_isRA_32, a_isA_20, ok_4, ok_5, ok_6, ok_7, ok_9, ok_20, ok_21, ok_30, ok_50, ok_180, ok_192, ok_200, c1]
        try simp only [true_and, and_true, true_implies, false_implies, implies_true, not_true_eq_false, not_false_eq_true]
        first
          | exact ht
          | grind)
  ((try clear hP); (try clear hu))
  rw [a_enter1 (M := a_m158) rfl (a_cat_rf a_cat_nil) (show 1 ≤ 1 by decide)]
  show a_at _ (a_xm a_m158) 0 [some (a_rf C)] [] _ _
  simp only [q158_0, q158_1, q158_4, k_0 hS, z_C hS, r_0_7 hS, k_35 hS, z_35, as_nil, as_i, as_r, Nat.reduceAdd, Nat.reduceLeDiff, z_eq0, z_eq1, z_or, z_em, Classical.not_not, not_false_eq_true, not_true_eq_false, true_and, and_true, false_and, and_false, and_self, true_implies, false_implies, implies_true, Option.toList_some, Option.toList_none, List.cons_append, List.nil_append, Nat.add_eq_zero_iff, a_nl_i, a_nl_r, a_nl_n, true_or, or_true, eq_self, a_isRA_22, a_isRA_24, a_isRA_32, a_isA_20, ok_4, ok_5, ok_6, ok_7, ok_9, ok_20, ok_21, ok_30, ok_50, ok_180, ok_192, ok_200]
  try simp only [true_and, and_true, true_implies, false_implies, implies_true, not_true_eq_false, not_false_eq_true]
  first
    | exact hl
    | grind
end HH0
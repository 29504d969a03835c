/-! withdraw, danger -/
section YO0
variable {d n t C c : Nat} {K L : Nat → Nat} {I I0 J J0 J1 J2 : Nat → Nat → Int32} {R : Nat → Nat → Nat} {P : Option Value → AH → Prop}
variable {Y Z W : Nat → Nat → Int32} {R' R1 : Nat → Nat → Nat} {K' L' : Nat → Nat}
def wdY (Y : Nat → Nat → Int32) (a : Int32) : Int32 × (Nat → Nat → Int32) := if ¬ (0 ≤ a ∧ a < Y 0 17) then (-1, Y) else if ¬ Y 18 a.toNatClampNeg = 0 then (-3, Y) else (1, if 0 ≤ Y 20 a.toNatClampNeg then unY (upY Y 18 a.toNatClampNeg 1) a else upY Y 18 a.toNatClampNeg 1)
def dgY (Y : Nat → Nat → Int32) (a v : Int32) : Int32 × (Nat → Nat → Int32) := if ¬ (0 ≤ a ∧ a < Y 0 17) then (-1, Y) else if v < 0 then (-4, Y) else if 9 < v then (-6, Y) else if agB (upY Y 15 a.toNatClampNeg v) a = true then (1, unY (upY Y 15 a.toNatClampNeg v) a) else (0, upY Y 15 a.toNatClampNeg v)
theorem ui_same {x k : Nat} {v : Int32} (h : I x k = v) : a_ui I x k v = I := by
  funext y j
  rw [ui_ap]
  by_cases e : y = x ∧ j = k
  · rw [if_pos e, e.1, e.2, h]
  · rw [if_neg e]
theorem al_15 {i : Int32} {a : Nat} (h : alP I Y i a) : alP (a_ui I a 15 1) (upY Y 18 i.toNatClampNeg 1) i a := by
  unfold alP at h ⊢
  simp only [ui_ap, upY, true_and, and_true, Nat.reduceEqDiff, false_and, if_false, if_true, reduceIte]
  exact ⟨h.1, h.2.1, h.2.2.1, h.2.2.2.1, h.2.2.2.2.2⟩
theorem al_9 {i v : Int32} {a : Nat} (h : alP I Y i a) : alP (a_ui I a 9 v) (upY Y 15 i.toNatClampNeg v) i a := by
  unfold alP at h ⊢
  simp only [ui_ap, upY, true_and, and_true, Nat.reduceEqDiff, false_and, if_false, if_true, reduceIte]
  exact ⟨h.1, ⟨h.2.1.1, h.2.1.2.1, h.2.1.2.2.1⟩, h.2.2.1, h.2.2.2.1, h.2.2.2.2.1, h.2.2.2.2.2⟩
theorem up_row {k j : Nat} {v : Int32} : ∀ x, ¬ x = j → upY Y k j v 15 x = Y 15 x ∧ upY Y k j v 18 x = Y 18 x ∧ upY Y k j v 19 x = Y 19 x := fun x hx => ⟨up_no (fun q => hx q.2), up_no (fun q => hx q.2), up_no (fun q => hx q.2)⟩
theorem ge_withdraw (hH : cH C c (n + 1) t K L I R) (hu : cuP C K L I R Y) {a : Int32} (hP : ∀ n' t' K' L' J R', cH C c (n' + 1) t' K' L' J R' → cuP C K' L' J R' (wdY Y a).2 → P (some (.int (wdY Y a).1)) (n' + 1, t', K', L', J, R')) : a_does (d + 70) 44 [a_rf C, .int a] (n + 1, t, K, L, I, R) P := by
  have hT := hH.1
  have hS := hT.s
  have gA := hT.g_asksR
  have gB := hT.g_benchesR
  have gX := hT.g_textsR
  have hc := hu.1
  have h17 := hc.2.2.2.2.2.2.2.2.1
  have e4 : I (C + 14) 4 = Y 0 17 := hc.2.2.1.1
  unfold wdY at hP
  by_cases c1 : 0 ≤ a ∧ a < Y 0 17
  · rw [if_neg (fun q => q c1)] at hP
    have hac : 0 ≤ a ∧ a < I (C + 14) 4 ∧ a < 30 := ⟨c1.1, by rw [e4]; exact c1.2, Int32.lt_of_lt_of_le c1.2 h17.2⟩
    have ap := aa_of hc c1.1 c1.2
    obtain ⟨-, ⟨ha, an0, a4n⟩, am, al⟩ := id ap
    have a0 : ((R (C + 15) a.toNatClampNeg) = 0) = False := eq_false an0
    have aC := (hT.g_ask _ ha).1
    have gasks := hT.g_asks
    have e13 : I (R (C + 15) a.toNatClampNeg) 13 = Y 20 a.toNatClampNeg := al.2.2.2.1.1
    have e15 : (I (R (C + 15) a.toNatClampNeg) 15 = 0) = (Y 18 a.toNatClampNeg = 0) := propext al.2.2.2.2.1
    by_cases c2 : Y 18 a.toNatClampNeg = 0
    · rw [if_neg (fun q => q c2)] at hP
      have hT1 := sT_askf hT aC ha (k := 15) (v := 1) (by omega)
      have hu1 := cu_af hH hu c1 (rw_up9 (j := a.toNatClampNeg) (v := 1) (Or.inr (Or.inl rfl))) (funext (fun m => up_no (by omega))) (j := 15) (v := 1) (Or.inr (Or.inl rfl)) (al_15 al) up_row
      have hH1 := cH_J hH hT1
      have z17 : upY Y 18 a.toNatClampNeg 1 0 17 = Y 0 17 := up_no (by omega)
      have z20 : upY Y 18 a.toNatClampNeg 1 20 a.toNatClampNeg = Y 20 a.toNatClampNeg := up_no (by omega)
      have f13 : a_ui I (R (C + 15) a.toNatClampNeg) 15 1 (R (C + 15) a.toNatClampNeg) 13 = Y 20 a.toNatClampNeg := by rw [ui_ap, if_neg (by omega)]; exact e13
      have i30 : a.toNatClampNeg < 30 := a_lt30 ⟨hac.1, hac.2.2⟩
      generalize eJ : a_ui I (R (C + 15) a.toNatClampNeg) 15 1 = J1 at hT1 hu1 hH1 f13
      have hcl : a_does (d + 69) 45 [a_rf (C + 14), a_rf (R (C + 15) a.toNatClampNeg)] (n + 1, t, K, L, J1, R) (fun r h' => a_at (d + 69) (a_xm a_m44) 46 [some (a_rf C), some (.int a), some (a_rf (R (C + 15) a.toNatClampNeg))] (r.toList ++ []) h' P) := by
        by_cases c3 : 0 ≤ Y 20 a.toNatClampNeg
        · refine ce_clear (d := d + 64) hH1 hu1.1 hu1.2.1 (aa_of hu1.1 c1.1 (by rw [z17]; exact c1.2)) rfl (fun n' t' K' L' J R' hH' hQ hc' hse' h15 haz => ?_) (by rw [z20]; exact c3)
          dsimp only at hP
          rw [if_pos c3] at hP
          have hp := hP n' t' K' L' J R' hH' (cu_Q hH1 hu1 hQ hc' hse' ss_un (by rw [z17]; exact c1) haz (no_un hu1.2.2.2.1))
          clear hP hc ap al am hu hu1
          simp only [q44_46, q44_47, as_nil, as_i, as_r, Nat.reduceAdd, Nat.reduceLeDiff, z_eq0, z_eq1, z_or, z_em, Classical.not_not, not_false_eq_true, not_true_eq_false, true_and, and_true, false_and, and_false, and_self, true_implies, false_implies, implies_true, Option.toList_some, Option.toList_none, List.cons_append, List.nil_append, Nat.add_eq_zero_iff, a_nl_i, a_nl_r, a_nl_n, true_or, or_true, eq_self, a_isRA_22, a_isRA_24, a_isRA_32, a_isA_20, ok_4, ok_5, ok_6, ok_7, ok_9, ok_20, ok_21, ok_30, ok_50, ok_180, ok_192, ok_200]
          exact hp
        · dsimp only at hP
          rw [if_neg c3] at hP
          obtain ⟨w1, w2⟩ := hu1.2.2.2.1 a.toNatClampNeg i30 (by rw [z20]; exact c3)
          have f14 : J1 (R (C + 15) a.toNatClampNeg) 14 = -9 := by
            have := (hu1.1.2.2.1.2.2.2 a c1.1 (by rw [z17]; exact c1.2)).2.2.2.1.2
            rw [this]
            exact w2
          rw [z20] at w1
          rw [w1] at f13
          have hp := hP n t K L J1 R hH1 hu1
          have hS1 := hT1.s
          have n9 : ¬ (0 : Int32) ≤ -9 := by decide
          have s13 := ui_same f13
          have s14 := ui_same f14
          clear hP hc ap al am hu hu1
          rw [a_enter1 (M := a_m45) rfl (a_cat_rf (a_cat_rf a_cat_nil)) (show 2 ≤ 3 by decide)]
          show a_at _ (a_xm a_m45) 0 [some (a_rf (C + 14)), some (a_rf (R (C + 15) a.toNatClampNeg)), none] [] _ _
          simp only [q45_0, q45_1, q45_2, q45_5, q45_8, q45_9, q45_10, q45_44, q45_45, q45_46, k_14 hS1, z_14, sp_benchAt hS1 gB, as_nil, as_i, as_r, Nat.reduceAdd, Nat.reduceLeDiff, z_eq0, z_eq1, z_or, z_em, Classical.not_not, not_false_eq_true, not_true_eq_false, true_and, and_true, false_and, and_false, and_self, true_implies, false_implies, implies_true, Option.toList_some, Option.toList_none, List.cons_append, List.nil_append, Nat.add_eq_zero_iff, a_nl_i, a_nl_r, a_nl_n, true_or, or_true, eq_self, a_isRA_22, a_isRA_24, a_isRA_32, a_isA_20, ok_4, ok_5, ok_6, ok_7, ok_9, ok_20, ok_21, ok_30, ok_50, ok_180, ok_192, ok_200, ha, a0, f13, n9]
          try simp only [true_and, and_true, true_implies, false_implies, implies_true, not_true_eq_false, not_false_eq_true]
          rw [a_enter1 (M := a_m51) rfl (a_cat_rf (a_cat_rf a_cat_nil)) (show 2 ≤ 4 by decide)]
          show a_at _ (a_xm a_m51) 0 [some (a_rf (C + 14)), some (a_rf (R (C + 15) a.toNatClampNeg)), none, none] [] _ _
          simp only [q51_0, q51_1, q51_2, q51_5, q51_8, q51_9, q51_10, q51_13, q51_14, q51_15, q51_47, q51_48, q51_50, q51_53, q51_54, q51_56, q51_59, k_14 hS1, z_14, sp_benchAt hS1 gB, as_nil, as_i, as_r, Nat.reduceAdd, Nat.reduceLeDiff, z_eq0, z_eq1, z_or, z_em, Classical.not_not, not_false_eq_true, not_true_eq_false, true_and, and_true, false_and, and_false, and_self, true_implies, false_implies, implies_true, Option.toList_some, Option.toList_none, List.cons_append, List.nil_append, Nat.add_eq_zero_iff, a_nl_i, a_nl_r, a_nl_n, true_or, or_true, eq_self, a_isRA_22, a_isRA_24, a_isRA_32, a_isA_20, ok_4, ok_5, ok_6, ok_7, ok_9, ok_20, ok_21, ok_30, ok_50, ok_180, ok_192, ok_200, ha, a0, f13, n9, s13, s14]
          try simp only [true_and, and_true, true_implies, false_implies, implies_true, not_true_eq_false, not_false_eq_true]
          simp only [q45_49, q44_46, q44_47, as_nil, as_i, as_r, Nat.reduceAdd, Nat.reduceLeDiff, z_eq0, z_eq1, z_or, z_em, Classical.not_not, not_false_eq_true, not_true_eq_false, true_and, and_true, false_and, and_false, and_self, true_implies, false_implies, implies_true, Option.toList_some, Option.toList_none, List.cons_append, List.nil_append, Nat.add_eq_zero_iff, a_nl_i, a_nl_r, a_nl_n, true_or, or_true, eq_self, a_isRA_22, a_isRA_24, a_isRA_32, a_isA_20, ok_4, ok_5, ok_6, ok_7, ok_9, ok_20, ok_21, ok_30, ok_50, ok_180, ok_192, ok_200]
          first
            | exact hp
            | grind
      clear hP hc ap al am hu hu1
      rw [a_enter1 (M := a_m44) rfl (a_cat_rf (a_cat_int a_cat_nil)) (show 2 ≤ 3 by decide)]
      show a_at _ (a_xm a_m44) 0 [some (a_rf C), some (.int a), none] [] _ _
      simp only [q44_0, q44_1, q44_4, q44_5, q44_8, q44_9, q44_10, q44_13, q44_14, q44_15, q44_18, q44_19, q44_20, q44_23, q44_26, q44_27, q44_29, q44_32, q44_33, q44_34, q44_35, q44_38, q44_39, q44_42, q44_43, k_0 hS, z_C hS, r_0_4 hS, k_14 hS, z_14, sp_askAt hS gA, as_nil, as_i, as_r, Nat.reduceAdd, Nat.reduceLeDiff, z_eq0, z_eq1, z_or, z_em, Classical.not_not, not_false_eq_true, not_true_eq_false, true_and, and_true, false_and, and_false, and_self, true_implies, false_implies, implies_true, Option.toList_some, Option.toList_none, List.cons_append, List.nil_append, Nat.add_eq_zero_iff, a_nl_i, a_nl_r, a_nl_n, true_or, or_true, eq_self, a_isRA_22, a_isRA_24, a_isRA_32, a_isA_20, ok_4, ok_5, ok_6, ok_7, ok_9, ok_20, ok_21, ok_30, ok_50, ok_180, ok_192, ok_200, hac, ha, a0, e15, c2, eJ]
      try simp only [true_and, and_true, true_implies, false_implies, implies_true, not_true_eq_false, not_false_eq_true]
      first
        | exact hcl
        | grind
    · rw [if_pos c2] at hP
      have hr : a_does (d + 69) 10 [a_rf C, .int (-3)] (n + 1, t, K, L, I, R) (fun r h' => a_at (d + 69) (a_xm a_m44) 32 [some (a_rf C), some (.int a), some (a_rf (R (C + 15) a.toNatClampNeg))] (r.toList ++ []) h' P) := by
        refine ge_refuse (d := d + 68) hH hu (fun J z1 z2 => ?_)
        have hp := hP n t K L J R z1 z2
        clear hP hc hu
        simp only [q44_32, as_nil, as_i, as_r, Nat.reduceAdd, Nat.reduceLeDiff, z_eq0, z_eq1, z_or, z_em, Classical.not_not, not_false_eq_true, not_true_eq_false, true_and, and_true, false_and, and_false, and_self, true_implies, false_implies, implies_true, Option.toList_some, Option.toList_none, List.cons_append, List.nil_append, Nat.add_eq_zero_iff, a_nl_i, a_nl_r, a_nl_n, true_or, or_true, eq_self, a_isRA_22, a_isRA_24, a_isRA_32, a_isA_20, ok_4, ok_5, ok_6, ok_7, ok_9, ok_20, ok_21, ok_30, ok_50, ok_180, ok_192, ok_200]
        exact hp
      clear hP hc hu
      rw [a_enter1 (M := a_m44) rfl (a_cat_rf (a_cat_int a_cat_nil)) (show 2 ≤ 3 by decide)]
      show a_at _ (a_xm a_m44) 0 [some (a_rf C), some (.int a), none] [] _ _
      simp only [q44_0, q44_1, q44_4, q44_5, q44_8, q44_9, q44_10, q44_13, q44_14, q44_15, q44_18, q44_19, q44_20, q44_23, q44_26, q44_27, q44_29, k_0 hS, z_C hS, r_0_4 hS, k_14 hS, z_14, sp_askAt hS gA, as_nil, as_i, as_r, Nat.reduceAdd, Nat.reduceLeDiff, z_eq0, z_eq1, z_or, z_em, Classical.not_not, not_false_eq_true, not_true_eq_false, true_and, and_true, false_and, and_false, and_self, true_implies, false_implies, implies_true, Option.toList_some, Option.toList_none, List.cons_append, List.nil_append, Nat.add_eq_zero_iff, a_nl_i, a_nl_r, a_nl_n, true_or, or_true, eq_self, a_isRA_22, a_isRA_24, a_isRA_32, a_isA_20, ok_4, ok_5, ok_6, ok_7, ok_9, ok_20, ok_21, ok_30, ok_50, ok_180, ok_192, ok_200, hac, ha, a0, e15, c2]
      try simp only [true_and, and_true, true_implies, false_implies, implies_true, not_true_eq_false, not_false_eq_true]
      first
        | exact hr
        | grind
  · rw [if_pos c1] at hP
    have hac : ¬ (0 ≤ a ∧ a < I (C + 14) 4 ∧ a < 30) := fun q => c1 ⟨q.1, by rw [← e4]; exact q.2.1⟩
    have hr : a_does (d + 69) 10 [a_rf C, .int (-1)] (n + 1, t, K, L, I, R) (fun r h' => a_at (d + 69) (a_xm a_m44) 18 [some (a_rf C), some (.int a), some (a_rf 0)] (r.toList ++ []) h' P) := by
      refine ge_refuse (d := d + 68) hH hu (fun J z1 z2 => ?_)
      have hp := hP n t K L J R z1 z2
      clear hP hc hu
      simp only [q44_18, as_nil, as_i, as_r, Nat.reduceAdd, Nat.reduceLeDiff, z_eq0, z_eq1, z_or, z_em, Classical.not_not, not_false_eq_true, not_true_eq_false, true_and, and_true, false_and, and_false, and_self, true_implies, false_implies, implies_true, Option.toList_some, Option.toList_none, List.cons_append, List.nil_append, Nat.add_eq_zero_iff, a_nl_i, a_nl_r, a_nl_n, true_or, or_true, eq_self, a_isRA_22, a_isRA_24, a_isRA_32, a_isA_20, ok_4, ok_5, ok_6, ok_7, ok_9, ok_20, ok_21, ok_30, ok_50, ok_180, ok_192, ok_200]
      exact hp
    clear hP hc hu
    rw [a_enter1 (M := a_m44) rfl (a_cat_rf (a_cat_int a_cat_nil)) (show 2 ≤ 3 by decide)]
    show a_at _ (a_xm a_m44) 0 [some (a_rf C), some (.int a), none] [] _ _
    simp only [q44_0, q44_1, q44_4, q44_5, q44_8, q44_9, q44_10, q44_13, q44_14, q44_15, k_0 hS, z_C hS, r_0_4 hS, k_14 hS, z_14, sp_askAt hS gA, as_nil, as_i, as_r, Nat.reduceAdd, Nat.reduceLeDiff, z_eq0, z_eq1, z_or, z_em, Classical.not_not, not_false_eq_true, not_true_eq_false, true_and, and_true, false_and, and_false, and_self, true_implies, false_implies, implies_true, Option.toList_some, Option.toList_none, List.cons_append, List.nil_append, Nat.add_eq_zero_iff, a_nl_i, a_nl_r, a_nl_n, true_or, or_true, eq_self, a_isRA_22, a_isRA_24, a_isRA_32, a_isA_20, ok_4, ok_5, ok_6, ok_7, ok_9, ok_20, ok_21, ok_30, ok_50, ok_180, ok_192, ok_200, hac]
    try simp only [true_and, and_true, true_implies, false_implies, implies_true, not_true_eq_false, not_false_eq_true]
    first
      | exact hr
      | grind
theorem ge_danger (hH : cH C c (n + 1) t K L I R) (hu : cuP C K L I R Y) {a v : Int32} (hP : ∀ n' t' K' L' J R', cH C c (n' + 1) t' K' L' J R' → cuP C K' L' J R' (dgY Y a v).2 → P (some (.int (dgY Y a v).1)) (n' + 1, t', K', L', J, R')) : a_does (d + 70) 146 [a_rf C, .int a, .int v] (n + 1, t, K, L, I, R) P := by
  have hT := hH.1
  have hS := hT.s
  have gA := hT.g_asksR
  have gB := hT.g_benchesR
  have gX := hT.g_textsR
  have hc := hu.1
  have h17 := hc.2.2.2.2.2.2.2.2.1
  have e4 : I (C + 14) 4 = Y 0 17 := hc.2.2.1.1
  unfold dgY at hP
  by_cases c1 : 0 ≤ a ∧ a < Y 0 17
  · rw [if_neg (fun q => q c1)] at hP
    have hac : 0 ≤ a ∧ a < I (C + 14) 4 ∧ a < 30 := ⟨c1.1, by rw [e4]; exact c1.2, Int32.lt_of_lt_of_le c1.2 h17.2⟩
    have ap := aa_of hc c1.1 c1.2
    obtain ⟨-, ⟨ha, an0, a4n⟩, am, al⟩ := id ap
    have a0 : ((R (C + 15) a.toNatClampNeg) = 0) = False := eq_false an0
    have aC := (hT.g_ask _ ha).1
    have gasks := hT.g_asks
    have e13 : I (R (C + 15) a.toNatClampNeg) 13 = Y 20 a.toNatClampNeg := al.2.2.2.1.1
    have e15 : (I (R (C + 15) a.toNatClampNeg) 15 = 0) = (Y 18 a.toNatClampNeg = 0) := propext al.2.2.2.2.1
    by_cases c2 : v < 0
    · rw [if_pos c2] at hP
      have c2' : ¬ 0 ≤ v := Int32.not_le.mpr c2
      have hr : a_does (d + 69) 10 [a_rf C, .int (-4)] (n + 1, t, K, L, I, R) (fun r h' => a_at (d + 69) (a_xm a_m146) 29 [some (a_rf C), some (.int a), some (.int v), some (a_rf (R (C + 15) a.toNatClampNeg))] (r.toList ++ []) h' P) := by
        refine ge_refuse (d := d + 68) hH hu (fun J z1 z2 => ?_)
        have hp := hP n t K L J R z1 z2
        clear hP hc hu
        simp only [q146_29, as_nil, as_i, as_r, Nat.reduceAdd, Nat.reduceLeDiff, z_eq0, z_eq1, z_or, z_em, Classical.not_not, not_false_eq_true, not_true_eq_false, true_and, and_true, false_and, and_false, and_self, true_implies, false_implies, implies_true, Option.toList_some, Option.toList_none, List.cons_append, List.nil_append, Nat.add_eq_zero_iff, a_nl_i, a_nl_r, a_nl_n, true_or, or_true, eq_self, a_isRA_22, a_isRA_24, a_isRA_32, a_isA_20, ok_4, ok_5, ok_6, ok_7, ok_9, ok_20, ok_21, ok_30, ok_50, ok_180, ok_192, ok_200]
        exact hp
      clear hP hc hu
      rw [a_enter1 (M := a_m146) rfl (a_cat_rf (a_cat_int (a_cat_int a_cat_nil))) (show 3 ≤ 4 by decide)]
      show a_at _ (a_xm a_m146) 0 [some (a_rf C), some (.int a), some (.int v), none] [] _ _
      simp only [q146_0, q146_1, q146_4, q146_5, q146_8, q146_9, q146_10, q146_13, q146_14, q146_15, q146_18, q146_19, q146_20, q146_23, q146_24, q146_26, k_0 hS, z_C hS, r_0_4 hS, k_14 hS, z_14, sp_askAt hS gA, as_nil, as_i, as_r, Nat.reduceAdd, Nat.reduceLeDiff, z_eq0, z_eq1, z_or, z_em, Classical.not_not, not_false_eq_true, not_true_eq_false, true_and, and_true, false_and, and_false, and_self, true_implies, false_implies, implies_true, Option.toList_some, Option.toList_none, List.cons_append, List.nil_append, Nat.add_eq_zero_iff, a_nl_i, a_nl_r, a_nl_n, true_or, or_true, eq_self, a_isRA_22, a_isRA_24, a_isRA_32, a_isA_20, ok_4, ok_5, ok_6, ok_7, ok_9, ok_20, ok_21, ok_30, ok_50, ok_180, ok_192, ok_200, hac, ha, a0, c2, c2']
      try simp only [true_and, and_true, true_implies, false_implies, implies_true, not_true_eq_false, not_false_eq_true]
      first
        | exact hr
        | grind
    · rw [if_neg c2] at hP
      have c2' : 0 ≤ v := Int32.not_lt.mp c2
      by_cases c3 : 9 < v
      · rw [if_pos c3] at hP
        have c3' : ¬ v ≤ 9 := Int32.not_le.mpr c3
        have hr : a_does (d + 69) 10 [a_rf C, .int (-6)] (n + 1, t, K, L, I, R) (fun r h' => a_at (d + 69) (a_xm a_m146) 42 [some (a_rf C), some (.int a), some (.int v), some (a_rf (R (C + 15) a.toNatClampNeg))] (r.toList ++ []) h' P) := by
          refine ge_refuse (d := d + 68) hH hu (fun J z1 z2 => ?_)
          have hp := hP n t K L J R z1 z2
          clear hP hc hu
          simp only [q146_42, as_nil, as_i, as_r, Nat.reduceAdd, Nat.reduceLeDiff, z_eq0, z_eq1, z_or, z_em, Classical.not_not, not_false_eq_true, not_true_eq_false, true_and, and_true, false_and, and_false, and_self, true_implies, false_implies, implies_true, Option.toList_some, Option.toList_none, List.cons_append, List.nil_append, Nat.add_eq_zero_iff, a_nl_i, a_nl_r, a_nl_n, true_or, or_true, eq_self, a_isRA_22, a_isRA_24, a_isRA_32, a_isA_20, ok_4, ok_5, ok_6, ok_7, ok_9, ok_20, ok_21, ok_30, ok_50, ok_180, ok_192, ok_200]
          exact hp
        clear hP hc hu
        rw [a_enter1 (M := a_m146) rfl (a_cat_rf (a_cat_int (a_cat_int a_cat_nil))) (show 3 ≤ 4 by decide)]
        show a_at _ (a_xm a_m146) 0 [some (a_rf C), some (.int a), some (.int v), none] [] _ _
        simp only [q146_0, q146_1, q146_4, q146_5, q146_8, q146_9, q146_10, q146_13, q146_14, q146_15, q146_18, q146_19, q146_20, q146_23, q146_24, q146_26, q146_29, q146_30, q146_31, q146_33, q146_36, q146_37, q146_39, k_0 hS, z_C hS, r_0_4 hS, k_14 hS, z_14, sp_askAt hS gA, as_nil, as_i, as_r, Nat.reduceAdd, Nat.reduceLeDiff, z_eq0, z_eq1, z_or, z_em, Classical.not_not, not_false_eq_true, not_true_eq_false, true_and, and_true, false_and, and_false, and_self, true_implies, false_implies, implies_true, Option.toList_some, Option.toList_none, List.cons_append, List.nil_append, Nat.add_eq_zero_iff, a_nl_i, a_nl_r, a_nl_n, true_or, or_true, eq_self, a_isRA_22, a_isRA_24, a_isRA_32, a_isA_20, ok_4, ok_5, ok_6, ok_7, ok_9, ok_20, ok_21, ok_30, ok_50, ok_180, ok_192, ok_200, hac, ha, a0, c2, c2', c3, c3']
        try simp only [true_and, and_true, true_implies, false_implies, implies_true, not_true_eq_false, not_false_eq_true]
        first
          | exact hr
          | grind
      · rw [if_neg c3] at hP
        have c3' : v ≤ 9 := Int32.not_lt.mp c3
        have hT1 := sT_askf hT aC ha (k := 9) (v := v) (by omega)
        have hu1 := cu_af hH hu c1 (rw_up9 (j := a.toNatClampNeg) (v := v) (Or.inl rfl)) (funext (fun m => up_no (by omega))) (j := 9) (v := v) (Or.inl rfl) (al_9 al) up_row
        have hH1 := cH_J hH hT1
        have z17 : upY Y 15 a.toNatClampNeg v 0 17 = Y 0 17 := up_no (by omega)
        generalize eJ : a_ui I (R (C + 15) a.toNatClampNeg) 9 v = J1 at hT1 hu1 hH1
        have hcl : a_does (d + 69) 145 [a_rf (C + 14), a_rf (R (C + 15) a.toNatClampNeg)] (n + 1, t, K, L, J1, R) (fun r h' => a_at (d + 69) (a_xm a_m146) 56 [some (a_rf C), some (.int a), some (.int v), some (a_rf (R (C + 15) a.toNatClampNeg))] (r.toList ++ []) h' P) := by
          refine ce_clearUnfit (d := d + 63) hH1 hu1.1 hu1.2.1 (aa_of hu1.1 c1.1 (by rw [z17]; exact c1.2)) rfl (fun ag n' t' K' L' J R' hH' hQ hc' hse' h15 haz => ?_) (fun ag J hJ => ?_)
          · rw [if_pos ag] at hP
            have hp := hP n' t' K' L' J R' hH' (cu_Q hH1 hu1 hQ hc' hse' ss_un (by rw [z17]; exact c1) haz (no_un hu1.2.2.2.1))
            have n10 : ¬ (1 : Int32) = 0 := by decide
            clear hP hc ap al am hu hu1 hc'
            simp only [q146_56, q146_59, q146_60, q146_63, q146_64, as_nil, as_i, as_r, Nat.reduceAdd, Nat.reduceLeDiff, z_eq0, z_eq1, z_or, z_em, Classical.not_not, not_false_eq_true, not_true_eq_false, true_and, and_true, false_and, and_false, and_self, true_implies, false_implies, implies_true, Option.toList_some, Option.toList_none, List.cons_append, List.nil_append, Nat.add_eq_zero_iff, a_nl_i, a_nl_r, a_nl_n, true_or, or_true, eq_self, a_isRA_22, a_isRA_24, a_isRA_32, a_isA_20, ok_4, ok_5, ok_6, ok_7, ok_9, ok_20, ok_21, ok_30, ok_50, ok_180, ok_192, ok_200, n10]
            try simp only [true_and, and_true, true_implies, false_implies, implies_true, not_true_eq_false, not_false_eq_true]
            first
              | exact hp
              | grind
          · rw [if_neg ag] at hP
            have hp := hP n t K L J R (cH_J hH1 hJ.1) (cu_C hT1 hJ hu1 hH1)
            clear hP hc ap al am hu hu1
            simp only [q146_56, q146_59, q146_60, q146_63, q146_64, as_nil, as_i, as_r, Nat.reduceAdd, Nat.reduceLeDiff, z_eq0, z_eq1, z_or, z_em, Classical.not_not, not_false_eq_true, not_true_eq_false, true_and, and_true, false_and, and_false, and_self, true_implies, false_implies, implies_true, Option.toList_some, Option.toList_none, List.cons_append, List.nil_append, Nat.add_eq_zero_iff, a_nl_i, a_nl_r, a_nl_n, true_or, or_true, eq_self, a_isRA_22, a_isRA_24, a_isRA_32, a_isA_20, ok_4, ok_5, ok_6, ok_7, ok_9, ok_20, ok_21, ok_30, ok_50, ok_180, ok_192, ok_200]
            try simp only [true_and, and_true, true_implies, false_implies, implies_true, not_true_eq_false, not_false_eq_true]
            first
              | exact hp
              | grind
        clear hP hc ap al am hu hu1
        rw [a_enter1 (M := a_m146) rfl (a_cat_rf (a_cat_int (a_cat_int a_cat_nil))) (show 3 ≤ 4 by decide)]
        show a_at _ (a_xm a_m146) 0 [some (a_rf C), some (.int a), some (.int v), none] [] _ _
        simp only [q146_0, q146_1, q146_4, q146_5, q146_8, q146_9, q146_10, q146_13, q146_14, q146_15, q146_18, q146_19, q146_20, q146_23, q146_24, q146_26, q146_29, q146_30, q146_31, q146_33, q146_36, q146_37, q146_39, q146_42, q146_43, q146_44, q146_45, q146_48, q146_49, q146_52, q146_53, k_0 hS, z_C hS, r_0_4 hS, k_14 hS, z_14, sp_askAt hS gA, as_nil, as_i, as_r, Nat.reduceAdd, Nat.reduceLeDiff, z_eq0, z_eq1, z_or, z_em, Classical.not_not, not_false_eq_true, not_true_eq_false, true_and, and_true, false_and, and_false, and_self, true_implies, false_implies, implies_true, Option.toList_some, Option.toList_none, List.cons_append, List.nil_append, Nat.add_eq_zero_iff, a_nl_i, a_nl_r, a_nl_n, true_or, or_true, eq_self, a_isRA_22, a_isRA_24, a_isRA_32, a_isA_20, ok_4, ok_5, ok_6, ok_7, ok_9, ok_20, ok_21, ok_30, ok_50, ok_180, ok_192, ok_200, hac, ha, a0, c2, c2', c3, c3', eJ]
        try simp only [true_and, and_true, true_implies, false_implies, implies_true, not_true_eq_false, not_false_eq_true]
        first
          | exact hcl
          | grind
  · rw [if_pos c1] at hP
    have hac : ¬ (0 ≤ a ∧ a < I (C + 14) 4 ∧ a < 30) := fun q => c1 ⟨q.1, by rw [← e4]; exact q.2.1⟩
    have hr : a_does (d + 69) 10 [a_rf C, .int (-1)] (n + 1, t, K, L, I, R) (fun r h' => a_at (d + 69) (a_xm a_m146) 18 [some (a_rf C), some (.int a), some (.int v), some (a_rf 0)] (r.toList ++ []) h' P) := by
      refine ge_refuse (d := d + 68) hH hu (fun J z1 z2 => ?_)
      have hp := hP n t K L J R z1 z2
      clear hP hc hu
      simp only [q146_18, as_nil, as_i, as_r, Nat.reduceAdd, Nat.reduceLeDiff, z_eq0, z_eq1, z_or, z_em, Classical.not_not, not_false_eq_true, not_true_eq_false, true_and, and_true, false_and, and_false, and_self, true_implies, false_implies, implies_true, Option.toList_some, Option.toList_none, List.cons_append, List.nil_append, Nat.add_eq_zero_iff, a_nl_i, a_nl_r, a_nl_n, true_or, or_true, eq_self, a_isRA_22, a_isRA_24, a_isRA_32, a_isA_20, ok_4, ok_5, ok_6, ok_7, ok_9, ok_20, ok_21, ok_30, ok_50, ok_180, ok_192, ok_200]
      exact hp
    clear hP hc hu
    rw [a_enter1 (M := a_m146) rfl (a_cat_rf (a_cat_int (a_cat_int a_cat_nil))) (show 3 ≤ 4 by decide)]
    show a_at _ (a_xm a_m146) 0 [some (a_rf C), some (.int a), some (.int v), none] [] _ _
    simp only [q146_0, q146_1, q146_4, q146_5, q146_8, q146_9, q146_10, q146_13, q146_14, q146_15, k_0 hS, z_C hS, r_0_4 hS, k_14 hS, z_14, sp_askAt hS gA, as_nil, as_i, as_r, Nat.reduceAdd, Nat.reduceLeDiff, z_eq0, z_eq1, z_or, z_em, Classical.not_not, not_false_eq_true, not_true_eq_false, true_and, and_true, false_and, and_false, and_self, true_implies, false_implies, implies_true, Option.toList_some, Option.toList_none, List.cons_append, List.nil_append, Nat.add_eq_zero_iff, a_nl_i, a_nl_r, a_nl_n, true_or, or_true, eq_self, a_isRA_22, a_isRA_24, a_isRA_32, a_isA_20, ok_4, ok_5, ok_6, ok_7, ok_9, ok_20, ok_21, ok_30, ok_50, ok_180, ok_192, ok_200, hac]
    try simp only [true_and, and_true, true_implies, false_implies, implies_true, not_true_eq_false, not_false_eq_true]
    first
      | exact hr
      | grind
end YO0
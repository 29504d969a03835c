/-! askOf -/
section ZW0
variable {d n t C c : Nat} {K L : Nat → Nat} {I I0 J J0 J1 J2 : Nat → Nat → Int32} {R : Nat → Nat → Nat} {P : Option Value → AH → Prop}
variable {Y Z W : Nat → Nat → Int32}
def aoV (Y : Nat → Nat → Int32) (a w : Int32) : Int32 := if ¬ (0 ≤ a ∧ a < Y 0 17) then -1 else if ¬ (0 ≤ w ∧ w ≤ 9) then -2 else if w = 0 then Y 7 a.toNatClampNeg else if w = 1 then Y 8 a.toNatClampNeg else if w = 2 then Y 9 a.toNatClampNeg else if w = 3 then Y 10 a.toNatClampNeg else if w = 4 then Y 15 a.toNatClampNeg else if w = 5 then Y 20 a.toNatClampNeg else if w = 6 then Y 21 a.toNatClampNeg else if w = 7 then (if Y 18 a.toNatClampNeg = 0 then 0 else 1) else if w = 8 then loY Y a else ohY Y a
theorem w10 {w : Int32} (e0 : ¬ w = 0) (e1 : ¬ w = 1) (e2 : ¬ w = 2) (e3 : ¬ w = 3) (e4 : ¬ w = 4) (e5 : ¬ w = 5) (e6 : ¬ w = 6) (e7 : ¬ w = 7) (e8 : ¬ w = 8) (e9 : ¬ w = 9) : ¬ (0 ≤ w ∧ w ≤ 9) := fun q => by
  have c0 : (0 : Int32).toInt = 0 := rfl
  have c9 : (9 : Int32).toInt = 9 := rfl
  have q0 := Int32.le_iff_toInt_le.mp q.1
  have q1 := Int32.le_iff_toInt_le.mp q.2
  rw [c0] at q0
  rw [c9] at q1
  have h : w.toInt = 0 ∨ w.toInt = 1 ∨ w.toInt = 2 ∨ w.toInt = 3 ∨ w.toInt = 4 ∨ w.toInt = 5 ∨ w.toInt = 6 ∨ w.toInt = 7 ∨ w.toInt = 8 ∨ w.toInt = 9 := by omega
  rcases h with h | h | h | h | h | h | h | h | h | h
  · exact e0 (Int32.toInt_inj.mp h)
  · exact e1 (Int32.toInt_inj.mp h)
  · exact e2 (Int32.toInt_inj.mp h)
  · exact e3 (Int32.toInt_inj.mp h)
  · exact e4 (Int32.toInt_inj.mp h)
  · exact e5 (Int32.toInt_inj.mp h)
  · exact e6 (Int32.toInt_inj.mp h)
  · exact e7 (Int32.toInt_inj.mp h)
  · exact e8 (Int32.toInt_inj.mp h)
  · exact e9 (Int32.toInt_inj.mp h)
theorem aoV_1 {a w : Int32} (c : ¬ (0 ≤ a ∧ a < Y 0 17)) : aoV Y a w = -1 := by
  unfold aoV
  rw [if_pos c]
theorem aoV_2 {a w : Int32} (c1 : 0 ≤ a ∧ a < Y 0 17) (c : ¬ (0 ≤ w ∧ w ≤ 9)) : aoV Y a w = -2 := by
  unfold aoV
  rw [if_neg (fun q => q c1), if_pos c]
theorem cv_askOf (hH : cH C c (n + 1) t K L I R) (hu : cuP C K L I R Y) {a w : Int32} (hP : ∀ J, P (some (.int (aoV Y a w))) (n + 1, t, K, L, J, R)) : a_does (d + 70) 53 [a_rf C, .int a, .int w] (n + 1, t, K, L, I, R) P := by
  have hT := hH.1
  have hS := hT.s
  have gA := hT.g_asksR
  have gB := hT.g_benchesR
  have gX := hT.g_textsR
  have hc := hu.1
  have h17 := hc.2.2.2.2.2.2.2.2.1
  have e4 : I (C + 14) 4 = Y 0 17 := hc.2.2.1.1
  by_cases c1 : 0 ≤ a ∧ a < Y 0 17
  · have hac : 0 ≤ a ∧ a < I (C + 14) 4 ∧ a < 30 := ⟨c1.1, by rw [e4]; exact c1.2, Int32.lt_of_lt_of_le c1.2 h17.2⟩
    have ap := aa_of hc c1.1 c1.2
    obtain ⟨-, ⟨ha, an0, a4n⟩, am, al⟩ := id ap
    have a0 : ((R (C + 15) a.toNatClampNeg) = 0) = False := eq_false an0
    obtain ⟨ohv, lov, -⟩ := oh_rng hT hu c1
    have q0 : w = 0 → aoV Y a w = Y 7 a.toNatClampNeg := fun e => by
      unfold aoV
      subst e
      rw [if_neg (fun q => q c1)]
      rfl
    have q1 : w = 1 → aoV Y a w = Y 8 a.toNatClampNeg := fun e => by
      unfold aoV
      subst e
      rw [if_neg (fun q => q c1)]
      rfl
    have q2 : w = 2 → aoV Y a w = Y 9 a.toNatClampNeg := fun e => by
      unfold aoV
      subst e
      rw [if_neg (fun q => q c1)]
      rfl
    have q3 : w = 3 → aoV Y a w = Y 10 a.toNatClampNeg := fun e => by
      unfold aoV
      subst e
      rw [if_neg (fun q => q c1)]
      rfl
    have q4 : w = 4 → aoV Y a w = Y 15 a.toNatClampNeg := fun e => by
      unfold aoV
      subst e
      rw [if_neg (fun q => q c1)]
      rfl
    have q5 : w = 5 → aoV Y a w = Y 20 a.toNatClampNeg := fun e => by
      unfold aoV
      subst e
      rw [if_neg (fun q => q c1)]
      rfl
    have q6 : w = 6 → aoV Y a w = Y 21 a.toNatClampNeg := fun e => by
      unfold aoV
      subst e
      rw [if_neg (fun q => q c1)]
      rfl
    have q7 : w = 7 → aoV Y a w = (if Y 18 a.toNatClampNeg = 0 then 0 else 1) := fun e => by
      unfold aoV
      subst e
      rw [if_neg (fun q => q c1)]
      rfl
    have q8 : w = 8 → aoV Y a w = loY Y a := fun e => by
      unfold aoV
      subst e
      rw [if_neg (fun q => q c1)]
      rfl
    have q9 : w = 9 → aoV Y a w = ohY Y a := fun e => by
      unfold aoV
      subst e
      rw [if_neg (fun q => q c1)]
      rfl
    have e15 : (I (R (C + 15) a.toNatClampNeg) 15 = 0) = (Y 18 a.toNatClampNeg = 0) := propext al.2.2.2.2.1
    have p0 : w = 0 → P (some (.int (I (R (C + 15) a.toNatClampNeg) 5))) (n + 1, t, K, L, I, R) := fun e => by
      have hp := hP I
      rw [q0 e] at hp
      rw [show I (R (C + 15) a.toNatClampNeg) 5 = Y 7 a.toNatClampNeg from al.1.2.2.2.2]
      exact hp
    have p1 : w = 1 → P (some (.int (I (R (C + 15) a.toNatClampNeg) 0))) (n + 1, t, K, L, I, R) := fun e => by
      have hp := hP I
      rw [q1 e] at hp
      rw [show I (R (C + 15) a.toNatClampNeg) 0 = Y 8 a.toNatClampNeg from al.1.1]
      exact hp
    have p2 : w = 2 → P (some (.int (I (R (C + 15) a.toNatClampNeg) 1))) (n + 1, t, K, L, I, R) := fun e => by
      have hp := hP I
      rw [q2 e] at hp
      rw [show I (R (C + 15) a.toNatClampNeg) 1 = Y 9 a.toNatClampNeg from al.1.2.1]
      exact hp
    have p3 : w = 3 → P (some (.int (I (R (C + 15) a.toNatClampNeg) 2))) (n + 1, t, K, L, I, R) := fun e => by
      have hp := hP I
      rw [q3 e] at hp
      rw [show I (R (C + 15) a.toNatClampNeg) 2 = Y 10 a.toNatClampNeg from al.1.2.2.1]
      exact hp
    have p4 : w = 4 → P (some (.int (I (R (C + 15) a.toNatClampNeg) 9))) (n + 1, t, K, L, I, R) := fun e => by
      have hp := hP I
      rw [q4 e] at hp
      rw [show I (R (C + 15) a.toNatClampNeg) 9 = Y 15 a.toNatClampNeg from al.2.1.2.2.2]
      exact hp
    have p5 : w = 5 → P (some (.int (I (R (C + 15) a.toNatClampNeg) 13))) (n + 1, t, K, L, I, R) := fun e => by
      have hp := hP I
      rw [q5 e] at hp
      rw [show I (R (C + 15) a.toNatClampNeg) 13 = Y 20 a.toNatClampNeg from al.2.2.2.1.1]
      exact hp
    have p6 : w = 6 → P (some (.int (I (R (C + 15) a.toNatClampNeg) 14))) (n + 1, t, K, L, I, R) := fun e => by
      have hp := hP I
      rw [q6 e] at hp
      rw [show I (R (C + 15) a.toNatClampNeg) 14 = Y 21 a.toNatClampNeg from al.2.2.2.1.2]
      exact hp
    have p7 : w = 7 → Y 18 a.toNatClampNeg = 0 → P (some (.int 0)) (n + 1, t, K, L, I, R) := fun e e2 => by
      have hp := hP I
      rw [q7 e, if_pos e2] at hp
      exact hp
    have p7' : w = 7 → ¬ Y 18 a.toNatClampNeg = 0 → P (some (.int 1)) (n + 1, t, K, L, I, R) := fun e e2 => by
      have hp := hP I
      rw [q7 e, if_neg e2] at hp
      exact hp
    have p8 : w = 8 → a_does (d + 69) 54 [a_rf (C + 14), a_rf (R (C + 15) a.toNatClampNeg)] (n + 1, t, K, L, I, R) (fun r h' => a_at (d + 69) (a_xm a_m53) 132 [some (a_rf C), some (.int a), some (.int w), some (a_rf (R (C + 15) a.toNatClampNeg))] (r.toList ++ []) h' P) := fun e => by
      refine ck_loss (d := d + 66) ha hT ?_
      have hp := hP I
      rw [q8 e, ← lov] at hp
      ((try clear hP); (try clear hc); (try clear ap); (try clear al); (try clear am); (try clear hu))
      simp only [q53_132, as_nil, as_i, as_r, Nat.reduceAdd, Nat.reduceLeDiff, z_eq0, z_eq1, z_or, z_em, Classical.not_not, not_false_eq_true, not_true_eq_false, true_and, and_true, false_and, and_false, and_self, true_implies, false_implies, implies_true, Option.toList_some, Option.toList_none, List.cons_append, List.nil_append, Nat.add_eq_zero_iff, a_nl_i, a_nl_r, a_nl_n, true_or, or_true, eq_self, a_isRA_22, a_isRA_24, a_isRA_32, a_isA_20, ok_4, ok_5, ok_6, ok_7, ok_9, ok_20, ok_21, ok_30, ok_50, ok_180, ok_192, ok_200]
      exact hp
    have p9 : w = 9 → a_does (d + 69) 58 [a_rf (C + 14), a_rf (R (C + 15) a.toNatClampNeg)] (n + 1, t, K, L, I, R) (fun r h' => a_at (d + 69) (a_xm a_m53) 141 [some (a_rf C), some (.int a), some (.int w), some (a_rf (R (C + 15) a.toNatClampNeg))] (r.toList ++ []) h' P) := fun e => by
      refine ck_hallOwed (d := d + 65) ha hT (fun J hJ => ?_)
      have hp := hP J
      rw [q9 e, ← ohv] at hp
      ((try clear hP); (try clear hc); (try clear ap); (try clear al); (try clear am); (try clear hu))
      simp only [q53_141, as_nil, as_i, as_r, Nat.reduceAdd, Nat.reduceLeDiff, z_eq0, z_eq1, z_or, z_em, Classical.not_not, not_false_eq_true, not_true_eq_false, true_and, and_true, false_and, and_false, and_self, true_implies, false_implies, implies_true, Option.toList_some, Option.toList_none, List.cons_append, List.nil_append, Nat.add_eq_zero_iff, a_nl_i, a_nl_r, a_nl_n, true_or, or_true, eq_self, a_isRA_22, a_isRA_24, a_isRA_32, a_isA_20, ok_4, ok_5, ok_6, ok_7, ok_9, ok_20, ok_21, ok_30, ok_50, ok_180, ok_192, ok_200]
      exact hp
    have pd : ¬ (0 ≤ w ∧ w ≤ 9) → a_does (d + 69) 10 [a_rf C, .int (-2)] (n + 1, t, K, L, I, R) (fun r h' => a_at (d + 69) (a_xm a_m53) 148 [some (a_rf C), some (.int a), some (.int w), some (a_rf (R (C + 15) a.toNatClampNeg))] (r.toList ++ []) h' P) := fun e => by
      refine cr_refuse (d := d + 68) hH (fun J _ => ?_)
      have hp := hP J
      rw [aoV_2 c1 e] at hp
      ((try clear hP); (try clear hc); (try clear ap); (try clear al); (try clear am); (try clear hu))
      simp only [q53_148, as_nil, as_i, as_r, Nat.reduceAdd, Nat.reduceLeDiff, z_eq0, z_eq1, z_or, z_em, Classical.not_not, not_false_eq_true, not_true_eq_false, true_and, and_true, false_and, and_false, and_self, true_implies, false_implies, implies_true, Option.toList_some, Option.toList_none, List.cons_append, List.nil_append, Nat.add_eq_zero_iff, a_nl_i, a_nl_r, a_nl_n, true_or, or_true, eq_self, a_isRA_22, a_isRA_24, a_isRA_32, a_isA_20, ok_4, ok_5, ok_6, ok_7, ok_9, ok_20, ok_21, ok_30, ok_50, ok_180, ok_192, ok_200]
      exact hp
    ((try clear hP); (try clear hc); (try clear ap); (try clear al); (try clear am); (try clear hu); (try clear q0); (try clear q1); (try clear q2); (try clear q3); (try clear q4); (try clear q5); (try clear q6); (try clear q7); (try clear q8); (try clear q9); (try clear ohv); (try clear lov))
    rw [a_enter1 (M := a_m53) rfl (a_cat_rf (a_cat_int (a_cat_int a_cat_nil))) (show 3 ≤ 4 by decide)]
    show a_at _ (a_xm a_m53) 0 [some (a_rf C), some (.int a), some (.int w), none] [] _ _
    simp only [q53_0, q53_1, q53_4, q53_5, q53_8, q53_9, q53_10, q53_13, q53_14, q53_15, q53_18, q53_19, k_0 hS, z_C hS, r_0_4 hS, k_14 hS, z_14, sp_askAt hS gA, as_nil, as_i, as_r, Nat.reduceAdd, Nat.reduceLeDiff, z_eq0, z_eq1, z_or, z_em, Classical.not_not, not_false_eq_true, not_true_eq_false, true_and, and_true, false_and, and_false, and_self, true_implies, false_implies, implies_true, Option.toList_some, Option.toList_none, List.cons_append, List.nil_append, Nat.add_eq_zero_iff, a_nl_i, a_nl_r, a_nl_n, true_or, or_true, eq_self, a_isRA_22, a_isRA_24, a_isRA_32, a_isA_20, ok_4, ok_5, ok_6, ok_7, ok_9, ok_20, ok_21, ok_30, ok_50, ok_180, ok_192, ok_200, hac, ha, a0]
    try simp only [true_and, and_true, true_implies, false_implies, implies_true, not_true_eq_false, not_false_eq_true]
    repeat' first
      | with_reducible apply And.intro
      | with_reducible assumption
      | with_reducible intro _
      | exact pd (w10 (by assumption) (by assumption) (by assumption) (by assumption) (by assumption) (by assumption) (by assumption) (by assumption) (by assumption) (by assumption))
      | exact p0 (by assumption)
      | exact p1 (by assumption)
      | exact p2 (by assumption)
      | exact p3 (by assumption)
      | exact p4 (by assumption)
      | exact p5 (by assumption)
      | exact p6 (by assumption)
      | exact p8 (by assumption)
      | exact p9 (by assumption)
      | exact p7 (by assumption) (by assumption)
      | exact p7' (by assumption) (by assumption)
      | simp only [q53_20, q53_76, q53_77, q53_80, q53_81, q53_82, q53_85, q53_86, q53_87, q53_90, q53_91, q53_92, q53_95, q53_96, q53_97, q53_100, q53_101, q53_102, q53_105, q53_106, q53_107, q53_110, q53_111, q53_112, q53_115, q53_118, q53_119, q53_122, q53_123, q53_124, q53_125, q53_128, q53_129, q53_132, q53_133, q53_134, q53_137, q53_138, q53_141, q53_142, q53_143, q53_145, k_0 hS, z_C hS, r_0_4 hS, k_14 hS, z_14, as_nil, as_i, as_r, Nat.reduceAdd, Nat.reduceLeDiff, z_eq0, z_eq1, z_or, z_em, Classical.not_not, not_false_eq_true, not_true_eq_false, true_and, and_true, false_and, and_false, and_self, true_implies, false_implies, implies_true, Option.toList_some, Option.toList_none, List.cons_append, List.nil_append, Nat.add_eq_zero_iff, a_nl_i, a_nl_r, a_nl_n, true_or, or_true, eq_self, a_isRA_22, a_isRA_24, a_isRA_32, a_isA_20, ok_4, ok_5, ok_6, ok_7, ok_9, ok_20, ok_21, ok_30, ok_50, ok_180, ok_192, ok_200, a_sw, ha, a0, e15, ti_0, ti_1, ti_2, ti_3, ti_4, ti_5, ti_6, ti_7, ti_8, ti_9, ti_10, ti_11, ti_12, ti_13, ti_14, ti_15, ti_16, ti_17, ti_18, ti_19, ti_98, ti_99, ti_100, ti_101, ti_102, ti_103, ti_104, ti_105, ti_106, ti_107, ti_108, ti_109, ti_110, ti_111, ti_112, ti_113, ti_114, ti_115, ti_116]
    all_goals ((try clear pd); (try clear p0); (try clear p1); (try clear p2); (try clear p3); (try clear p4); (try clear p5); (try clear p6); (try clear p8); (try clear p9); (try clear hH); grind [ui_ap])
  · have hac : ¬ (0 ≤ a ∧ a < I (C + 14) 4 ∧ a < 30) := fun q => c1 ⟨q.1, by rw [← e4]; exact q.2.1⟩
    have hr : ∀ x, a_does (d + 69) 10 [a_rf C, .int (-1)] (n + 1, t, K, L, I, R) (fun r h' => a_at (d + 69) (a_xm a_m53) 18 [some (a_rf C), some (.int a), some (.int w), x] (r.toList ++ []) h' P) := fun x => by
      rw [aoV_1 c1] at hP
      refine cr_refuse (d := d + 68) hH (fun J _ => ?_)
      have hp := hP J
      ((try clear hP); (try clear hc); (try clear hu))
      simp only [q53_18, as_nil, as_i, as_r, Nat.reduceAdd, Nat.reduceLeDiff, z_eq0, z_eq1, z_or, z_em, Classical.not_not, not_false_eq_true, not_true_eq_false, true_and, and_true, false_and, and_false, and_self, true_implies, false_implies, implies_true, Option.toList_some, Option.toList_none, List.cons_append, List.nil_append, Nat.add_eq_zero_iff, a_nl_i, a_nl_r, a_nl_n, true_or, or_true, eq_self, a_isRA_22, a_isRA_24, a_isRA_32, a_isA_20, ok_4, ok_5, ok_6, ok_7, ok_9, ok_20, ok_21, ok_30, ok_50, ok_180, ok_192, ok_200]
      exact hp
    ((try clear hP); (try clear hc); (try clear hu))
    rw [a_enter1 (M := a_m53) rfl (a_cat_rf (a_cat_int (a_cat_int a_cat_nil))) (show 3 ≤ 4 by decide)]
    show a_at _ (a_xm a_m53) 0 [some (a_rf C), some (.int a), some (.int w), none] [] _ _
    simp only [q53_0, q53_1, q53_4, q53_5, q53_8, q53_9, q53_10, q53_13, q53_14, q53_15, k_0 hS, z_C hS, r_0_4 hS, k_14 hS, z_14, sp_askAt hS gA, as_nil, as_i, as_r, Nat.reduceAdd, Nat.reduceLeDiff, z_eq0, z_eq1, z_or, z_em, Classical.not_not, not_false_eq_true, not_true_eq_false, true_and, and_true, false_and, and_false, and_self, true_implies, false_implies, implies_true, Option.toList_some, Option.toList_none, List.cons_append, List.nil_append, Nat.add_eq_zero_iff, a_nl_i, a_nl_r, a_nl_n, true_or, or_true, eq_self, a_isRA_22, a_isRA_24, a_isRA_32, a_isA_20, ok_4, ok_5, ok_6, ok_7, ok_9, ok_20, ok_21, ok_30, ok_50, ok_180, ok_192, ok_200, hac]
    try simp only [true_and, and_true, true_implies, false_implies, implies_true, not_true_eq_false, not_false_eq_true]
    first
      | exact hr _
      | grind
end ZW0
section ZW1
variable {d n t M : Nat} {K L : Nat → Nat} {I I0 J J0 J1 J2 : Nat → Nat → Int32} {R : Nat → Nat → Nat} {P : Option Value → AH → Prop} {f : Nat → Int32} {e : Int32}
variable {Y Z W : Nat → Nat → Int32}
theorem xv_askOf (hS : m_S M K L R) (hm : okY Y) (hg : gs M I0 I Y) {a w : Int32} (hP : ∀ J, P (some (.int (aoV Y a w))) (n, t, K, L, J, R)) : a_does (d + 16) 188 [a_rf M, .int a, .int w] (n, t, K, L, I, R) P := by
  have hy := hm.1
  have hR := hg.1
  have h17 := hy.2.2.2.2.1
  have h10 := hy.2.1
  have h6 := hy.2.2.2.2.2.1
  have hl := hy.2.2.1
  have e17 : I M 17 = Y 0 17 := hg.2.2.1 0 17 (by unfold ps1; omega)
  have e6 : I M 6 = Y 0 6 := hg.2.2.1 0 6 (by unfold ps1; omega)
  have e0 : I M 0 = Y 0 0 := hg.2.2.1 0 0 (by unfold ps1; omega)
  have m17 : ∀ x : Int32, (x ≤ Y 0 17 - 1) = (x < Y 0 17) := fun x => le_m1 h17
  have m6 : ∀ x : Int32, (x ≤ Y 0 6 - 1) = (x < Y 0 6) := fun x => le_m1 ⟨h6.1, Int32.le_trans h6.2 (by decide)⟩
  have m199 : ∀ x : Int32, (x ≤ 199) = (x < 200) := le_199
  by_cases c1 : 0 ≤ a ∧ a < Y 0 17
  · have ha : 0 ≤ a ∧ a < 30 := ⟨c1.1, Int32.lt_of_lt_of_le c1.2 h17.2⟩
    obtain ⟨mR0, mk0, ts0, tp0, in0, -⟩ := moP_of hg.1 hm.2.1 hg.2.2
    have er : ∀ k, 1 ≤ k ∧ k ≤ 21 → I (M + k) a.toNatClampNeg = Y k a.toNatClampNeg := fun k hk => hg.2.2.1 k _ (by unfold ps1; omega)
    have q0 : w = 0 → aoV Y a w = Y 7 a.toNatClampNeg := fun e => by
      unfold aoV
      subst e
      rw [if_neg (fun q => q c1)]
      rfl
    have q1 : w = 1 → aoV Y a w = Y 8 a.toNatClampNeg := fun e => by
      unfold aoV
      subst e
      rw [if_neg (fun q => q c1)]
      rfl
    have q2 : w = 2 → aoV Y a w = Y 9 a.toNatClampNeg := fun e => by
      unfold aoV
      subst e
      rw [if_neg (fun q => q c1)]
      rfl
    have q3 : w = 3 → aoV Y a w = Y 10 a.toNatClampNeg := fun e => by
      unfold aoV
      subst e
      rw [if_neg (fun q => q c1)]
      rfl
    have q4 : w = 4 → aoV Y a w = Y 15 a.toNatClampNeg := fun e => by
      unfold aoV
      subst e
      rw [if_neg (fun q => q c1)]
      rfl
    have q5 : w = 5 → aoV Y a w = Y 20 a.toNatClampNeg := fun e => by
      unfold aoV
      subst e
      rw [if_neg (fun q => q c1)]
      rfl
    have q6 : w = 6 → aoV Y a w = Y 21 a.toNatClampNeg := fun e => by
      unfold aoV
      subst e
      rw [if_neg (fun q => q c1)]
      rfl
    have q7 : w = 7 → aoV Y a w = (if Y 18 a.toNatClampNeg = 0 then 0 else 1) := fun e => by
      unfold aoV
      subst e
      rw [if_neg (fun q => q c1)]
      rfl
    have q8 : w = 8 → aoV Y a w = loY Y a := fun e => by
      unfold aoV
      subst e
      rw [if_neg (fun q => q c1)]
      rfl
    have q9 : w = 9 → aoV Y a w = ohY Y a := fun e => by
      unfold aoV
      subst e
      rw [if_neg (fun q => q c1)]
      rfl
    have p0 : w = 0 → P (some (.int (I (M + 7) a.toNatClampNeg))) (n, t, K, L, I, R) := fun e => by
      have hp := hP I
      rw [q0 e] at hp
      rw [er 7 (by omega)]
      exact hp
    have p1 : w = 1 → P (some (.int (I (M + 8) a.toNatClampNeg))) (n, t, K, L, I, R) := fun e => by
      have hp := hP I
      rw [q1 e] at hp
      rw [er 8 (by omega)]
      exact hp
    have p2 : w = 2 → P (some (.int (I (M + 9) a.toNatClampNeg))) (n, t, K, L, I, R) := fun e => by
      have hp := hP I
      rw [q2 e] at hp
      rw [er 9 (by omega)]
      exact hp
    have p3 : w = 3 → P (some (.int (I (M + 10) a.toNatClampNeg))) (n, t, K, L, I, R) := fun e => by
      have hp := hP I
      rw [q3 e] at hp
      rw [er 10 (by omega)]
      exact hp
    have p4 : w = 4 → P (some (.int (I (M + 15) a.toNatClampNeg))) (n, t, K, L, I, R) := fun e => by
      have hp := hP I
      rw [q4 e] at hp
      rw [er 15 (by omega)]
      exact hp
    have p5 : w = 5 → P (some (.int (I (M + 20) a.toNatClampNeg))) (n, t, K, L, I, R) := fun e => by
      have hp := hP I
      rw [q5 e] at hp
      rw [er 20 (by omega)]
      exact hp
    have p6 : w = 6 → P (some (.int (I (M + 21) a.toNatClampNeg))) (n, t, K, L, I, R) := fun e => by
      have hp := hP I
      rw [q6 e] at hp
      rw [er 21 (by omega)]
      exact hp
    have p7 : w = 7 → I (M + 18) a.toNatClampNeg = 0 → P (some (.int 0)) (n, t, K, L, I, R) := fun e e2 => by
      rw [er 18 (by omega)] at e2
      have hp := hP I
      rw [q7 e, if_pos e2] at hp
      exact hp
    have p7' : w = 7 → ¬ I (M + 18) a.toNatClampNeg = 0 → P (some (.int 1)) (n, t, K, L, I, R) := fun e e2 => by
      rw [er 18 (by omega)] at e2
      have hp := hP I
      rw [q7 e, if_neg e2] at hp
      exact hp
    have p8 : w = 8 → a_does (d + 15) 189 [a_rf M, .int a] (n, t, K, L, I, R) (fun r h' => a_at (d + 15) (a_xm a_m188) 153 [some (a_rf M), some (.int a), some (.int w)] (r.toList ++ []) h' P) := fun e => by
      refine xt_lossOf (d := d + 13) hS mR0 tp0 in0 ha ?_
      have hp := hP I
      rw [q8 e, ← lo_p hg.2.2] at hp
      ((try clear hP); (try clear hm); (try clear hy); (try clear hl); (try clear hg); (try clear mR0); (try clear mk0); (try clear ts0); (try clear tp0); (try clear in0))
      simp only [q188_153, as_nil, as_i, as_r, Nat.reduceAdd, Nat.reduceLeDiff, z_eq0, z_eq1, z_or, z_em, Classical.not_not, not_false_eq_true, not_true_eq_false, true_and, and_true, false_and, and_false, and_self, true_implies, false_implies, implies_true, Option.toList_some, Option.toList_none, List.cons_append, List.nil_append, Nat.add_eq_zero_iff, a_nl_i, a_nl_r, a_nl_n, true_or, or_true, eq_self, ok_4, ok_5, ok_6, ok_7, ok_9, ok_10, ok_20, ok_21, ok_24, ok_30, ok_48, ok_50, ok_60, ok_80, ok_120, ok_180, ok_192, ok_200, ok_900, ok_1000, ok_84000]
      exact hp
    have p9 : w = 9 → a_does (d + 15) 190 [a_rf M, .int a] (n, t, K, L, I, R) (fun r h' => a_at (d + 15) (a_xm a_m188) 159 [some (a_rf M), some (.int a), some (.int w)] (r.toList ++ []) h' P) := fun e => by
      refine xt_owedOf (d := d + 8) (I0 := I) hS (mC_refl mR0) mk0 ts0 tp0 in0 ha (fun J hJ => ?_)
      have hp := hP J
      rw [q9 e, ← oh_p hg.2.2] at hp
      ((try clear hP); (try clear hm); (try clear hy); (try clear hl); (try clear hg); (try clear mR0); (try clear mk0); (try clear ts0); (try clear tp0); (try clear in0))
      simp only [q188_159, as_nil, as_i, as_r, Nat.reduceAdd, Nat.reduceLeDiff, z_eq0, z_eq1, z_or, z_em, Classical.not_not, not_false_eq_true, not_true_eq_false, true_and, and_true, false_and, and_false, and_self, true_implies, false_implies, implies_true, Option.toList_some, Option.toList_none, List.cons_append, List.nil_append, Nat.add_eq_zero_iff, a_nl_i, a_nl_r, a_nl_n, true_or, or_true, eq_self, ok_4, ok_5, ok_6, ok_7, ok_9, ok_10, ok_20, ok_21, ok_24, ok_30, ok_48, ok_50, ok_60, ok_80, ok_120, ok_180, ok_192, ok_200, ok_900, ok_1000, ok_84000]
      exact hp
    by_cases c2 : 0 ≤ w ∧ w ≤ 9
    · have p9' : ¬ w = 0 → ¬ w = 1 → ¬ w = 2 → ¬ w = 3 → ¬ w = 4 → ¬ w = 5 → ¬ w = 6 → ¬ w = 7 → ¬ w = 8 → w = 9 := fun e0 e1 e2 e3 e4 e5 e6 e7 e8 => Classical.byContradiction (fun e9 => w10 e0 e1 e2 e3 e4 e5 e6 e7 e8 e9 c2)
      ((try clear hP); (try clear hm); (try clear hy); (try clear hl); (try clear hg); (try clear q0); (try clear q1); (try clear q2); (try clear q3); (try clear q4); (try clear q5); (try clear q6); (try clear q7); (try clear q8); (try clear q9); (try clear mR0); (try clear mk0); (try clear ts0); (try clear tp0); (try clear in0); (try clear er))
      rw [a_enter1 (M := a_m188) rfl (a_cat_rf (a_cat_int (a_cat_int a_cat_nil))) (show 3 ≤ 3 by decide)]
      show a_at _ (a_xm a_m188) 0 [some (a_rf M), some (.int a), some (.int w)] [] _ _
      simp only [q188_0, q188_1, q188_2, q188_5, q188_8, q188_9, q188_10, q188_13, q188_14, q188_15, q188_16, q188_18, q188_21, q188_24, q188_25, q188_27, q188_30, q188_31, m_0 hS, m_K hS, sp_isAsk hS, sp_refuse_1 hS, sp_refuse_2 hS, sp_refuse_3 hS, sp_refuse_4 hS, sp_refuse_5 hS, sp_refuse_6 hS, sp_in, as_nil, as_i, as_r, Nat.reduceAdd, Nat.reduceLeDiff, z_eq0, z_eq1, z_or, z_em, Classical.not_not, not_false_eq_true, not_true_eq_false, true_and, and_true, false_and, and_false, and_self, true_implies, false_implies, implies_true, Option.toList_some, Option.toList_none, List.cons_append, List.nil_append, Nat.add_eq_zero_iff, a_nl_i, a_nl_r, a_nl_n, true_or, or_true, eq_self, ok_4, ok_5, ok_6, ok_7, ok_9, ok_10, ok_20, ok_21, ok_24, ok_30, ok_48, ok_50, ok_60, ok_80, ok_120, ok_180, ok_192, ok_200, ok_900, ok_1000, ok_84000, e17, m17, c1, c2]
      try simp only [true_and, and_true, true_implies, false_implies, implies_true, not_true_eq_false, not_false_eq_true]
      repeat' first
        | with_reducible apply And.intro
        | with_reducible assumption
        | with_reducible intro _
        | exact p9 (p9' (by assumption) (by assumption) (by assumption) (by assumption) (by assumption) (by assumption) (by assumption) (by assumption) (by assumption))
        | exact p0 (by assumption)
        | exact p1 (by assumption)
        | exact p2 (by assumption)
        | exact p3 (by assumption)
        | exact p4 (by assumption)
        | exact p5 (by assumption)
        | exact p6 (by assumption)
        | exact p8 (by assumption)
        | exact p7 (by assumption) (by assumption)
        | exact p7' (by assumption) (by assumption)
        | exact ha
        | simp only [q188_32, q188_84, q188_85, q188_88, q188_89, q188_90, q188_91, q188_92, q188_95, q188_96, q188_97, q188_98, q188_99, q188_102, q188_103, q188_104, q188_105, q188_106, q188_109, q188_110, q188_111, q188_112, q188_113, q188_116, q188_117, q188_118, q188_119, q188_120, q188_123, q188_124, q188_125, q188_126, q188_127, q188_130, q188_131, q188_132, q188_133, q188_134, q188_137, q188_138, q188_139, q188_142, q188_143, q188_146, q188_147, q188_148, q188_149, q188_150, q188_153, q188_154, q188_155, q188_156, m_0 hS, m_K hS, mR_kind hS, mK_kind hS, mL_kind hS, mR_group hS, mK_group hS, mL_group hS, mR_land hS, mK_land hS, mL_land hS, mR_length hS, mK_length hS, mL_length hS, mR_danger hS, mK_danger hS, mL_danger hS, mR_atBench hS, mK_atBench hS, mL_atBench hS, mR_atShift hS, mK_atShift hS, mL_atShift hS, mR_isGone hS, mK_isGone hS, mL_isGone hS, as_nil, as_i, as_r, Nat.reduceAdd, Nat.reduceLeDiff, z_eq0, z_eq1, z_or, z_em, Classical.not_not, not_false_eq_true, not_true_eq_false, true_and, and_true, false_and, and_false, and_self, true_implies, false_implies, implies_true, Option.toList_some, Option.toList_none, List.cons_append, List.nil_append, Nat.add_eq_zero_iff, a_nl_i, a_nl_r, a_nl_n, true_or, or_true, eq_self, ok_4, ok_5, ok_6, ok_7, ok_9, ok_10, ok_20, ok_21, ok_24, ok_30, ok_48, ok_50, ok_60, ok_80, ok_120, ok_180, ok_192, ok_200, ok_900, ok_1000, ok_84000, a_sw, ti_0, ti_1, ti_2, ti_3, ti_4, ti_5, ti_6, ti_7, ti_8, ti_9, ti_10, ti_11, ti_12, ti_13, ti_14, ti_15, ti_16, ti_17, ti_18, ti_19, ti_98, ti_99, ti_100, ti_101, ti_102, ti_103, ti_104, ti_105, ti_106, ti_107, ti_108, ti_109, ti_110, ti_111, ti_112, ti_113, ti_114, ti_115, ti_116, ha]
      all_goals ((try clear hS); (try clear hR); (try clear p0); (try clear p1); (try clear p2); (try clear p3); (try clear p4); (try clear p5); (try clear p6); (try clear p8); (try clear p9); (try clear p9'); grind [ui_ap])
    · rw [aoV_2 c1 c2] at hP
      have hr := hP (a_ui I (M + 23) 2 (I (M + 23) 2 + 1))
      ((try clear hP); (try clear hm); (try clear hy); (try clear hl); (try clear hg); (try clear q0); (try clear q1); (try clear q2); (try clear q3); (try clear q4); (try clear q5); (try clear q6); (try clear q7); (try clear q8); (try clear q9); (try clear p0); (try clear p1); (try clear p2); (try clear p3); (try clear p4); (try clear p5); (try clear p6); (try clear p7); (try clear p8); (try clear p9); (try clear mR0); (try clear mk0); (try clear ts0); (try clear tp0); (try clear in0); (try clear er))
      rw [a_enter1 (M := a_m188) rfl (a_cat_rf (a_cat_int (a_cat_int a_cat_nil))) (show 3 ≤ 3 by decide)]
      show a_at _ (a_xm a_m188) 0 [some (a_rf M), some (.int a), some (.int w)] [] _ _
      simp only [q188_0, q188_1, q188_2, q188_5, q188_8, q188_9, q188_10, q188_13, q188_14, q188_15, q188_16, q188_18, q188_21, q188_24, q188_25, q188_27, q188_30, m_0 hS, m_K hS, sp_isAsk hS, sp_refuse_1 hS, sp_refuse_2 hS, sp_refuse_3 hS, sp_refuse_4 hS, sp_refuse_5 hS, sp_refuse_6 hS, sp_in, as_nil, as_i, as_r, Nat.reduceAdd, Nat.reduceLeDiff, z_eq0, z_eq1, z_or, z_em, Classical.not_not, not_false_eq_true, not_true_eq_false, true_and, and_true, false_and, and_false, and_self, true_implies, false_implies, implies_true, Option.toList_some, Option.toList_none, List.cons_append, List.nil_append, Nat.add_eq_zero_iff, a_nl_i, a_nl_r, a_nl_n, true_or, or_true, eq_self, ok_4, ok_5, ok_6, ok_7, ok_9, ok_10, ok_20, ok_21, ok_24, ok_30, ok_48, ok_50, ok_60, ok_80, ok_120, ok_180, ok_192, ok_200, ok_900, ok_1000, ok_84000, e17, m17, c1, c2]
      try simp only [true_and, and_true, true_implies, false_implies, implies_true, not_true_eq_false, not_false_eq_true]
      first
        | exact hr
        | grind
  · rw [aoV_1 c1] at hP
    have hr := hP (a_ui I (M + 23) 1 (I (M + 23) 1 + 1))
    ((try clear hP); (try clear hm); (try clear hy); (try clear hl); (try clear hg))
    rw [a_enter1 (M := a_m188) rfl (a_cat_rf (a_cat_int (a_cat_int a_cat_nil))) (show 3 ≤ 3 by decide)]
    show a_at _ (a_xm a_m188) 0 [some (a_rf M), some (.int a), some (.int w)] [] _ _
    simp only [q188_0, q188_1, q188_2, q188_5, q188_8, q188_9, q188_10, q188_13, m_0 hS, m_K hS, sp_isAsk hS, sp_refuse_1 hS, sp_refuse_2 hS, sp_refuse_3 hS, sp_refuse_4 hS, sp_refuse_5 hS, sp_refuse_6 hS, as_nil, as_i, as_r, Nat.reduceAdd, Nat.reduceLeDiff, z_eq0, z_eq1, z_or, z_em, Classical.not_not, not_false_eq_true, not_true_eq_false, true_and, and_true, false_and, and_false, and_self, true_implies, false_implies, implies_true, Option.toList_some, Option.toList_none, List.cons_append, List.nil_append, Nat.add_eq_zero_iff, a_nl_i, a_nl_r, a_nl_n, true_or, or_true, eq_self, ok_4, ok_5, ok_6, ok_7, ok_9, ok_10, ok_20, ok_21, ok_24, ok_30, ok_48, ok_50, ok_60, ok_80, ok_120, ok_180, ok_192, ok_200, ok_900, ok_1000, ok_84000, e17, m17, c1]
    try simp only [true_and, and_true, true_implies, false_implies, implies_true, not_true_eq_false, not_false_eq_true]
    first
      | exact hr
      | grind
end ZW1
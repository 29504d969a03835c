/-! the class: reading a text -/
section KA
variable {d n t C : Nat} {K L : Nat → Nat} {I I0 J J0 J1 J2 : Nat → Nat → Int32} {R : Nat → Nat → Nat} {P : Option Value → AH → Prop}
theorem dG_at1 (h : dG C K L R I0 J) (hl : J (C + 11) 4 < J (C + 11) 2) : dG C K L R I0 (a_ui J (C + 11) 4 (J (C + 11) 4 + 1)) := by
  have g1 := h.1.g_at
  have g2 := h.1.g_size
  refine dG_Tape_at h ?_
  clear h
  grind
theorem sp_signOf {s a b c k : Int32} {h : AH} : a_does (d + 1) 76 [.int s, .int a, .int b, .int c, .int k] h P ↔ P (some (.int (if s = a then k else if s = b then k + 1 else if s = c then k + 2 else -9))) h := by
  rw [a_enter1 (M := a_m76) rfl (a_cat_int (a_cat_int (a_cat_int (a_cat_int (a_cat_int a_cat_nil))))) (show 5 ≤ 5 by decide)]
  show a_at _ (a_xm a_m76) 0 [some (.int s), some (.int a), some (.int b), some (.int c), some (.int k)] [] _ _ ↔ _
  simp only [q76_0, q76_1, q76_2, q76_5, q76_7, q76_8, q76_9, q76_10, q76_13, q76_15, q76_16, q76_17, q76_18, q76_19, q76_20, q76_23, q76_25, q76_26, q76_27, q76_30, q76_32, as_nil, as_i, as_r, Nat.reduceAdd, Nat.reduceLeDiff, z_eq0, z_eq1, z_or, z_em, Classical.not_not, not_false_eq_true, not_true_eq_false, true_and, and_true, false_and, and_false, and_self, true_implies, false_implies, implies_true, Option.toList_some, Option.toList_none, List.cons_append, List.nil_append, Nat.add_eq_zero_iff, a_nl_i, a_nl_r, a_nl_n, true_or, or_true, eq_self, a_isRA_22, a_isRA_24, a_isRA_32, a_isA_20]
  grind
theorem sg_1 {s k : Int32} {a b c : Int32} (h : ¬ (if s = a then k else if s = b then k + 1 else if s = c then k + 2 else -9) = -9) (ha : ¬ a = -9) (hb : ¬ b = -9) (hc : ¬ c = -9) : ¬ s = -9 := by
  grind
theorem ck_factNumber {s : Int32} {h : AH} (hP : ∀ v : Int32, (s = -9 → v = -9) → P (some (.int v)) h) : a_does (d + 1) 74 [.int s] h P := by
  rw [a_enter1 (M := a_m74) rfl (a_cat_int a_cat_nil) (show 1 ≤ 1 by decide)]
  show a_at _ (a_xm a_m74) 0 [some (.int s)] [] _ _
  simp only [q74_0, q74_1, q74_92, q74_93, q74_94, q74_95, q74_96, q74_97, q74_98, q74_99, q74_100, q74_101, q74_102, q74_103, q74_104, q74_106, q74_107, q74_109, q74_110, q74_112, q74_113, q74_115, a_sw, ti_0, ti_1, ti_2, ti_3, ti_4, ti_5, ti_6, ti_7, ti_8, ti_9, ti_10, ti_11, ti_12, ti_13, ti_14, ti_15, ti_16, ti_17, ti_18, ti_19, ti_98, ti_99, ti_100, ti_101, ti_102, ti_103, ti_104, ti_105, ti_106, ti_107, ti_108, ti_109, ti_110, ti_111, ti_112, ti_113, ti_114, ti_115, ti_116, as_nil, as_i, as_r, Nat.reduceAdd, Nat.reduceLeDiff, z_eq0, z_eq1, z_or, z_em, Classical.not_not, not_false_eq_true, not_true_eq_false, true_and, and_true, false_and, and_false, and_self, true_implies, false_implies, implies_true, Option.toList_some, Option.toList_none, List.cons_append, List.nil_append, Nat.add_eq_zero_iff, a_nl_i, a_nl_r, a_nl_n, true_or, or_true, eq_self, a_isRA_22, a_isRA_24, a_isRA_32, a_isA_20]
  repeat' first
    | with_reducible apply And.intro
    | with_reducible intro _
    | with_reducible apply hP
  all_goals grind
theorem ck_next (hT : cT C K L I R) (hP : ∀ v : Int32, (¬ v = -9 → I (C + 11) 4 < I (C + 11) 2) → P (some (.int v)) (n, t, K, L, I, R)) : a_does (d + 1) 70 [a_rf (C + 11)] (n, t, K, L, I, R) P := by
  have hS := hT.s
  have g1 := hT.g_at
  have g2 := hT.g_size
  rw [a_enter1 (M := a_m70) rfl (a_cat_rf a_cat_nil) (show 1 ≤ 1 by decide)]
  show a_at _ (a_xm a_m70) 0 [some (a_rf (C + 11))] [] _ _
  repeat' first
    | with_reducible apply And.intro
    | with_reducible assumption
    | with_reducible intro _
    | with_reducible apply hP
    | simp only [q70_0, q70_1, q70_4, q70_5, q70_8, q70_11, q70_12, q70_15, q70_16, q70_19, q70_20, q70_23, q70_25, k_11 hS, z_11, r_11_0 hS, k_12 hS, l_12 hS, z_12, as_nil, as_i, as_r, Nat.reduceAdd, Nat.reduceLeDiff, z_eq0, z_eq1, z_or, z_em, Classical.not_not, not_false_eq_true, not_true_eq_false, true_and, and_true, false_and, and_false, and_self, true_implies, false_implies, implies_true, Option.toList_some, Option.toList_none, List.cons_append, List.nil_append, Nat.add_eq_zero_iff, a_nl_i, a_nl_r, a_nl_n, true_or, or_true, eq_self, a_isRA_22, a_isRA_24, a_isRA_32, a_isA_20, ok_4, ok_5, ok_6, ok_7, ok_9, ok_20, ok_21, ok_30, ok_50, ok_180, ok_192, ok_200]
  all_goals grind [ui_ap]
theorem ck_skip (hT : cT C K L I R) {s : Int32} (hs : ¬ s = -9) (hP0 : P (some (.int 0)) (n, t, K, L, I, R)) (hP1 : I (C + 11) 4 < I (C + 11) 2 → P (some (.int 1)) (n, t, K, L, (a_ui I (C + 11) 4 (I (C + 11) 4 + 1)), R)) : a_does (d + 2) 71 [a_rf (C + 11), .int s] (n, t, K, L, I, R) P := by
  have hS := hT.s
  rw [a_enter1 (M := a_m71) rfl (a_cat_rf (a_cat_int a_cat_nil)) (show 2 ≤ 2 by decide)]
  show a_at _ (a_xm a_m71) 0 [some (a_rf (C + 11)), some (.int s)] [] _ _
  repeat' first
    | with_reducible apply And.intro
    | with_reducible assumption
    | with_reducible intro _
    | with_reducible apply hP0
    | with_reducible apply hP1
    | with_reducible apply ck_next hT
    | simp only [q71_0, q71_1, q71_4, q71_5, q71_8, q71_9, q71_10, q71_11, q71_12, q71_15, q71_16, q71_17, q71_20, q71_21, k_11 hS, z_11, as_nil, as_i, as_r, Nat.reduceAdd, Nat.reduceLeDiff, z_eq0, z_eq1, z_or, z_em, Classical.not_not, not_false_eq_true, not_true_eq_false, true_and, and_true, false_and, and_false, and_self, true_implies, false_implies, implies_true, Option.toList_some, Option.toList_none, List.cons_append, List.nil_append, Nat.add_eq_zero_iff, a_nl_i, a_nl_r, a_nl_n, true_or, or_true, eq_self, a_isRA_22, a_isRA_24, a_isRA_32, a_isA_20, ok_4, ok_5, ok_6, ok_7, ok_9, ok_20, ok_21, ok_30, ok_50, ok_180, ok_192, ok_200]
  all_goals ((try clear ih); (try clear hP); (try clear hl); (try clear hq); (try clear a3); grind [ui_ap])
theorem ck_write (hG : dG C K L R I0 I) {s : Int32} (hP : ∀ J, dG C K L R I0 J → P none (n, t, K, L, J, R)) : a_does (d + 1) 75 [a_rf (C + 11), .int s] (n, t, K, L, I, R) P := by
  have hT := hG.1
  have hS := hT.s
  have g1 := hT.g_code
  rw [a_enter1 (M := a_m75) rfl (a_cat_rf (a_cat_int a_cat_nil)) (show 2 ≤ 2 by decide)]
  show a_at _ (a_xm a_m75) 0 [some (a_rf (C + 11)), some (.int s)] [] _ _
  repeat' first
    | with_reducible apply And.intro
    | with_reducible assumption
    | with_reducible intro _
    | with_reducible apply hP
    | with_reducible apply dG_Tape_codeSize
    | with_reducible apply dG_13
    | simp only [q75_0, q75_1, q75_4, q75_5, q75_8, q75_9, q75_12, q75_13, q75_16, q75_17, q75_20, q75_21, q75_22, q75_23, q75_24, q75_27, q75_28, q75_29, q75_32, k_11 hS, z_11, r_11_1 hS, k_13 hS, l_13 hS, z_13, as_nil, as_i, as_r, Nat.reduceAdd, Nat.reduceLeDiff, z_eq0, z_eq1, z_or, z_em, Classical.not_not, not_false_eq_true, not_true_eq_false, true_and, and_true, false_and, and_false, and_self, true_implies, false_implies, implies_true, Option.toList_some, Option.toList_none, List.cons_append, List.nil_append, Nat.add_eq_zero_iff, a_nl_i, a_nl_r, a_nl_n, true_or, or_true, eq_self, a_isRA_22, a_isRA_24, a_isRA_32, a_isA_20, ok_4, ok_5, ok_6, ok_7, ok_9, ok_20, ok_21, ok_30, ok_50, ok_180, ok_192, ok_200, of_50, ui_ap, cc_ne, cc_n0, cc_0n, Nat.reduceEqDiff, reduceIte, if_true, if_false]
  all_goals ((try clear ih); (try clear hP); (try clear hl); (try clear hq); (try clear a3); grind [ui_ap])
theorem lk_readUnit_39 {f : Int32} (hP : ∀ v J, (v = 0 ∨ v = 1) → dG C K L R I0 J → P (some (.int v)) (n, t, K, L, J, R)) : ∀ i : Int32, i ≤ 3 → ∀ J o, 0 ≤ i → dG C K L R I0 J → a_at (d + 2) (a_xm a_m73) 39 [some (a_rf (C + 11)), some (.int f), some (.int o), some (.int i)] [] (n, t, K, L, J, R) P := by
  refine up_ind 3 (fun i hk ih => ?_)
  intro J o q0 hG
  have hT := hG.1
  have hS := hT.s
  rw [q73_39]
  repeat' first
    | with_reducible apply And.intro
    | with_reducible assumption
    | with_reducible intro _
    | with_reducible apply hP
    | with_reducible apply ih
    | with_reducible apply ck_next hT
    | with_reducible apply ck_write
    | with_reducible apply dG_at1
    | simp only [q73_40, q73_41, q73_44, q73_45, q73_48, q73_50, q73_53, q73_54, q73_57, q73_59, q73_62, q73_63, q73_65, q73_66, q73_67, q73_70, q73_71, q73_73, q73_74, q73_75, q73_76, q73_77, q73_80, q73_81, q73_82, q73_85, q73_88, q73_91, q73_92, q73_93, q73_96, q73_97, q73_100, q73_101, q73_104, q73_105, k_11 hS, z_11, as_nil, as_i, as_r, Nat.reduceAdd, Nat.reduceLeDiff, z_eq0, z_eq1, z_or, z_em, Classical.not_not, not_false_eq_true, not_true_eq_false, true_and, and_true, false_and, and_false, and_self, true_implies, false_implies, implies_true, Option.toList_some, Option.toList_none, List.cons_append, List.nil_append, Nat.add_eq_zero_iff, a_nl_i, a_nl_r, a_nl_n, true_or, or_true, eq_self, a_isRA_22, a_isRA_24, a_isRA_32, a_isA_20, ok_4, ok_5, ok_6, ok_7, ok_9, ok_20, ok_21, ok_30, ok_50, ok_180, ok_192, ok_200]
  all_goals ((try clear ih); (try clear hP); (try clear hl); (try clear hq); (try clear a3); grind [ui_ap])
theorem ck_readUnit (hG : dG C K L R I0 I) (hP : ∀ v J, (v = 0 ∨ v = 1) → dG C K L R I0 J → P (some (.int v)) (n, t, K, L, J, R)) : a_does (d + 3) 73 [a_rf (C + 11)] (n, t, K, L, I, R) P := by
  have hT := hG.1
  have hS := hT.s
  have hl := fun f => lk_readUnit_39 (d := d) (f := f) hP 0 (by decide) I 0 (by decide) hG
  rw [a_enter1 (M := a_m73) rfl (a_cat_rf a_cat_nil) (show 1 ≤ 4 by decide)]
  show a_at _ (a_xm a_m73) 0 [some (a_rf (C + 11)), none, none, none] [] _ _
  repeat' first
    | with_reducible apply And.intro
    | with_reducible assumption
    | with_reducible intro _
    | with_reducible apply hP
    | with_reducible apply hl
    | with_reducible apply ck_next hT
    | with_reducible apply ck_write
    | with_reducible apply ck_factNumber
    | with_reducible apply dG_at1
    | simp only [q73_0, q73_1, q73_4, q73_7, q73_8, q73_9, q73_11, q73_14, q73_15, q73_16, q73_19, q73_20, q73_21, q73_24, q73_25, q73_28, q73_29, q73_30, q73_33, q73_34, q73_35, q73_36, q73_37, q73_38, k_11 hS, z_11, as_nil, as_i, as_r, Nat.reduceAdd, Nat.reduceLeDiff, z_eq0, z_eq1, z_or, z_em, Classical.not_not, not_false_eq_true, not_true_eq_false, true_and, and_true, false_and, and_false, and_self, true_implies, false_implies, implies_true, Option.toList_some, Option.toList_none, List.cons_append, List.nil_append, Nat.add_eq_zero_iff, a_nl_i, a_nl_r, a_nl_n, true_or, or_true, eq_self, a_isRA_22, a_isRA_24, a_isRA_32, a_isA_20, ok_4, ok_5, ok_6, ok_7, ok_9, ok_20, ok_21, ok_30, ok_50, ok_180, ok_192, ok_200]
  all_goals ((try clear ih); (try clear hP); (try clear hl); (try clear hq); (try clear a3); grind [ui_ap])
theorem lk_readSum_7 (hP : ∀ v J, (v = 0 ∨ v = 1) → dG C K L R I0 J → P (some (.int v)) (n, t, K, L, J, R)) : ∀ i : Int32, i ≤ 50 → ∀ J o u, (o = 0 ∨ o = 1) → 0 ≤ i → dG C K L R I0 J → a_at (d + 3) (a_xm a_m72) 7 [some (a_rf (C + 11)), some (.int o), some (.int i), u] [] (n, t, K, L, J, R) P := by
  refine up_ind 50 (fun i hk ih => ?_)
  intro J o u q1 q0 hG
  have hT := hG.1
  have hS := hT.s
  rw [q72_7]
  repeat' first
    | with_reducible apply And.intro
    | with_reducible assumption
    | with_reducible intro _
    | with_reducible apply hP
    | with_reducible apply ih
    | with_reducible apply ck_next hT
    | with_reducible apply ck_readUnit (I0 := I0)
    | with_reducible apply ck_write (I0 := I0)
    | with_reducible apply dG_at1
    | simp only [q72_8, q72_10, q72_13, q72_14, q72_17, q72_18, q72_21, q72_23, q72_25, q72_27, q72_30, q72_33, q72_34, q72_35, q72_37, q72_40, q72_41, q72_42, q72_43, q72_44, q72_47, q72_48, q72_49, q72_52, q72_53, q72_56, q72_57, q72_58, q72_59, q72_62, q72_65, q72_68, q72_69, k_11 hS, z_11, as_nil, as_i, as_r, Nat.reduceAdd, Nat.reduceLeDiff, z_eq0, z_eq1, z_or, z_em, Classical.not_not, not_false_eq_true, not_true_eq_false, true_and, and_true, false_and, and_false, and_self, true_implies, false_implies, implies_true, Option.toList_some, Option.toList_none, List.cons_append, List.nil_append, Nat.add_eq_zero_iff, a_nl_i, a_nl_r, a_nl_n, true_or, or_true, eq_self, a_isRA_22, a_isRA_24, a_isRA_32, a_isA_20, ok_4, ok_5, ok_6, ok_7, ok_9, ok_20, ok_21, ok_30, ok_50, ok_180, ok_192, ok_200, sp_signOf]
  all_goals ((try clear ih); (try clear hP); (try clear hl); (try clear hq); (try clear a3); grind [ui_ap])
theorem ck_readSum (hG : dG C K L R I0 I) (hP : ∀ v J, (v = 0 ∨ v = 1) → dG C K L R I0 J → P (some (.int v)) (n, t, K, L, J, R)) : a_does (d + 4) 72 [a_rf (C + 11)] (n, t, K, L, I, R) P := by
  have hT := hG.1
  have hS := hT.s
  have hl := fun J o u (h : o = 0 ∨ o = 1) (hJ : dG C K L R I0 J) => lk_readSum_7 (d := d) hP 0 (by decide) J o u h (by decide) hJ
  rw [a_enter1 (M := a_m72) rfl (a_cat_rf a_cat_nil) (show 1 ≤ 4 by decide)]
  show a_at _ (a_xm a_m72) 0 [some (a_rf (C + 11)), none, none, none] [] _ _
  repeat' first
    | with_reducible apply And.intro
    | with_reducible assumption
    | with_reducible intro _
    | with_reducible apply hl
    | with_reducible apply ck_readUnit (I0 := I0)
    | simp only [q72_0, q72_1, q72_4, q72_5, q72_6, k_11 hS, z_11, as_nil, as_i, as_r, Nat.reduceAdd, Nat.reduceLeDiff, z_eq0, z_eq1, z_or, z_em, Classical.not_not, not_false_eq_true, not_true_eq_false, true_and, and_true, false_and, and_false, and_self, true_implies, false_implies, implies_true, Option.toList_some, Option.toList_none, List.cons_append, List.nil_append, Nat.add_eq_zero_iff, a_nl_i, a_nl_r, a_nl_n, true_or, or_true, eq_self, a_isRA_22, a_isRA_24, a_isRA_32, a_isA_20, ok_4, ok_5, ok_6, ok_7, ok_9, ok_20, ok_21, ok_30, ok_50, ok_180, ok_192, ok_200]
  all_goals ((try clear ih); (try clear hP); (try clear hl); (try clear hq); (try clear a3); grind [ui_ap])
theorem ck_readComparison (hG : dG C K L R I0 I) (hP : ∀ v J, (v = 0 ∨ v = 1) → dG C K L R I0 J → P (some (.int v)) (n, t, K, L, J, R)) : a_does (d + 5) 79 [a_rf (C + 11)] (n, t, K, L, I, R) P := by
  have hT := hG.1
  have hS := hT.s
  rw [a_enter1 (M := a_m79) rfl (a_cat_rf a_cat_nil) (show 1 ≤ 3 by decide)]
  show a_at _ (a_xm a_m79) 0 [some (a_rf (C + 11)), none, none] [] _ _
  repeat' first
    | with_reducible apply And.intro
    | with_reducible assumption
    | with_reducible intro _
    | with_reducible apply hP
    | with_reducible apply ck_next
    | with_reducible apply ck_readSum (I0 := I0)
    | with_reducible apply ck_write (I0 := I0)
    | with_reducible apply dG_at1
    | with_reducible apply dG_T (I := I0)
    | simp only [q79_0, q79_1, q79_4, q79_7, q79_8, q79_9, q79_10, q79_13, q79_15, q79_17, q79_19, q79_22, q79_25, q79_26, q79_27, q79_29, q79_32, q79_33, q79_34, q79_35, q79_36, q79_39, q79_40, q79_41, q79_44, q79_45, q79_48, q79_49, q79_50, q79_51, q79_54, q79_55, k_11 hS, z_11, as_nil, as_i, as_r, Nat.reduceAdd, Nat.reduceLeDiff, z_eq0, z_eq1, z_or, z_em, Classical.not_not, not_false_eq_true, not_true_eq_false, true_and, and_true, false_and, and_false, and_self, true_implies, false_implies, implies_true, Option.toList_some, Option.toList_none, List.cons_append, List.nil_append, Nat.add_eq_zero_iff, a_nl_i, a_nl_r, a_nl_n, true_or, or_true, eq_self, a_isRA_22, a_isRA_24, a_isRA_32, a_isA_20, ok_4, ok_5, ok_6, ok_7, ok_9, ok_20, ok_21, ok_30, ok_50, ok_180, ok_192, ok_200, sp_signOf]
  all_goals ((try clear ih); (try clear hP); (try clear hl); (try clear hq); (try clear a3); grind [ui_ap])
def kRP (C n t : Nat) (K L : Nat → Nat) (R : Nat → Nat → Nat) (I0 : Nat → Nat → Int32) (z : Nat) : Prop := ∀ (p : Int32) (I : Nat → Nat → Int32) (D : Nat) (P : Option Value → AH → Prop), 0 ≤ p → p.toInt + z = 4 → 6 * z + 30 ≤ D → dG C K L R I0 I → (∀ v J, (v = 0 ∨ v = 1) → dG C K L R I0 J → P (some (.int v)) (n, t, K, L, J, R)) → a_does D 78 [a_rf (C + 11), .int p] (n, t, K, L, I, R) P
def kRJ (C n t : Nat) (K L : Nat → Nat) (R : Nat → Nat → Nat) (I0 : Nat → Nat → Int32) (z : Nat) : Prop := ∀ (y : Nat) (l p : Int32) (I : Nat → Nat → Int32) (D : Nat) (P : Option Value → AH → Prop), 0 ≤ l → l.toInt + y = 3 → 0 ≤ p → p.toInt + z = 4 → 6 * z + 31 + y ≤ D → dG C K L R I0 I → (∀ v J, (v = 0 ∨ v = 1) → dG C K L R I0 J → P (some (.int v)) (n, t, K, L, J, R)) → a_does D 77 [a_rf (C + 11), .int l, .int p] (n, t, K, L, I, R) P
theorem inc_ti {p : Int32} (h0 : 0 ≤ p) (h : p < 1000) : (p + 1).toInt = p.toInt + 1 ∧ 0 ≤ p + 1 := by
  have e0 := Int32.le_iff_toInt_le.mp h0
  have e1 := Int32.lt_iff_toInt_lt.mp h
  have c0 : (0 : Int32).toInt = 0 := rfl
  have c1 : (1 : Int32).toInt = 1 := rfl
  have c2 : (1000 : Int32).toInt = 1000 := rfl
  have e : (p + 1).toInt = p.toInt + 1 := by rw [ti_add (by omega)]; omega
  exact ⟨e, by rw [Int32.le_iff_toInt_le]; omega⟩
theorem kRP_step {z : Nat} (ih : ∀ w, z = w + 1 → kRP C n t K L R I0 w ∧ kRJ C n t K L R I0 w) : kRP C n t K L R I0 z := by
  intro p I D P h0 h1 h2 hG hP
  obtain ⟨E, rfl⟩ : ∃ E, D = E + 30 := ⟨D - 30, by omega⟩
  have hT := hG.1
  have hS := hT.s
  have hz : ¬ 4 ≤ p → ∃ w, z = w + 1 ∧ (p + 1).toInt + w = 4 ∧ 0 ≤ p + 1 := fun q => by
    have e1 := Int32.lt_iff_toInt_lt.mp (Int32.not_le.mp q)
    have c4 : (4 : Int32).toInt = 4 := rfl
    obtain ⟨a1, a2⟩ := inc_ti h0 (by rw [Int32.lt_iff_toInt_lt]; have : (1000 : Int32).toInt = 1000 := rfl; omega)
    exact ⟨z - 1, by omega, by omega, a2⟩
  have hrj : ¬ 4 ≤ p → ∀ (J : Nat → Nat → Int32) (P : Option Value → AH → Prop), dG C K L R I0 J → (∀ v J, (v = 0 ∨ v = 1) → dG C K L R I0 J → P (some (.int v)) (n, t, K, L, J, R)) → a_does (E + 29) 77 [a_rf (C + 11), .int 0, .int (p + 1)] (n, t, K, L, J, R) P := fun q J P r1 r2 => by
    obtain ⟨w, w1, w2, w3⟩ := hz q
    exact (ih w w1).2 3 0 (p + 1) J (E + 29) P (by decide) (by decide) w3 w2 (by omega) r1 r2
  have hrp : ¬ 4 ≤ p → ∀ (J : Nat → Nat → Int32) (P : Option Value → AH → Prop), dG C K L R I0 J → (∀ v J, (v = 0 ∨ v = 1) → dG C K L R I0 J → P (some (.int v)) (n, t, K, L, J, R)) → a_does (E + 29) 78 [a_rf (C + 11), .int (p + 1)] (n, t, K, L, J, R) P := fun q J P r1 r2 => by
    obtain ⟨w, w1, w2, w3⟩ := hz q
    exact (ih w w1).1 (p + 1) J (E + 29) P w3 w2 (by omega) r1 r2
  clear hz ih
  rw [a_enter1 (M := a_m78) rfl (a_cat_rf (a_cat_int a_cat_nil)) (show 2 ≤ 3 by decide)]
  show a_at _ (a_xm a_m78) 0 [some (a_rf (C + 11)), some (.int p), none] [] _ _
  repeat' first
    | with_reducible apply And.intro
    | with_reducible assumption
    | with_reducible intro _
    | with_reducible apply hP
    | with_reducible apply ck_next
    | with_reducible apply ck_readComparison (I0 := I0)
    | with_reducible apply ck_skip
    | with_reducible apply ck_write (I0 := I0)
    | with_reducible apply hrj
    | with_reducible apply hrp
    | with_reducible apply dG_at1
    | with_reducible apply dG_T (I := I0)
    | simp only [q78_0, q78_1, q78_4, q78_6, q78_9, q78_10, q78_13, q78_15, q78_18, q78_19, q78_22, q78_23, q78_24, q78_25, q78_28, q78_29, q78_30, q78_31, q78_33, q78_36, q78_39, q78_40, q78_41, q78_42, q78_43, q78_44, q78_47, q78_50, q78_51, q78_53, q78_56, q78_59, q78_60, q78_63, q78_64, q78_65, q78_66, q78_67, q78_70, q78_71, q78_72, q78_75, q78_76, q78_77, q78_78, q78_79, q78_82, q78_83, q78_84, q78_87, q78_90, q78_91, k_11 hS, z_11, as_nil, as_i, as_r, Nat.reduceAdd, Nat.reduceLeDiff, z_eq0, z_eq1, z_or, z_em, Classical.not_not, not_false_eq_true, not_true_eq_false, true_and, and_true, false_and, and_false, and_self, true_implies, false_implies, implies_true, Option.toList_some, Option.toList_none, List.cons_append, List.nil_append, Nat.add_eq_zero_iff, a_nl_i, a_nl_r, a_nl_n, true_or, or_true, eq_self, a_isRA_22, a_isRA_24, a_isRA_32, a_isA_20, ok_4, ok_5, ok_6, ok_7, ok_9, ok_20, ok_21, ok_30, ok_50, ok_180, ok_192, ok_200]
  all_goals ((try clear ih); (try clear hP); (try clear hl); (try clear hq); (try clear a3); grind [ui_ap])
theorem lk_readJoined_23 {E z y : Nat} {l p : Int32} (hr : ∀ (J : Nat → Nat → Int32) (P : Option Value → AH → Prop), dG C K L R I0 J → (∀ v J, (v = 0 ∨ v = 1) → dG C K L R I0 J → P (some (.int v)) (n, t, K, L, J, R)) → a_does (E + 29) 77 [a_rf (C + 11), .int (l + 1), .int p] (n, t, K, L, J, R) P) (hP : ∀ v J, (v = 0 ∨ v = 1) → dG C K L R I0 J → P (some (.int v)) (n, t, K, L, J, R)) : ∀ i : Int32, i ≤ 50 → ∀ J o, (o = 0 ∨ o = 1) → 0 ≤ i → dG C K L R I0 J → a_at (E + 29) (a_xm a_m77) 23 [some (a_rf (C + 11)), some (.int l), some (.int p), some (.int o), some (.int i)] [] (n, t, K, L, J, R) P := by
  refine up_ind 50 (fun i hk ih => ?_)
  intro J o q1 q0 hG
  have hT := hG.1
  have hS := hT.s
  rw [q77_23]
  repeat' first
    | with_reducible apply And.intro
    | with_reducible assumption
    | with_reducible intro _
    | with_reducible apply hP
    | with_reducible apply ih
    | with_reducible apply hr
    | with_reducible apply ck_skip hT
    | with_reducible apply ck_write (I0 := I0)
    | with_reducible apply dG_at1
    | simp only [q77_25, q77_27, q77_30, q77_31, q77_34, q77_35, q77_36, q77_39, q77_41, q77_44, q77_45, q77_46, q77_49, q77_51, q77_54, q77_56, q77_59, q77_62, q77_63, q77_64, q77_65, q77_66, q77_67, q77_70, q77_71, q77_72, q77_73, q77_76, q77_79, q77_82, q77_83, q77_84, q77_87, q77_90, q77_93, q77_96, q77_99, q77_102, q77_105, q77_106, k_11 hS, z_11, as_nil, as_i, as_r, Nat.reduceAdd, Nat.reduceLeDiff, z_eq0, z_eq1, z_or, z_em, Classical.not_not, not_false_eq_true, not_true_eq_false, true_and, and_true, false_and, and_false, and_self, true_implies, false_implies, implies_true, Option.toList_some, Option.toList_none, List.cons_append, List.nil_append, Nat.add_eq_zero_iff, a_nl_i, a_nl_r, a_nl_n, true_or, or_true, eq_self, a_isRA_22, a_isRA_24, a_isRA_32, a_isA_20, ok_4, ok_5, ok_6, ok_7, ok_9, ok_20, ok_21, ok_30, ok_50, ok_180, ok_192, ok_200]
  all_goals ((try clear ih); (try clear hP); (try clear hl); (try clear hq); (try clear a3); grind [ui_ap])
theorem kRJ_step {z : Nat} (hp : kRP C n t K L R I0 z) : kRJ C n t K L R I0 z := by
  intro y
  induction y with
  | zero =>
    intro l p I D P l0 l1 h0 h1 h2 hG hP
    obtain ⟨E, rfl⟩ : ∃ E, D = E + 30 := ⟨D - 30, by omega⟩
    have hT := hG.1
    have hS := hT.s
    have hc : ¬ l ≤ 2 := by
      rw [Int32.le_iff_toInt_le]
      have c2 : (2 : Int32).toInt = 2 := rfl
      omega
    have hr : ∀ (J : Nat → Nat → Int32) (P : Option Value → AH → Prop), dG C K L R I0 J → (∀ v J, (v = 0 ∨ v = 1) → dG C K L R I0 J → P (some (.int v)) (n, t, K, L, J, R)) → a_does (E + 29) 78 [a_rf (C + 11), .int p] (n, t, K, L, J, R) P := fun J P r1 r2 => hp p J (E + 29) P h0 h1 (by omega) r1 r2
    clear hp
    rw [a_enter1 (M := a_m77) rfl (a_cat_rf (a_cat_int (a_cat_int a_cat_nil))) (show 3 ≤ 5 by decide)]
    show a_at _ (a_xm a_m77) 0 [some (a_rf (C + 11)), some (.int l), some (.int p), none, none] [] _ _
    repeat' first
      | with_reducible apply And.intro
      | with_reducible assumption
      | with_reducible intro _
      | with_reducible apply hP
      | with_reducible apply hr
      | simp only [q77_0, q77_1, q77_2, q77_5, q77_6, q77_7, q77_10, k_11 hS, z_11, as_nil, as_i, as_r, Nat.reduceAdd, Nat.reduceLeDiff, z_eq0, z_eq1, z_or, z_em, Classical.not_not, not_false_eq_true, not_true_eq_false, true_and, and_true, false_and, and_false, and_self, true_implies, false_implies, implies_true, Option.toList_some, Option.toList_none, List.cons_append, List.nil_append, Nat.add_eq_zero_iff, a_nl_i, a_nl_r, a_nl_n, true_or, or_true, eq_self, a_isRA_22, a_isRA_24, a_isRA_32, a_isA_20, ok_4, ok_5, ok_6, ok_7, ok_9, ok_20, ok_21, ok_30, ok_50, ok_180, ok_192, ok_200, hc]
    all_goals ((try clear ih); (try clear hP); (try clear hl); (try clear hq); (try clear a3); grind [ui_ap])
  | succ y ihy =>
    intro l p I D P l0 l1 h0 h1 h2 hG hP
    obtain ⟨E, rfl⟩ : ∃ E, D = E + 30 := ⟨D - 30, by omega⟩
    have hT := hG.1
    have hS := hT.s
    have hc : l ≤ 2 := by
      rw [Int32.le_iff_toInt_le]
      have c2 : (2 : Int32).toInt = 2 := rfl
      omega
    obtain ⟨a1, a2⟩ := inc_ti l0 (by rw [Int32.lt_iff_toInt_lt]; have : (1000 : Int32).toInt = 1000 := rfl; omega)
    have hr : ∀ (J : Nat → Nat → Int32) (P : Option Value → AH → Prop), dG C K L R I0 J → (∀ v J, (v = 0 ∨ v = 1) → dG C K L R I0 J → P (some (.int v)) (n, t, K, L, J, R)) → a_does (E + 29) 77 [a_rf (C + 11), .int (l + 1), .int p] (n, t, K, L, J, R) P := fun J P r1 r2 => ihy (l + 1) p J (E + 29) P a2 (by omega) h0 h1 (by omega) r1 r2
    have hl := fun J o (h : o = 0 ∨ o = 1) (hJ : dG C K L R I0 J) => lk_readJoined_23 (z := z) (y := y) hr hP 0 (by decide) J o h (by decide) hJ
    clear hp ihy a1 a2 l1
    rw [a_enter1 (M := a_m77) rfl (a_cat_rf (a_cat_int (a_cat_int a_cat_nil))) (show 3 ≤ 5 by decide)]
    show a_at _ (a_xm a_m77) 0 [some (a_rf (C + 11)), some (.int l), some (.int p), none, none] [] _ _
    repeat' first
      | with_reducible apply And.intro
      | with_reducible assumption
      | with_reducible intro _
      | with_reducible apply hl
      | with_reducible apply hr
      | simp only [q77_0, q77_1, q77_2, q77_11, q77_12, q77_13, q77_14, q77_15, q77_16, q77_19, q77_20, q77_21, k_11 hS, z_11, as_nil, as_i, as_r, Nat.reduceAdd, Nat.reduceLeDiff, z_eq0, z_eq1, z_or, z_em, Classical.not_not, not_false_eq_true, not_true_eq_false, true_and, and_true, false_and, and_false, and_self, true_implies, false_implies, implies_true, Option.toList_some, Option.toList_none, List.cons_append, List.nil_append, Nat.add_eq_zero_iff, a_nl_i, a_nl_r, a_nl_n, true_or, or_true, eq_self, a_isRA_22, a_isRA_24, a_isRA_32, a_isA_20, ok_4, ok_5, ok_6, ok_7, ok_9, ok_20, ok_21, ok_30, ok_50, ok_180, ok_192, ok_200, hc]
    all_goals ((try clear ih); (try clear hP); (try clear hl); (try clear hq); (try clear a3); grind [ui_ap])
theorem kRR : ∀ z, kRP C n t K L R I0 z ∧ kRJ C n t K L R I0 z := by
  intro z
  induction z with
  | zero =>
    have h := kRP_step (C := C) (n := n) (t := t) (K := K) (L := L) (R := R) (I0 := I0) (z := 0) (fun w h => by omega)
    exact ⟨h, kRJ_step h⟩
  | succ z ih =>
    have h := kRP_step (C := C) (n := n) (t := t) (K := K) (L := L) (R := R) (I0 := I0) (z := z + 1) (fun w h => by
      obtain rfl : w = z := by omega
      exact ih)
    exact ⟨h, kRJ_step h⟩
theorem ck_readJoined (hG : dG C K L R I0 I) (hP : ∀ v J, (v = 0 ∨ v = 1) → dG C K L R I0 J → P (some (.int v)) (n, t, K, L, J, R)) : a_does (d + 60) 77 [a_rf (C + 11), .int 0, .int 0] (n, t, K, L, I, R) P := (kRR 4).2 3 0 0 I (d + 60) P (by decide) (by decide) (by decide) (by decide) (by omega) hG hP
theorem ck_read (hG : dG C K L R I0 I) (hP : ∀ v J, (v = 0 ∨ v = 1) → dG C K L R I0 J → P (some (.int v)) (n, t, K, L, J, R)) : a_does (d + 61) 69 [a_rf (C + 11)] (n, t, K, L, I, R) P := by
  have hT := hG.1
  have hS := hT.s
  have h0 : dG C K L R I0 (a_ui (a_ui I (C + 11) 4 0) (C + 11) 3 0) := dG_Tape_codeSize (dG_Tape_at hG (by decide)) (by decide)
  rw [a_enter1 (M := a_m69) rfl (a_cat_rf a_cat_nil) (show 1 ≤ 3 by decide)]
  show a_at _ (a_xm a_m69) 0 [some (a_rf (C + 11)), none, none] [] _ _
  repeat' first
    | with_reducible apply And.intro
    | with_reducible assumption
    | with_reducible intro _
    | with_reducible apply hP
    | with_reducible apply ck_next
    | with_reducible apply ck_skip
    | with_reducible apply ck_readJoined (I0 := I0)
    | with_reducible apply ck_readSum (I0 := I0)
    | with_reducible apply dG_at1
    | with_reducible apply dG_T (I := I0)
    | simp only [q69_0, q69_1, q69_2, q69_5, q69_6, q69_7, q69_10, q69_11, q69_14, q69_16, q69_19, q69_20, q69_23, q69_24, q69_25, q69_26, q69_28, q69_31, q69_34, q69_35, q69_37, q69_40, q69_43, q69_44, q69_46, q69_49, q69_52, q69_53, q69_54, q69_55, q69_57, q69_60, q69_63, q69_64, q69_65, q69_66, q69_69, q69_70, q69_73, q69_76, q69_77, q69_78, q69_79, q69_82, q69_83, q69_84, q69_87, q69_88, q69_91, q69_92, q69_95, q69_98, q69_99, q69_102, q69_103, k_11 hS, z_11, as_nil, as_i, as_r, Nat.reduceAdd, Nat.reduceLeDiff, z_eq0, z_eq1, z_or, z_em, Classical.not_not, not_false_eq_true, not_true_eq_false, true_and, and_true, false_and, and_false, and_self, true_implies, false_implies, implies_true, Option.toList_some, Option.toList_none, List.cons_append, List.nil_append, Nat.add_eq_zero_iff, a_nl_i, a_nl_r, a_nl_n, true_or, or_true, eq_self, a_isRA_22, a_isRA_24, a_isRA_32, a_isA_20, ok_4, ok_5, ok_6, ok_7, ok_9, ok_20, ok_21, ok_30, ok_50, ok_180, ok_192, ok_200]
  all_goals ((try clear ih); (try clear hP); (try clear hl); (try clear hq); (try clear a3); grind [ui_ap])
theorem ck_letter (hT : cT C K L I R) (hP : ∀ v, P (some (.int v)) (n, t, K, L, I, R)) : a_does (d + 1) 80 [a_rf (C + 11)] (n, t, K, L, I, R) P := by
  have hS := hT.s
  rw [a_enter1 (M := a_m80) rfl (a_cat_rf a_cat_nil) (show 1 ≤ 1 by decide)]
  show a_at _ (a_xm a_m80) 0 [some (a_rf (C + 11))] [] _ _
  repeat' first
    | with_reducible apply And.intro
    | with_reducible assumption
    | with_reducible intro _
    | with_reducible apply hP
    | simp only [q80_0, q80_1, q80_4, q80_7, q80_8, q80_11, q80_12, q80_13, q80_16, q80_18, k_11 hS, z_11, r_11_0 hS, k_12 hS, l_12 hS, z_12, as_nil, as_i, as_r, Nat.reduceAdd, Nat.reduceLeDiff, z_eq0, z_eq1, z_or, z_em, Classical.not_not, not_false_eq_true, not_true_eq_false, true_and, and_true, false_and, and_false, and_self, true_implies, false_implies, implies_true, Option.toList_some, Option.toList_none, List.cons_append, List.nil_append, Nat.add_eq_zero_iff, a_nl_i, a_nl_r, a_nl_n, true_or, or_true, eq_self, a_isRA_22, a_isRA_24, a_isRA_32, a_isA_20, ok_4, ok_5, ok_6, ok_7, ok_9, ok_20, ok_21, ok_30, ok_50, ok_180, ok_192, ok_200]
  all_goals grind [ui_ap]
end KA
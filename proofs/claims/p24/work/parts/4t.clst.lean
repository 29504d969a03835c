/-! the class: reading, just so -/
section KY
variable {d n t C : Nat} {K L : Nat → Nat} {I I0 J J0 J1 J2 : Nat → Nat → Int32} {R : Nat → Nat → Nat} {P : Option Value → AH → Prop}
/-- only the reader's own cells changed -/
def tq (C : Nat) (K L : Nat → Nat) (R : Nat → Nat → Nat) (I J : Nat → Nat → Int32) : Prop := cT C K L J R ∧ ∀ x j, ¬ x = C + 13 → ¬ (x = C + 11 ∧ (j = 3 ∨ j = 4)) → J x j = I x j
/-- what was read, from I on -/
def rq (C : Nat) (K L : Nat → Nat) (R : Nat → Nat → Nat) (I J : Nat → Nat → Int32) (r : rdT) : Prop := tq C K L R I J ∧ J (C + 11) 4 = r.2.1 ∧ (r.1 = true → (J (C + 11) 3).toInt + (I (C + 11) 4).toInt ≤ (I (C + 11) 3).toInt + (J (C + 11) 4).toInt ∧ (∀ j, j < (I (C + 11) 3).toNatClampNeg → J (C + 13) j = I (C + 13) j) ∧ ∀ fc, evK (J (C + 13)) fc (I (C + 11) 3) (J (C + 11) 3) (r.2.2 fc))
theorem tq_refl (h : cT C K L I R) : tq C K L R I I := ⟨h, fun _ _ _ _ => rfl⟩
theorem tq_tr (h : tq C K L R I0 I) (h2 : tq C K L R I J) : tq C K L R I0 J := ⟨h2.1, fun x j p q => (h2.2 x j p q).trans (h.2 x j p q)⟩
theorem tq_12 (h : tq C K L R I J) : J (C + 12) = I (C + 12) := funext (fun j => h.2 _ _ (by omega) (by omega))
theorem tq_2 (h : tq C K L R I J) : J (C + 11) 2 = I (C + 11) 2 := h.2 _ _ (by omega) (by omega)
theorem tq_dG (h : tq C K L R I J) (h0 : cT C K L I R) : dG C K L R I J := ⟨h.1, fun x j p => h.2 x j (by unfold eD at p; omega) (by unfold eD at p; omega)⟩
theorem sp_factNumber {s : Int32} {h : AH} : a_does (d + 1) 74 [.int s] h P ↔ P (some (.int (xft s))) h := by
  rw [a_enter1 (M := a_m74) rfl (a_cat_int a_cat_nil) (show 1 ≤ 1 by decide)]
  show a_at _ (a_xm a_m74) 0 [some (.int s)] [] _ _ ↔ _
  simp only [q74_0, q74_1, q74_92, q74_93, q74_94, q74_95, q74_96, q74_97, q74_98, q74_99, q74_100, q74_101, q74_102, q74_103, q74_104, q74_106, q74_107, q74_109, q74_110, q74_112, q74_113, q74_115, a_sw, ti_0, ti_1, ti_2, ti_3, ti_4, ti_5, ti_6, ti_7, ti_8, ti_9, ti_10, ti_11, ti_12, ti_13, ti_14, ti_15, ti_16, ti_17, ti_18, ti_19, ti_98, ti_99, ti_100, ti_101, ti_102, ti_103, ti_104, ti_105, ti_106, ti_107, ti_108, ti_109, ti_110, ti_111, ti_112, ti_113, ti_114, ti_115, ti_116, as_nil, as_i, as_r, Nat.reduceAdd, Nat.reduceLeDiff, z_eq0, z_eq1, z_or, z_em, Classical.not_not, not_false_eq_true, not_true_eq_false, true_and, and_true, false_and, and_false, and_self, true_implies, false_implies, implies_true, Option.toList_some, Option.toList_none, List.cons_append, List.nil_append, Nat.add_eq_zero_iff, a_nl_i, a_nl_r, a_nl_n, true_or, or_true, eq_self, a_isRA_22, a_isRA_24, a_isRA_32, a_isA_20]
  unfold xft
  by_cases c0 : s = 107
  · subst c0; simp
  · by_cases c1 : s = 103
    · subst c1; simp
    · by_cases c2 : s = 108
      · subst c2; simp
      · by_cases c3 : s = 110
        · subst c3; simp
        · by_cases c4 : s = 100
          · subst c4; simp
          · by_cases c5 : s = 109
            · subst c5; simp
            · by_cases c6 : s = 115
              · subst c6; simp
              · by_cases c7 : s = 98
                · subst c7; simp
                · by_cases c8 : s = 116
                  · subst c8; simp
                  · simp only [c0, c1, c2, c3, c4, c5, c6, c7, c8, if_false, false_implies, not_false_eq_true, true_implies, true_and, implies_true, and_true, ite_self]
                    try grind
theorem ce_next (hT : cT C K L I R) (h1 : (I (C + 11) 4) < (I (C + 11) 2) → P (some (.int ((I (C + 12)) (I (C + 11) 4).toNatClampNeg))) (n, t, K, L, I, R)) (h2 : ¬ (I (C + 11) 4) < (I (C + 11) 2) → P (some (.int (-9))) (n, t, K, L, I, R)) : a_does (d + 1) 70 [a_rf (C + 11)] (n, t, K, L, I, R) P := by
  have hS := hT.s
  have g1 := hT.g_at
  have g2 := hT.g_size
  rw [a_enter1 (M := a_m70) rfl (a_cat_rf a_cat_nil) (show 1 ≤ 1 by decide)]
  show a_at _ (a_xm a_m70) 0 [some (a_rf (C + 11))] [] _ _
  repeat' first
    | with_reducible apply And.intro
    | with_reducible assumption
    | with_reducible intro _
    | refine h1 ?_
    | refine h2 ?_
    | simp only [q70_0, q70_1, q70_4, q70_5, q70_8, q70_11, q70_12, q70_15, q70_16, q70_19, q70_20, q70_23, q70_25, k_11 hS, z_11, r_11_0 hS, k_12 hS, l_12 hS, z_12, as_nil, as_i, as_r, Nat.reduceAdd, Nat.reduceLeDiff, z_eq0, z_eq1, z_or, z_em, Classical.not_not, not_false_eq_true, not_true_eq_false, true_and, and_true, false_and, and_false, and_self, true_implies, false_implies, implies_true, Option.toList_some, Option.toList_none, List.cons_append, List.nil_append, Nat.add_eq_zero_iff, a_nl_i, a_nl_r, a_nl_n, true_or, or_true, eq_self, a_isRA_22, a_isRA_24, a_isRA_32, a_isA_20, ok_4, ok_5, ok_6, ok_7, ok_9, ok_20, ok_21, ok_30, ok_50, ok_180, ok_192, ok_200]
  all_goals ((try clear h1); (try clear h2); (try clear hT); (try clear hS); grind [ui_ap])
theorem ce_skip (hT : cT C K L I R) {s : Int32} (hs : ¬ s = -9) (h0 : ¬ ((I (C + 11) 4) < (I (C + 11) 2) ∧ (I (C + 12)) (I (C + 11) 4).toNatClampNeg = s) → P (some (.int 0)) (n, t, K, L, I, R)) (h1 : (I (C + 11) 4) < (I (C + 11) 2) → (I (C + 12)) (I (C + 11) 4).toNatClampNeg = s → cT C K L (a_ui I (C + 11) 4 ((I (C + 11) 4) + 1)) R → P (some (.int 1)) (n, t, K, L, (a_ui I (C + 11) 4 ((I (C + 11) 4) + 1)), R)) : a_does (d + 2) 71 [a_rf (C + 11), .int s] (n, t, K, L, I, R) P := by
  have hS := hT.s
  have h1' : (I (C + 11) 4) < (I (C + 11) 2) → (I (C + 12)) (I (C + 11) 4).toNatClampNeg = s → P (some (.int 1)) (n, t, K, L, (a_ui I (C + 11) 4 ((I (C + 11) 4) + 1)), R) := fun p q => h1 p q (sT_Tape_at hT (by
    have g1 := hT.g_at
    have g2 := hT.g_size
    clear h0 h1 hT hS
    grind))
  clear h1
  rw [a_enter1 (M := a_m71) rfl (a_cat_rf (a_cat_int a_cat_nil)) (show 2 ≤ 2 by decide)]
  show a_at _ (a_xm a_m71) 0 [some (a_rf (C + 11)), some (.int s)] [] _ _
  repeat' first
    | with_reducible apply And.intro
    | with_reducible assumption
    | with_reducible intro _
    | refine ce_next hT ?_ ?_
    | refine h0 ?_
    | refine h1' ?_ ?_
    | simp only [q71_0, q71_1, q71_4, q71_5, q71_8, q71_9, q71_10, q71_11, q71_12, q71_15, q71_16, q71_17, q71_20, q71_21, k_11 hS, z_11, as_nil, as_i, as_r, Nat.reduceAdd, Nat.reduceLeDiff, z_eq0, z_eq1, z_or, z_em, Classical.not_not, not_false_eq_true, not_true_eq_false, true_and, and_true, false_and, and_false, and_self, true_implies, false_implies, implies_true, Option.toList_some, Option.toList_none, List.cons_append, List.nil_append, Nat.add_eq_zero_iff, a_nl_i, a_nl_r, a_nl_n, true_or, or_true, eq_self, a_isRA_22, a_isRA_24, a_isRA_32, a_isA_20, ok_4, ok_5, ok_6, ok_7, ok_9, ok_20, ok_21, ok_30, ok_50, ok_180, ok_192, ok_200]
  all_goals ((try clear h0); (try clear h1'); (try clear hT); (try clear hS); grind [ui_ap])
theorem ce_write (hT : cT C K L I R) {s : Int32} (hP : ∀ J, cT C K L J R → (∀ x j, ¬ x = C + 13 → ¬ (x = C + 11 ∧ j = 3) → J x j = I x j) → ((I (C + 11) 3) < 50 → J (C + 11) 3 = (I (C + 11) 3) + 1 ∧ ∀ j, J (C + 13) j = if j = (I (C + 11) 3).toNatClampNeg then s else I (C + 13) j) → P none (n, t, K, L, J, R)) : a_does (d + 1) 75 [a_rf (C + 11), .int s] (n, t, K, L, I, R) P := by
  have hS := hT.s
  have g1 := hT.g_code
  have h0 : ¬ (I (C + 11) 3) < 50 → P none (n, t, K, L, I, R) := fun q => hP I hT (fun _ _ _ _ => rfl) (fun p => absurd p q)
  have h1 : (I (C + 11) 3) < 50 → P none (n, t, K, L, (a_ui (a_ui I (C + 13) (I (C + 11) 3).toNatClampNeg s) (C + 11) 3 ((I (C + 11) 3) + 1)), R) := fun q => hP _ (sT_Tape_codeSize (sT_Tape_code hT) (by clear h0 hP hT hS; grind)) (fun x j p r => by rw [ui_ap, if_neg r, ui_ap, if_neg (fun e => p e.1)]) (fun _ => ⟨by rw [ui_ap, if_pos ⟨rfl, rfl⟩], fun j => by rw [ui_ap, if_neg (by omega), ui_ap]; simp only [true_and]⟩)
  clear hP
  rw [a_enter1 (M := a_m75) rfl (a_cat_rf (a_cat_int a_cat_nil)) (show 2 ≤ 2 by decide)]
  show a_at _ (a_xm a_m75) 0 [some (a_rf (C + 11)), some (.int s)] [] _ _
  repeat' first
    | with_reducible apply And.intro
    | with_reducible assumption
    | with_reducible intro _
    | refine h0 ?_
    | refine h1 ?_
    | simp only [q75_0, q75_1, q75_4, q75_5, q75_8, q75_9, q75_12, q75_13, q75_16, q75_17, q75_20, q75_21, q75_22, q75_23, q75_24, q75_27, q75_28, q75_29, q75_32, k_11 hS, z_11, r_11_1 hS, k_13 hS, l_13 hS, z_13, as_nil, as_i, as_r, Nat.reduceAdd, Nat.reduceLeDiff, z_eq0, z_eq1, z_or, z_em, Classical.not_not, not_false_eq_true, not_true_eq_false, true_and, and_true, false_and, and_false, and_self, true_implies, false_implies, implies_true, Option.toList_some, Option.toList_none, List.cons_append, List.nil_append, Nat.add_eq_zero_iff, a_nl_i, a_nl_r, a_nl_n, true_or, or_true, eq_self, a_isRA_22, a_isRA_24, a_isRA_32, a_isA_20, ok_4, ok_5, ok_6, ok_7, ok_9, ok_20, ok_21, ok_30, ok_50, ok_180, ok_192, ok_200, of_50, ui_ap, cc_ne, cc_n0, cc_0n, Nat.reduceEqDiff, reduceIte, if_true, if_false]
  all_goals ((try clear h0); (try clear h1); (try clear hT); (try clear hS); grind [ui_ap])
theorem ru_dig {i o c : Int32} (q0 : 0 ≤ i) (c3 : i < 3) (ho : 0 ≤ o ∧ o ≤ 999 ∧ (i = 0 → o = 0) ∧ (i = 1 → o ≤ 9) ∧ (i = 2 → o ≤ 99)) (c4 : 48 ≤ c) (c5 : c ≤ 57) : 0 ≤ o * 10 + c - 48 ∧ o * 10 + c - 48 ≤ 999 ∧ (i + 1 = 0 → o * 10 + c - 48 = 0) ∧ (i + 1 = 1 → o * 10 + c - 48 ≤ 9) ∧ (i + 1 = 2 → o * 10 + c - 48 ≤ 99) := by
  obtain ⟨h1, h2, h3, h4, h5⟩ := ho
  have hi : i = 0 ∨ i = 1 ∨ i = 2 := by
    clear h1 h2 h3 h4 h5 c4 c5
    grind
  rcases hi with rfl | rfl | rfl
  · have := h3 rfl
    subst this
    clear h1 h2 h3 h4 h5 q0 c3
    grind
  · have := h4 rfl
    clear h2 h3 h4 h5 q0 c3
    grind
  · have := h5 rfl
    clear h2 h3 h4 h5 q0 c3
    grind
theorem le_readUnit_39 {fn a : Int32} {D : Int32 × Int32} (ha : 0 ≤ a ∧ a ≤ (I (C + 11) 2)) (hP : ∀ J (i : Int32), tq C K L R I J → J (C + 11) 4 = D.1 → D.1 = a + i → 0 ≤ i → i ≤ 3 → 0 ≤ D.2 → D.2 ≤ 999 → ((I (C + 11) 3) < 50 → J (C + 11) 3 = (I (C + 11) 3) + 1 ∧ ∀ j, J (C + 13) j = if j = (I (C + 11) 3).toNatClampNeg then D.2 else I (C + 13) j) → P (some (.int (if 0 < i then 1 else 0))) (n, t, K, L, J, R)) : ∀ i : Int32, i ≤ 3 → ∀ J o, 0 ≤ i → cT C K L J R → (∀ x j, ¬ (x = C + 11 ∧ j = 4) → J x j = I x j) → J (C + 11) 4 = a + i → (0 ≤ o ∧ o ≤ 999 ∧ (i = 0 → o = 0) ∧ (i = 1 → o ≤ 9) ∧ (i = 2 → o ≤ 99)) → xdg (I (C + 12)) (I (C + 11) 2) (3 - i.toNatClampNeg) (a + i) o = D → a_at (d + 2) (a_xm a_m73) 39 [some (a_rf (C + 11)), some (.int fn), some (.int o), some (.int i)] [] (n, t, K, L, J, R) P := by
  refine up_ind 3 (fun i hk ih => ?_)
  intro J o q0 hT hF hA ho hD
  have hS := hT.s
  have g1 := hT.g_at
  have e12 : J (C + 12) = I (C + 12) := funext (fun j => hF _ _ (by omega))
  have e2 : J (C + 11) 2 = (I (C + 11) 2) := hF _ _ (by omega)
  have e3 : J (C + 11) 3 = (I (C + 11) 3) := hF _ _ (by omega)
  have e13 : ∀ j, J (C + 13) j = I (C + 13) j := fun j => hF _ _ (by omega)
  have hexit : ¬ (i < 3 ∧ J (C + 11) 4 < J (C + 11) 2 ∧ 48 ≤ J (C + 12) (J (C + 11) 4).toNatClampNeg ∧ J (C + 12) (J (C + 11) 4).toNatClampNeg ≤ 57) → a_at (d + 2) (a_xm a_m73) 91 [some (a_rf (C + 11)), some (.int fn), some (.int o), some (.int i)] [] (n, t, K, L, J, R) P := fun q => by
    have hD2 : D = (a + i, o) := by
      rw [← hD]
      by_cases c3 : i < 3
      · have i3 : i.toNatClampNeg < 3 := show _ < (3 : Int32).toNatClampNeg from cl_lt q0 c3
        rw [show 3 - i.toNatClampNeg = (2 - i.toNatClampNeg) + 1 by omega]
        unfold xdg
        rw [if_neg (fun w => q ⟨c3, by rw [hA, e2]; exact w.1, by rw [e12, hA]; exact w.2.1, by rw [e12, hA]; exact w.2.2⟩)]
      · have : i = 3 := by clear ih hP hF hD q; grind
        subst this
        rfl
    simp only [q73_91, q73_92, q73_93, k_11 hS, z_11, as_nil, as_i, as_r, Nat.reduceAdd, Nat.reduceLeDiff, z_eq0, z_eq1, z_or, z_em, Classical.not_not, not_false_eq_true, not_true_eq_false, true_and, and_true, false_and, and_false, and_self, true_implies, false_implies, implies_true, Option.toList_some, Option.toList_none, List.cons_append, List.nil_append, Nat.add_eq_zero_iff, a_nl_i, a_nl_r, a_nl_n, true_or, or_true, eq_self, a_isRA_22, a_isRA_24, a_isRA_32, a_isA_20, ok_4, ok_5, ok_6, ok_7, ok_9, ok_20, ok_21, ok_30, ok_50, ok_180, ok_192, ok_200]
    refine ce_write hT (fun J2 k1 k2 k3 => ?_)
    have hp := hP J2 i ⟨k1, fun x j p r => (k2 x j p (by omega)).trans (hF x j (by omega))⟩ (by rw [k2 _ _ (by omega) (by omega), hA, hD2]) (by rw [hD2]) q0 hk (by rw [hD2]; exact ho.1) (by rw [hD2]; exact ho.2.1) (fun hc => by
      obtain ⟨m1, m2⟩ := k3 (by rw [e3]; exact hc)
      exact ⟨by rw [m1, e3], fun j => by rw [m2, e3, e13, hD2]⟩)
    clear hP ih
    by_cases c0 : 0 < i
    · rw [if_pos c0] at hp
      have c1 : ¬ i ≤ 0 := Int32.not_le.mpr c0
      simp only [q73_96, q73_97, q73_100, q73_101, q73_104, q73_105, as_nil, as_i, as_r, Nat.reduceAdd, Nat.reduceLeDiff, z_eq0, z_eq1, z_or, z_em, Classical.not_not, not_false_eq_true, not_true_eq_false, true_and, and_true, false_and, and_false, and_self, true_implies, false_implies, implies_true, Option.toList_some, Option.toList_none, List.cons_append, List.nil_append, Nat.add_eq_zero_iff, a_nl_i, a_nl_r, a_nl_n, true_or, or_true, eq_self, a_isRA_22, a_isRA_24, a_isRA_32, a_isA_20, ok_4, ok_5, ok_6, ok_7, ok_9, ok_20, ok_21, ok_30, ok_50, ok_180, ok_192, ok_200, c1]
      first
        | exact hp
        | exact ⟨fun z => z.elim, fun _ => hp⟩
    · rw [if_neg c0] at hp
      have c1 : i ≤ 0 := Int32.not_lt.mp c0
      simp only [q73_96, q73_97, q73_100, q73_101, q73_104, q73_105, as_nil, as_i, as_r, Nat.reduceAdd, Nat.reduceLeDiff, z_eq0, z_eq1, z_or, z_em, Classical.not_not, not_false_eq_true, not_true_eq_false, true_and, and_true, false_and, and_false, and_self, true_implies, false_implies, implies_true, Option.toList_some, Option.toList_none, List.cons_append, List.nil_append, Nat.add_eq_zero_iff, a_nl_i, a_nl_r, a_nl_n, true_or, or_true, eq_self, a_isRA_22, a_isRA_24, a_isRA_32, a_isA_20, ok_4, ok_5, ok_6, ok_7, ok_9, ok_20, ok_21, ok_30, ok_50, ok_180, ok_192, ok_200, c1]
      first
        | exact hp
        | exact ⟨fun _ => hp, fun z => absurd trivial z⟩
  have hgo : i < 3 → J (C + 11) 4 < J (C + 11) 2 → 48 ≤ J (C + 12) (J (C + 11) 4).toNatClampNeg → J (C + 12) (J (C + 11) 4).toNatClampNeg ≤ 57 → a_at (d + 2) (a_xm a_m73) 39 [some (a_rf (C + 11)), some (.int fn), some (.int (o * 10 + J (C + 12) (J (C + 11) 4).toNatClampNeg - 48)), some (.int (i + 1))] [] (n, t, K, L, (a_ui J (C + 11) 4 (J (C + 11) 4 + 1)), R) P := fun c3 cA c4 c5 => by
    have i3 : i.toNatClampNeg < 3 := show _ < (3 : Int32).toNatClampNeg from cl_lt q0 c3
    have ei : (i + 1).toNatClampNeg = i.toNatClampNeg + 1 := cl_up q0 (by clear ih hP hF hD hexit; grind)
    have gz := hT.g_size
    have gA : 0 ≤ J (C + 11) 4 + 1 ∧ J (C + 11) 4 + 1 ≤ 50 := by
      clear ih hP hF hD hexit ho e12 e13 c4 c5 hA hk ha ei i3 hS hT
      grind
    have gi : 0 ≤ i + 1 := by
      clear ih hP hF hD hexit ho e12 e13 c4 c5 hA ha ei i3 hS hT gA
      grind
    refine ih c3 _ _ gi (sT_Tape_at hT gA) (fun x j p => by rw [ui_ap, if_neg p]; exact hF x j p) (by rw [ui_ap, if_pos ⟨rfl, rfl⟩, hA, Int32.add_assoc]) (ru_dig q0 c3 ho c4 c5) ?_
    rw [show 3 - i.toNatClampNeg = (3 - (i.toNatClampNeg + 1)) + 1 by omega] at hD
    unfold xdg at hD
    rw [if_pos ⟨by rw [← hA, ← e2]; exact cA, by rw [← e12, ← hA]; exact c4, by rw [← e12, ← hA]; exact c5⟩] at hD
    rw [ei, ← hD, e12, hA, Int32.add_assoc]
  clear ih hP hF hD
  rw [q73_39]
  repeat' first
    | with_reducible apply And.intro
    | with_reducible assumption
    | with_reducible intro _
    | refine ce_next hT ?_ ?_
    | with_reducible refine hexit ?_
    | with_reducible refine hgo ?_ ?_ ?_ ?_
    | simp only [q73_40, q73_41, q73_44, q73_45, q73_48, q73_50, q73_53, q73_54, q73_57, q73_59, q73_62, q73_63, q73_65, q73_66, q73_67, q73_70, q73_71, q73_73, q73_74, q73_75, q73_76, q73_77, q73_80, q73_81, q73_82, q73_85, q73_88, k_11 hS, z_11, as_nil, as_i, as_r, Nat.reduceAdd, Nat.reduceLeDiff, z_eq0, z_eq1, z_or, z_em, Classical.not_not, not_false_eq_true, not_true_eq_false, true_and, and_true, false_and, and_false, and_self, true_implies, false_implies, implies_true, Option.toList_some, Option.toList_none, List.cons_append, List.nil_append, Nat.add_eq_zero_iff, a_nl_i, a_nl_r, a_nl_n, true_or, or_true, eq_self, a_isRA_22, a_isRA_24, a_isRA_32, a_isA_20, ok_4, ok_5, ok_6, ok_7, ok_9, ok_20, ok_21, ok_30, ok_50, ok_180, ok_192, ok_200, ui_ap, cc_ne, cc_n0, cc_0n, Nat.reduceEqDiff, reduceIte, if_true, if_false]
  all_goals ((try clear hexit); (try clear hgo); (try clear hT); (try clear hS); (try clear e12); (try clear e13); grind [ui_ap])
theorem ce_readUnit (hT : cT C K L I R) (ha : (I (C + 11) 4) ≤ (I (C + 11) 2)) (hc : (I (C + 11) 3) ≤ (I (C + 11) 4)) (hP : ∀ J, rq C K L R I J (xU (I (C + 12)) (I (C + 11) 2) (I (C + 11) 4)) → P (some (.int (if ((xU (I (C + 12)) (I (C + 11) 2) (I (C + 11) 4))).1 = true then (1 : Int32) else 0))) (n, t, K, L, J, R)) : a_does (d + 3) 73 [a_rf (C + 11)] (n, t, K, L, I, R) P := by
  have hS := hT.s
  have g1 := hT.g_at
  have g2 := hT.g_size
  have g3 := hT.g_code
  -- no fact stands there
  have hloop : ¬ ((I (C + 11) 4) < (I (C + 11) 2) ∧ ¬ xft ((I (C + 12)) (I (C + 11) 4).toNatClampNeg) = -9) → ∀ fn, a_at (d + 2) (a_xm a_m73) 39 [some (a_rf (C + 11)), some (.int fn), some (.int 0), some (.int 0)] [] (n, t, K, L, I, R) P := fun q fn => by
    refine le_readUnit_39 (I := I) (a := (I (C + 11) 4)) (D := xdg (I (C + 12)) (I (C + 11) 2) 3 (I (C + 11) 4) 0) ⟨g1.1, ha⟩ (fun J i k1 k2 k3 k4 k5 k6 k7 k89 => ?_) 0 (by decide) I 0 (by decide) hT (fun _ _ _ => rfl) (by rw [Int32.add_zero]) ⟨by decide, by decide, fun _ => rfl, fun _ => by decide, fun _ => by decide⟩ (by rw [Int32.add_zero]; rfl)
    by_cases c0 : 0 < i
    · have hdb := xdg_b (f := (I (C + 12))) (e := (I (C + 11) 2)) 3 (I (C + 11) 4) 0 ha
      rw [k3] at hdb
      have hc : (I (C + 11) 3) < 50 := by clear hP k1 k2 k3 k6 k7 k89; grind
      obtain ⟨k8, k9⟩ := k89 hc
      have hr : (xU (I (C + 12)) (I (C + 11) 2) (I (C + 11) 4)) = (true, (xdg (I (C + 12)) (I (C + 11) 2) 3 (I (C + 11) 4) 0).1, fun _ => (xdg (I (C + 12)) (I (C + 11) 2) 3 (I (C + 11) 4) 0).2) := by
        unfold xU
        rw [if_neg q, if_pos]
        refine Classical.byContradiction (fun w => ?_)
        have hz : xdg (I (C + 12)) (I (C + 11) 2) 3 (I (C + 11) 4) 0 = ((I (C + 11) 4), 0) := by
          conv => lhs; unfold xdg
          rw [if_neg w]
        rw [hz] at k3
        have : i = 0 := by
          have k3' : (I (C + 11) 4) = (I (C + 11) 4) + i := k3
          clear hP k1 k2 k3 k6 k7 k8 k9 hz w q
          grind
        rw [this] at c0
        exact absurd c0 (by decide)
      have hp := hP J ⟨k1, by rw [k2, hr], fun _ => ?_⟩
      · rw [hr] at hp
        rw [if_pos c0]
        exact hp
      · rw [hr]
        refine ⟨?_, fun j hj => by rw [k9, if_neg (by omega)], fun fc => ?_⟩
        · rw [k8, k2, k3, ti_add (by
            have := Int32.le_iff_toInt_le.mp g3.1
            have := Int32.lt_iff_toInt_lt.mp hc
            have c0 : (0 : Int32).toInt = 0 := rfl
            have c1 : (1 : Int32).toInt = 1 := rfl
            have c50 : (50 : Int32).toInt = 50 := rfl
            omega), ti_add (by
            have := Int32.le_iff_toInt_le.mp g1.1
            have := Int32.le_iff_toInt_le.mp g1.2
            have := Int32.le_iff_toInt_le.mp k4
            have := Int32.le_iff_toInt_le.mp k5
            have c0 : (0 : Int32).toInt = 0 := rfl
            have c3 : (3 : Int32).toInt = 3 := rfl
            have c50 : (50 : Int32).toInt = 50 := rfl
            omega)]
          have := Int32.lt_iff_toInt_lt.mp c0
          have c0 : (0 : Int32).toInt = 0 := rfl
          have c1 : (1 : Int32).toInt = 1 := rfl
          omega
        · rw [k8]
          refine evK_one g3.1 hc (by rw [k9, if_pos rfl]) ?_ ?_ ?_
          · clear hP k1 k2 k3 k8 k9 hr; grind
          · clear hP k1 k2 k3 k8 k9 hr; grind
          · rw [if_neg (by clear hP k1 k2 k3 k8 k9 hr; grind)]
    · have i0 : i = 0 := by clear hP k1 k2 k3 k6 k7 k89; grind
      have hr : (xU (I (C + 12)) (I (C + 11) 2) (I (C + 11) 4)) = (false, (I (C + 11) 4), fun _ => 0) := by
        unfold xU
        rw [if_neg q, if_neg]
        intro w
        have hz := (xU_b (f := (I (C + 12))) (e := (I (C + 11) 2)) (a := (I (C + 11) 4)) ha).2.2
        unfold xU at hz
        rw [if_neg q, if_pos w] at hz
        have h1 : (I (C + 11) 4) < (xdg (I (C + 12)) (I (C + 11) 2) 3 (I (C + 11) 4) 0).1 := hz rfl
        rw [k3, i0, Int32.add_zero] at h1
        exact absurd h1 Int32.lt_irrefl
      have hp := hP J ⟨k1, by rw [k2, hr, k3, i0, Int32.add_zero], fun w => by rw [hr] at w; exact absurd w Bool.false_ne_true⟩
      rw [hr] at hp
      rw [if_neg c0]
      exact hp
  have hft : (I (C + 11) 4) < (I (C + 11) 2) → ¬ xft ((I (C + 12)) (I (C + 11) 4).toNatClampNeg) = -9 → a_at (d + 2) (a_xm a_m73) 24 [some (a_rf (C + 11)), some (.int (xft ((I (C + 12)) (I (C + 11) 4).toNatClampNeg))), none, none] [] (n, t, K, L, (a_ui I (C + 11) 4 ((I (C + 11) 4) + 1)), R) P := fun q1 q2 => by
    have hT2 : cT C K L (a_ui I (C + 11) 4 ((I (C + 11) 4) + 1)) R := sT_Tape_at hT (by clear hP hloop hT hS q2; grind)
    have hc : (I (C + 11) 3) < 50 := by clear hP hloop hT hS q2 hT2; grind
    simp only [q73_24, q73_25, q73_28, q73_29, q73_30, k_11 hS, z_11, as_nil, as_i, as_r, Nat.reduceAdd, Nat.reduceLeDiff, z_eq0, z_eq1, z_or, z_em, Classical.not_not, not_false_eq_true, not_true_eq_false, true_and, and_true, false_and, and_false, and_self, true_implies, false_implies, implies_true, Option.toList_some, Option.toList_none, List.cons_append, List.nil_append, Nat.add_eq_zero_iff, a_nl_i, a_nl_r, a_nl_n, true_or, or_true, eq_self, a_isRA_22, a_isRA_24, a_isRA_32, a_isA_20, ok_4, ok_5, ok_6, ok_7, ok_9, ok_20, ok_21, ok_30, ok_50, ok_180, ok_192, ok_200]
    refine ce_write hT2 (fun J k1 k2 k3 => ?_)
    have k3 := k3 (by rw [ui_ap, if_neg (by omega)]; exact hc)
    have hr : (xU (I (C + 12)) (I (C + 11) 2) (I (C + 11) 4)) = (true, (I (C + 11) 4) + 1, fun fc => fc (xft ((I (C + 12)) (I (C + 11) 4).toNatClampNeg)).toNatClampNeg) := if_pos ⟨q1, q2⟩
    have n13 : ∀ j, a_ui I (C + 11) 4 ((I (C + 11) 4) + 1) (C + 13) j = I (C + 13) j := fun j => by rw [ui_ap, if_neg (by omega)]
    have n3 : a_ui I (C + 11) 4 ((I (C + 11) 4) + 1) (C + 11) 3 = (I (C + 11) 3) := by rw [ui_ap, if_neg (by omega)]
    rw [n3] at k3
    have j4 : J (C + 11) 4 = (I (C + 11) 4) + 1 := by rw [k2 _ _ (by omega) (by omega), ui_ap, if_pos ⟨rfl, rfl⟩]
    have hp := hP J ⟨⟨k1, fun x j p r => by rw [k2 x j p (by omega), ui_ap, if_neg (by omega)]⟩, by rw [j4, hr], fun _ => ?_⟩
    · rw [hr] at hp
      simp only [q73_33, q73_34, as_nil, as_i, as_r, Nat.reduceAdd, Nat.reduceLeDiff, z_eq0, z_eq1, z_or, z_em, Classical.not_not, not_false_eq_true, not_true_eq_false, true_and, and_true, false_and, and_false, and_self, true_implies, false_implies, implies_true, Option.toList_some, Option.toList_none, List.cons_append, List.nil_append, Nat.add_eq_zero_iff, a_nl_i, a_nl_r, a_nl_n, true_or, or_true, eq_self, a_isRA_22, a_isRA_24, a_isRA_32, a_isA_20, ok_4, ok_5, ok_6, ok_7, ok_9, ok_20, ok_21, ok_30, ok_50, ok_180, ok_192, ok_200]
      exact hp
    · rw [hr]
      refine ⟨?_, fun j hj => by rw [k3.2, if_neg (by omega), n13], fun fc => ?_⟩
      · rw [k3.1, j4, ti_add (by
            have := Int32.le_iff_toInt_le.mp g3.1
            have := Int32.lt_iff_toInt_lt.mp hc
            have c0 : (0 : Int32).toInt = 0 := rfl
            have c1 : (1 : Int32).toInt = 1 := rfl
            have c50 : (50 : Int32).toInt = 50 := rfl
            omega), ti_add (by
            have := Int32.le_iff_toInt_le.mp g1.1
            have := Int32.le_iff_toInt_le.mp g1.2
            have c0 : (0 : Int32).toInt = 0 := rfl
            have c1 : (1 : Int32).toInt = 1 := rfl
            have c50 : (50 : Int32).toInt = 50 := rfl
            omega)]
        omega
      · rw [k3.1]
        have hq := xft_r ((I (C + 12)) (I (C + 11) 4).toNatClampNeg)
        generalize xft ((I (C + 12)) (I (C + 11) 4).toNatClampNeg) = z at q2 hq k3
        refine evK_one g3.1 hc (by rw [k3.2, if_pos rfl]) ?_ ?_ ?_
        · clear hP hloop k1 k2 k3 hr n13 n3; grind
        · clear hP hloop k1 k2 k3 hr n13 n3; grind
        · rw [if_pos (by clear hP hloop k1 k2 k3 hr n13 n3; grind), show 1000 + z - 1000 = z by clear hP hloop k1 k2 k3 hr n13 n3 hq; grind]
  clear hP
  rw [a_enter1 (M := a_m73) rfl (a_cat_rf a_cat_nil) (show 1 ≤ 4 by decide)]
  show a_at _ (a_xm a_m73) 0 [some (a_rf (C + 11)), none, none, none] [] _ _
  repeat' first
    | with_reducible apply And.intro
    | with_reducible assumption
    | with_reducible intro _
    | refine ce_next hT ?_ ?_
    | refine hft ?_ ?_
    | refine hloop ?_ _
    | simp only [q73_0, q73_1, q73_4, q73_7, q73_8, q73_9, q73_11, q73_14, q73_15, q73_16, q73_19, q73_20, q73_21, q73_35, q73_36, q73_37, q73_38, k_11 hS, z_11, as_nil, as_i, as_r, Nat.reduceAdd, Nat.reduceLeDiff, z_eq0, z_eq1, z_or, z_em, Classical.not_not, not_false_eq_true, not_true_eq_false, true_and, and_true, false_and, and_false, and_self, true_implies, false_implies, implies_true, Option.toList_some, Option.toList_none, List.cons_append, List.nil_append, Nat.add_eq_zero_iff, a_nl_i, a_nl_r, a_nl_n, true_or, or_true, eq_self, a_isRA_22, a_isRA_24, a_isRA_32, a_isA_20, ok_4, ok_5, ok_6, ok_7, ok_9, ok_20, ok_21, ok_30, ok_50, ok_180, ok_192, ok_200, sp_factNumber, xft_9, ui_ap, cc_ne, cc_n0, cc_0n, Nat.reduceEqDiff, reduceIte, if_true, if_false]
  all_goals ((try clear hloop); (try clear hft); (try clear hT); (try clear hS); grind [ui_ap])
theorem rq_bin {r u : rdT} {g : Int32} {op : Int32 → Int32 → Int32} (h0 : cT C K L I R) (hc0 : (I (C + 11) 3) ≤ (I (C + 11) 4)) (h : rq C K L R I J r) (hr : r.1 = true) (h1 : tq C K L R I J0) (j4 : J0 (C + 11) 4 = J (C + 11) 4 + 1) (j3 : J0 (C + 11) 3 = J (C + 11) 3) (j13 : ∀ j, J0 (C + 13) j = J (C + 13) j) (lt : J (C + 11) 4 < 50) (hu : rq C K L R J0 J1 u) (k1 : cT C K L J2 R) (k2 : ∀ x j, ¬ x = C + 13 → ¬ (x = C + 11 ∧ j = 3) → J2 x j = J1 x j) (k3 : J1 (C + 11) 3 < 50 → J2 (C + 11) 3 = J1 (C + 11) 3 + 1 ∧ ∀ j, J2 (C + 13) j = if j = (J1 (C + 11) 3).toNatClampNeg then g else J1 (C + 13) j) (n9 : ¬ g = 2009) (l2 : ¬ g < 2000) (hop : ∀ x y, jn g x y = op x y) : rq C K L R I J2 (u.1, u.2.1, fun fc => op (r.2.2 fc) (u.2.2 fc)) := by
  obtain ⟨a1, a2, a3⟩ := h
  obtain ⟨b1, b2, b3⟩ := hu
  have hx : tq C K L R I J2 := ⟨k1, fun x j p q => (k2 x j p (by omega)).trans ((b1.2 x j p q).trans (h1.2 x j p q))⟩
  refine ⟨hx, by rw [k2 _ _ (by omega) (by omega)]; exact b2, fun hu1 => ?_⟩
  obtain ⟨c1, c2, c3⟩ := a3 hr
  obtain ⟨d1, d2, d3⟩ := b3 hu1
  rw [j3, j4] at d1
  have z0 : (0 : Int32).toInt = 0 := rfl
  have z1 : (1 : Int32).toInt = 1 := rfl
  have z50 : (50 : Int32).toInt = 50 := rfl
  have g4 := Int32.le_iff_toInt_le.mp a1.1.g_at.1
  have l4 := Int32.lt_iff_toInt_lt.mp lt
  have e4 : (J (C + 11) 4 + 1).toInt = (J (C + 11) 4).toInt + 1 := by rw [ti_add (by omega)]; omega
  rw [e4] at d1
  have q0 := Int32.le_iff_toInt_le.mp hc0
  have q1 := Int32.le_iff_toInt_le.mp b1.1.g_at.2
  have q3 := Int32.le_iff_toInt_le.mp b1.1.g_code.1
  have lt3 : J1 (C + 11) 3 < 50 := by
    rw [Int32.lt_iff_toInt_lt]
    omega
  obtain ⟨m1, m2⟩ := k3 lt3
  have lt3' := Int32.lt_iff_toInt_lt.mp lt3
  have e3 : (J1 (C + 11) 3 + 1).toInt = (J1 (C + 11) 3).toInt + 1 := by rw [ti_add (by omega)]; omega
  have s1 := (c3 (fun _ => 0)).1
  have s2 := (d3 (fun _ => 0)).1
  rw [j3] at s2
  have t1 := cl_lt s1.1 s1.2.1
  have t2 := cl_lt s2.1 s2.2.1
  refine ⟨?_, fun j hj => ?_, fun fc => ?_⟩
  · rw [m1, e3, k2 _ _ (by omega) (by omega)]
    omega
  · rw [m2, if_neg (by omega), d2 j (by rw [j3]; omega), j13, c2 j hj]
  · rw [m1]
    have f1 : evK (J2 (C + 13)) fc (I (C + 11) 3) (J (C + 11) 3) (r.2.2 fc) := evK_congr (c3 fc) (fun j p q => by rw [m2, if_neg (by omega), d2 j (by rw [j3]; omega), j13])
    have f2 : evK (J2 (C + 13)) fc (J (C + 11) 3) (J1 (C + 11) 3) (u.2.2 fc) := by
      have := d3 fc
      rw [j3] at this
      exact evK_congr this (fun j p q => by rw [m2, if_neg (by omega)])
    have f3 := evK_bin (g := g) f1 f2 lt3 (by rw [m2, if_pos rfl]) n9 l2
    rw [hop] at f3
    exact f3
theorem lt_50 {a e : Int32} (h : a < e) (h2 : e ≤ 50) : a < 50 := by grind
theorem rq_cs {r : rdT} (h : rq C K L R I J r) (hr : r.1 = true) (hc : (I (C + 11) 3) ≤ (I (C + 11) 4)) : J (C + 11) 3 ≤ J (C + 11) 4 := by
  have h1 := (h.2.2 hr).1
  have h2 := Int32.le_iff_toInt_le.mp hc
  rw [Int32.le_iff_toInt_le]
  omega
theorem at1_T (hT : cT C K L J R) (hl : J (C + 11) 4 < J (C + 11) 2) : cT C K L (a_ui J (C + 11) 4 (J (C + 11) 4 + 1)) R := sT_Tape_at hT (by
  have g1 := hT.g_at
  have g2 := hT.g_size
  clear hT
  grind)
/-- one sign on, another reading q behind it, and the sign's code -/
theorem at1_step {r : rdT} {q : Int32 → rdT} {g : Int32} {op : Int32 → Int32 → Int32} (hT : cT C K L I R) (hc : (I (C + 11) 3) ≤ (I (C + 11) 4)) (h : rq C K L R I J r) (hr : r.1 = true) (hl : J (C + 11) 4 < J (C + 11) 2) (n9 : ¬ g = 2009) (l2 : ¬ g < 2000) (hop : ∀ x y, jn g x y = op x y) (hq : rq C K L R (a_ui J (C + 11) 4 (J (C + 11) 4 + 1)) J1 (q (r.2.1 + 1))) (k1 : cT C K L J2 R) (k2 : ∀ x j, ¬ x = C + 13 → ¬ (x = C + 11 ∧ j = 3) → J2 x j = J1 x j) (k3 : J1 (C + 11) 3 < 50 → J2 (C + 11) 3 = J1 (C + 11) 3 + 1 ∧ ∀ j, J2 (C + 13) j = if j = (J1 (C + 11) 3).toNatClampNeg then g else J1 (C + 13) j) : rq C K L R I J2 ((q (r.2.1 + 1)).1, (q (r.2.1 + 1)).2.1, fun fc => op (r.2.2 fc) ((q (r.2.1 + 1)).2.2 fc)) :=
  rq_bin hT hc h hr (tq_tr h.1 ⟨at1_T h.1.1 hl, fun x j p q => by rw [ui_ap, if_neg (by omega)]⟩) (by rw [ui_ap, if_pos ⟨rfl, rfl⟩]) (by rw [ui_ap, if_neg (by omega)]) (fun j => by rw [ui_ap, if_neg (by omega)]) (lt_50 hl h.1.1.g_size.2) hq k1 k2 k3 n9 l2 hop
theorem le_readSum_7 (hT : cT C K L I R) (ha : (I (C + 11) 4) ≤ (I (C + 11) 2)) (hc : (I (C + 11) 3) ≤ (I (C + 11) 4)) {V : rdT} (hP : ∀ J, rq C K L R I J V → P (some (.int (if (V).1 = true then (1 : Int32) else 0))) (n, t, K, L, J, R)) : ∀ i : Int32, i ≤ 50 → ∀ J r u, 0 ≤ i → rq C K L R I J r → r.2.1 ≤ (I (C + 11) 2) → xsu (I (C + 12)) (I (C + 11) 2) (50 - i.toNatClampNeg) r = V → a_at (d + 3) (a_xm a_m72) 7 [some (a_rf (C + 11)), some (.int (if (r).1 = true then (1 : Int32) else 0)), some (.int i), u] [] (n, t, K, L, J, R) P := by
  refine up_ind 50 (fun i hk ih => ?_)
  intro J r u q0 hq hre hV
  have hJT := hq.1.1
  have hS := hJT.s
  have e12 := tq_12 hq.1
  have e2 := tq_2 hq.1
  have hst : ¬ (i < 50 ∧ r.1 = true ∧ i3 (I (C + 12)) (I (C + 11) 2) r.2.1 43 45 42) → V = r := fun w => by
    rw [← hV]
    by_cases c : i < 50
    · have i3 : i.toNatClampNeg < 50 := show _ < (50 : Int32).toNatClampNeg from cl_lt q0 c
      rw [show 50 - i.toNatClampNeg = (49 - i.toNatClampNeg) + 1 by omega]
      unfold xsu
      rw [if_neg (fun z => w ⟨c, z⟩)]
    · have : i = 50 := by clear ih hP hq hV w; grind
      subst this
      rfl
  rw [q72_7]
  simp only [q72_8, q72_10, as_nil, as_i, as_r, Nat.reduceAdd, Nat.reduceLeDiff, z_eq0, z_eq1, z_or, z_em, Classical.not_not, not_false_eq_true, not_true_eq_false, true_and, and_true, false_and, and_false, and_self, true_implies, false_implies, implies_true, Option.toList_some, Option.toList_none, List.cons_append, List.nil_append, Nat.add_eq_zero_iff, a_nl_i, a_nl_r, a_nl_n, true_or, or_true, eq_self, a_isRA_22, a_isRA_24, a_isRA_32, a_isA_20, ok_4, ok_5, ok_6, ok_7, ok_9, ok_20, ok_21, ok_30, ok_50, ok_180, ok_192, ok_200]
  refine ⟨fun c => ?_, fun c => ?_⟩
  · have hv := hst (fun w => absurd w.1 (Int32.not_lt.mpr c))
    have hp := hP J (by rw [hv]; exact hq)
    rw [hv] at hp
    simp only [q72_68, q72_69, as_nil, as_i, as_r, Nat.reduceAdd, Nat.reduceLeDiff, z_eq0, z_eq1, z_or, z_em, Classical.not_not, not_false_eq_true, not_true_eq_false, true_and, and_true, false_and, and_false, and_self, true_implies, false_implies, implies_true, Option.toList_some, Option.toList_none, List.cons_append, List.nil_append, Nat.add_eq_zero_iff, a_nl_i, a_nl_r, a_nl_n, true_or, or_true, eq_self, a_isRA_22, a_isRA_24, a_isRA_32, a_isA_20, ok_4, ok_5, ok_6, ok_7, ok_9, ok_20, ok_21, ok_30, ok_50, ok_180, ok_192, ok_200]
    exact hp
  · have c := Int32.not_le.mp c
    simp only [q72_13, q72_14, as_nil, as_i, as_r, Nat.reduceAdd, Nat.reduceLeDiff, z_eq0, z_eq1, z_or, z_em, Classical.not_not, not_false_eq_true, not_true_eq_false, true_and, and_true, false_and, and_false, and_self, true_implies, false_implies, implies_true, Option.toList_some, Option.toList_none, List.cons_append, List.nil_append, Nat.add_eq_zero_iff, a_nl_i, a_nl_r, a_nl_n, true_or, or_true, eq_self, a_isRA_22, a_isRA_24, a_isRA_32, a_isA_20, ok_4, ok_5, ok_6, ok_7, ok_9, ok_20, ok_21, ok_30, ok_50, ok_180, ok_192, ok_200]
    refine ⟨fun c1 => ?_, fun c1 => ?_⟩
    · have hv := hst (fun w => c1 w.2.1)
      have hp := hP J (by rw [hv]; exact hq)
      rw [hv] at hp
      simp only [q72_68, q72_69, as_nil, as_i, as_r, Nat.reduceAdd, Nat.reduceLeDiff, z_eq0, z_eq1, z_or, z_em, Classical.not_not, not_false_eq_true, not_true_eq_false, true_and, and_true, false_and, and_false, and_self, true_implies, false_implies, implies_true, Option.toList_some, Option.toList_none, List.cons_append, List.nil_append, Nat.add_eq_zero_iff, a_nl_i, a_nl_r, a_nl_n, true_or, or_true, eq_self, a_isRA_22, a_isRA_24, a_isRA_32, a_isA_20, ok_4, ok_5, ok_6, ok_7, ok_9, ok_20, ok_21, ok_30, ok_50, ok_180, ok_192, ok_200]
      exact hp
    · have hr1 : r.1 = true := c1
      have hret : (if r.1 = true then (1 : Int32) else 0) = 1 := if_pos hr1
      simp only [q72_17, q72_18, k_11 hS, z_11, as_nil, as_i, as_r, Nat.reduceAdd, Nat.reduceLeDiff, z_eq0, z_eq1, z_or, z_em, Classical.not_not, not_false_eq_true, not_true_eq_false, true_and, and_true, false_and, and_false, and_self, true_implies, false_implies, implies_true, Option.toList_some, Option.toList_none, List.cons_append, List.nil_append, Nat.add_eq_zero_iff, a_nl_i, a_nl_r, a_nl_n, true_or, or_true, eq_self, a_isRA_22, a_isRA_24, a_isRA_32, a_isA_20, ok_4, ok_5, ok_6, ok_7, ok_9, ok_20, ok_21, ok_30, ok_50, ok_180, ok_192, ok_200]
      have hno : ¬ i3 (I (C + 12)) (I (C + 11) 2) r.2.1 43 45 42 → P (some (.int 1)) (n, t, K, L, J, R) := fun w => by
        have hv := hst (fun z => w z.2.2)
        have hp := hP J (by rw [hv]; exact hq)
        rw [hv, hret] at hp
        exact hp
      refine ce_next hJT (fun c2 => ?_) (fun c2 => ?_)
      · rw [show J (C + 12) (J (C + 11) 4).toNatClampNeg = (I (C + 12)) r.2.1.toNatClampNeg by rw [e12, hq.2.1]]
        have c2e : r.2.1 < (I (C + 11) 2) := by rw [← hq.2.1, ← e2]; exact c2
        simp only [q72_21, q72_23, q72_25, q72_27, q72_30, as_nil, as_i, as_r, Nat.reduceAdd, Nat.reduceLeDiff, z_eq0, z_eq1, z_or, z_em, Classical.not_not, not_false_eq_true, not_true_eq_false, true_and, and_true, false_and, and_false, and_self, true_implies, false_implies, implies_true, Option.toList_some, Option.toList_none, List.cons_append, List.nil_append, Nat.add_eq_zero_iff, a_nl_i, a_nl_r, a_nl_n, true_or, or_true, eq_self, a_isRA_22, a_isRA_24, a_isRA_32, a_isA_20, ok_4, ok_5, ok_6, ok_7, ok_9, ok_20, ok_21, ok_30, ok_50, ok_180, ok_192, ok_200, sp_signOf]
        by_cases c3 : i3 (I (C + 12)) (I (C + 11) 2) r.2.1 43 45 42
        · have hg := fun x y => jn_ar (x := x) (y := y) c3.2
          have hgr : ¬ (if (I (C + 12)) r.2.1.toNatClampNeg = 43 then (2000 : Int32) else if (I (C + 12)) r.2.1.toNatClampNeg = 45 then 2000 + 1 else if (I (C + 12)) r.2.1.toNatClampNeg = 42 then 2000 + 2 else -9) = -9 ∧ ¬ (if (I (C + 12)) r.2.1.toNatClampNeg = 43 then (2000 : Int32) else if (I (C + 12)) r.2.1.toNatClampNeg = 45 then 2000 + 1 else if (I (C + 12)) r.2.1.toNatClampNeg = 42 then 2000 + 2 else -9) = 2009 ∧ ¬ (if (I (C + 12)) r.2.1.toNatClampNeg = 43 then (2000 : Int32) else if (I (C + 12)) r.2.1.toNatClampNeg = 45 then 2000 + 1 else if (I (C + 12)) r.2.1.toNatClampNeg = 42 then 2000 + 2 else -9) < 2000 := by
            rcases c3.2 with q | q | q <;> rw [q] <;> decide
          generalize (if (I (C + 12)) r.2.1.toNatClampNeg = 43 then (2000 : Int32) else if (I (C + 12)) r.2.1.toNatClampNeg = 45 then 2000 + 1 else if (I (C + 12)) r.2.1.toNatClampNeg = 42 then 2000 + 2 else -9) = g at hg hgr ⊢
          simp only [q72_33, q72_34, q72_35, q72_37, q72_40, q72_41, q72_42, q72_43, q72_44, q72_47, q72_48, q72_49, q72_52, q72_53, k_11 hS, z_11, as_nil, as_i, as_r, Nat.reduceAdd, Nat.reduceLeDiff, z_eq0, z_eq1, z_or, z_em, Classical.not_not, not_false_eq_true, not_true_eq_false, true_and, and_true, false_and, and_false, and_self, true_implies, false_implies, implies_true, Option.toList_some, Option.toList_none, List.cons_append, List.nil_append, Nat.add_eq_zero_iff, a_nl_i, a_nl_r, a_nl_n, true_or, or_true, eq_self, a_isRA_22, a_isRA_24, a_isRA_32, a_isA_20, ok_4, ok_5, ok_6, ok_7, ok_9, ok_20, ok_21, ok_30, ok_50, ok_180, ok_192, ok_200, ui_ap, cc_ne, cc_n0, cc_0n, Nat.reduceEqDiff, reduceIte, if_true, if_false, hgr.1]
          have hT2 := at1_T hJT c2
          have n2 : a_ui J (C + 11) 4 (J (C + 11) 4 + 1) (C + 11) 2 = (I (C + 11) 2) := by rw [ui_ap, if_neg (by omega), e2]
          have n4 : a_ui J (C + 11) 4 (J (C + 11) 4 + 1) (C + 11) 4 = r.2.1 + 1 := by rw [ui_ap, if_pos ⟨rfl, rfl⟩, hq.2.1]
          have n12 : a_ui J (C + 11) 4 (J (C + 11) 4 + 1) (C + 12) = (I (C + 12)) := by rw [← e12]; funext j; rw [ui_ap, if_neg (by omega)]
          have n3 : a_ui J (C + 11) 4 (J (C + 11) 4 + 1) (C + 11) 3 = J (C + 11) 3 := by rw [ui_ap, if_neg (by omega)]
          have m1 : r.2.1 + 1 ≤ (I (C + 11) 2) := by clear ih hP hq hV hst hno hg hgr n2 n4 n12 n3 hT2 c3; grind
          have m3 : J (C + 11) 3 ≤ r.2.1 + 1 := by
            have w1 := rq_cs hq hr1 hc
            have w2 := hJT.g_size
            have w3 := hJT.g_at
            have w4 := hq.2.1
            clear ih hP hq hV hst hno hg hgr n2 n4 n12 n3 hT2 c3
            grind
          refine ce_readUnit hT2 (by rw [n4, n2]; exact m1) (by rw [n3, n4]; exact m3) (fun J1 hu => ?_)
          rw [n12, n2, n4] at hu ⊢
          simp only [q72_56, q72_57, q72_58, q72_59, k_11 hS, z_11, as_nil, as_i, as_r, Nat.reduceAdd, Nat.reduceLeDiff, z_eq0, z_eq1, z_or, z_em, Classical.not_not, not_false_eq_true, not_true_eq_false, true_and, and_true, false_and, and_false, and_self, true_implies, false_implies, implies_true, Option.toList_some, Option.toList_none, List.cons_append, List.nil_append, Nat.add_eq_zero_iff, a_nl_i, a_nl_r, a_nl_n, true_or, or_true, eq_self, a_isRA_22, a_isRA_24, a_isRA_32, a_isA_20, ok_4, ok_5, ok_6, ok_7, ok_9, ok_20, ok_21, ok_30, ok_50, ok_180, ok_192, ok_200]
          refine ce_write hu.1.1 (fun J3 k1 k2 k3 => ?_)
          simp only [q72_62, q72_65, as_nil, as_i, as_r, Nat.reduceAdd, Nat.reduceLeDiff, z_eq0, z_eq1, z_or, z_em, Classical.not_not, not_false_eq_true, not_true_eq_false, true_and, and_true, false_and, and_false, and_self, true_implies, false_implies, implies_true, Option.toList_some, Option.toList_none, List.cons_append, List.nil_append, Nat.add_eq_zero_iff, a_nl_i, a_nl_r, a_nl_n, true_or, or_true, eq_self, a_isRA_22, a_isRA_24, a_isRA_32, a_isA_20, ok_4, ok_5, ok_6, ok_7, ok_9, ok_20, ok_21, ok_30, ok_50, ok_180, ok_192, ok_200]
          have hub := xU_b (f := (I (C + 12))) m1
          have h3 := at1_step hT hc hq hr1 c2 hgr.2.1 hgr.2.2 hg (q := xU (I (C + 12)) (I (C + 11) 2)) hu k1 k2 k3
          refine ih c J3 ((xU (I (C + 12)) (I (C + 11) 2) (r.2.1 + 1)).1, (xU (I (C + 12)) (I (C + 11) 2) (r.2.1 + 1)).2.1, fun fc => xar ((I (C + 12)) r.2.1.toNatClampNeg) (r.2.2 fc) ((xU (I (C + 12)) (I (C + 11) 2) (r.2.1 + 1)).2.2 fc)) _ (by clear ih hP hq hV hst hno hg hgr n2 n4 n12 n3 hT2 c3 hu k1 k2 k3 hub h3; grind) h3 hub.2.1 ?_
          have i3 : i.toNatClampNeg < 50 := show _ < (50 : Int32).toNatClampNeg from cl_lt q0 c
          have ei : (i + 1).toNatClampNeg = i.toNatClampNeg + 1 := cl_up q0 (by clear ih hP hq hV hst hno hg hgr n2 n4 n12 n3 hT2 c3 hu k1 k2 k3 hub h3; grind)
          rw [← hV, ei, show 50 - i.toNatClampNeg = (50 - (i.toNatClampNeg + 1)) + 1 by omega]
          conv => rhs; unfold xsu
          rw [if_pos ⟨hr1, c3⟩]
        · have hz : (if (I (C + 12)) r.2.1.toNatClampNeg = 43 then (2000 : Int32) else if (I (C + 12)) r.2.1.toNatClampNeg = 45 then 2000 + 1 else if (I (C + 12)) r.2.1.toNatClampNeg = 42 then 2000 + 2 else -9) = -9 := by
            rw [if_neg (fun z => c3 ⟨c2e, Or.inl z⟩), if_neg (fun z => c3 ⟨c2e, Or.inr (Or.inl z)⟩), if_neg (fun z => c3 ⟨c2e, Or.inr (Or.inr z)⟩)]
          rw [hz]
          have hp := hno c3
          simp only [q72_33, q72_34, q72_35, q72_37, q72_40, q72_41, as_nil, as_i, as_r, Nat.reduceAdd, Nat.reduceLeDiff, z_eq0, z_eq1, z_or, z_em, Classical.not_not, not_false_eq_true, not_true_eq_false, true_and, and_true, false_and, and_false, and_self, true_implies, false_implies, implies_true, Option.toList_some, Option.toList_none, List.cons_append, List.nil_append, Nat.add_eq_zero_iff, a_nl_i, a_nl_r, a_nl_n, true_or, or_true, eq_self, a_isRA_22, a_isRA_24, a_isRA_32, a_isA_20, ok_4, ok_5, ok_6, ok_7, ok_9, ok_20, ok_21, ok_30, ok_50, ok_180, ok_192, ok_200]
          first
            | exact hp
            | exact ⟨fun z => absurd trivial z, fun _ => hp⟩
      · have hp := hno (fun w => c2 (by rw [hq.2.1, e2]; exact w.1))
        simp only [q72_21, q72_23, q72_25, q72_27, q72_30, as_nil, as_i, as_r, Nat.reduceAdd, Nat.reduceLeDiff, z_eq0, z_eq1, z_or, z_em, Classical.not_not, not_false_eq_true, not_true_eq_false, true_and, and_true, false_and, and_false, and_self, true_implies, false_implies, implies_true, Option.toList_some, Option.toList_none, List.cons_append, List.nil_append, Nat.add_eq_zero_iff, a_nl_i, a_nl_r, a_nl_n, true_or, or_true, eq_self, a_isRA_22, a_isRA_24, a_isRA_32, a_isA_20, ok_4, ok_5, ok_6, ok_7, ok_9, ok_20, ok_21, ok_30, ok_50, ok_180, ok_192, ok_200, sp_signOf]
        rw [show (if (-9 : Int32) = 43 then (2000 : Int32) else if (-9 : Int32) = 45 then 2000 + 1 else if (-9 : Int32) = 42 then 2000 + 2 else -9) = -9 by decide]
        simp only [q72_33, q72_34, q72_35, q72_37, q72_40, q72_41, as_nil, as_i, as_r, Nat.reduceAdd, Nat.reduceLeDiff, z_eq0, z_eq1, z_or, z_em, Classical.not_not, not_false_eq_true, not_true_eq_false, true_and, and_true, false_and, and_false, and_self, true_implies, false_implies, implies_true, Option.toList_some, Option.toList_none, List.cons_append, List.nil_append, Nat.add_eq_zero_iff, a_nl_i, a_nl_r, a_nl_n, true_or, or_true, eq_self, a_isRA_22, a_isRA_24, a_isRA_32, a_isA_20, ok_4, ok_5, ok_6, ok_7, ok_9, ok_20, ok_21, ok_30, ok_50, ok_180, ok_192, ok_200]
        first
          | exact hp
          | exact ⟨fun z => absurd trivial z, fun _ => hp⟩
theorem ce_readSum (hT : cT C K L I R) (ha : (I (C + 11) 4) ≤ (I (C + 11) 2)) (hc : (I (C + 11) 3) ≤ (I (C + 11) 4)) (hP : ∀ J, rq C K L R I J (xS (I (C + 12)) (I (C + 11) 2) (I (C + 11) 4)) → P (some (.int (if ((xS (I (C + 12)) (I (C + 11) 2) (I (C + 11) 4))).1 = true then (1 : Int32) else 0))) (n, t, K, L, J, R)) : a_does (d + 4) 72 [a_rf (C + 11)] (n, t, K, L, I, R) P := by
  have hS := hT.s
  have g1 := hT.g_at
  have g2 := hT.g_size
  have hub := xU_b (f := (I (C + 12))) ha
  rw [a_enter1 (M := a_m72) rfl (a_cat_rf a_cat_nil) (show 1 ≤ 4 by decide)]
  show a_at _ (a_xm a_m72) 0 [some (a_rf (C + 11)), none, none, none] [] _ _
  simp only [q72_0, q72_1, k_11 hS, z_11, as_nil, as_i, as_r, Nat.reduceAdd, Nat.reduceLeDiff, z_eq0, z_eq1, z_or, z_em, Classical.not_not, not_false_eq_true, not_true_eq_false, true_and, and_true, false_and, and_false, and_self, true_implies, false_implies, implies_true, Option.toList_some, Option.toList_none, List.cons_append, List.nil_append, Nat.add_eq_zero_iff, a_nl_i, a_nl_r, a_nl_n, true_or, or_true, eq_self, a_isRA_22, a_isRA_24, a_isRA_32, a_isA_20, ok_4, ok_5, ok_6, ok_7, ok_9, ok_20, ok_21, ok_30, ok_50, ok_180, ok_192, ok_200]
  refine ce_readUnit hT ha hc (fun J hq => ?_)
  simp only [q72_4, q72_5, q72_6, as_nil, as_i, as_r, Nat.reduceAdd, Nat.reduceLeDiff, z_eq0, z_eq1, z_or, z_em, Classical.not_not, not_false_eq_true, not_true_eq_false, true_and, and_true, false_and, and_false, and_self, true_implies, false_implies, implies_true, Option.toList_some, Option.toList_none, List.cons_append, List.nil_append, Nat.add_eq_zero_iff, a_nl_i, a_nl_r, a_nl_n, true_or, or_true, eq_self, a_isRA_22, a_isRA_24, a_isRA_32, a_isA_20, ok_4, ok_5, ok_6, ok_7, ok_9, ok_20, ok_21, ok_30, ok_50, ok_180, ok_192, ok_200]
  exact le_readSum_7 hT ha hc hP 0 (by decide) J _ none (by decide) hq hub.2.1 rfl
theorem ce_readComparison (hT : cT C K L I R) (ha : (I (C + 11) 4) ≤ (I (C + 11) 2)) (hc : (I (C + 11) 3) ≤ (I (C + 11) 4)) (hP : ∀ J, rq C K L R I J (xC (I (C + 12)) (I (C + 11) 2) (I (C + 11) 4)) → P (some (.int (if ((xC (I (C + 12)) (I (C + 11) 2) (I (C + 11) 4))).1 = true then (1 : Int32) else 0))) (n, t, K, L, J, R)) : a_does (d + 5) 79 [a_rf (C + 11)] (n, t, K, L, I, R) P := by
  have hS := hT.s
  have hsb := xS_b (f := (I (C + 12))) ha
  rw [a_enter1 (M := a_m79) rfl (a_cat_rf a_cat_nil) (show 1 ≤ 3 by decide)]
  show a_at _ (a_xm a_m79) 0 [some (a_rf (C + 11)), none, none] [] _ _
  simp only [q79_0, q79_1, k_11 hS, z_11, as_nil, as_i, as_r, Nat.reduceAdd, Nat.reduceLeDiff, z_eq0, z_eq1, z_or, z_em, Classical.not_not, not_false_eq_true, not_true_eq_false, true_and, and_true, false_and, and_false, and_self, true_implies, false_implies, implies_true, Option.toList_some, Option.toList_none, List.cons_append, List.nil_append, Nat.add_eq_zero_iff, a_nl_i, a_nl_r, a_nl_n, true_or, or_true, eq_self, a_isRA_22, a_isRA_24, a_isRA_32, a_isA_20, ok_4, ok_5, ok_6, ok_7, ok_9, ok_20, ok_21, ok_30, ok_50, ok_180, ok_192, ok_200]
  refine ce_readSum hT ha hc (fun J hq => ?_)
  have hJT := hq.1.1
  have hS := hJT.s
  have e12 := tq_12 hq.1
  have e2 := tq_2 hq.1
  have hrC : ∀ r, r = xS (I (C + 12)) (I (C + 11) 2) (I (C + 11) 4) → xC (I (C + 12)) (I (C + 11) 2) (I (C + 11) 4) = if r.1 = true then (if i3 (I (C + 12)) (I (C + 11) 2) r.2.1 60 61 62 then ((xS (I (C + 12)) (I (C + 11) 2) (r.2.1 + 1)).1, (xS (I (C + 12)) (I (C + 11) 2) (r.2.1 + 1)).2.1, fun fc => xcmp ((I (C + 12)) r.2.1.toNatClampNeg) (r.2.2 fc) ((xS (I (C + 12)) (I (C + 11) 2) (r.2.1 + 1)).2.2 fc)) else (false, r.2.1, fun _ => 0)) else (false, r.2.1, fun _ => 0) := fun r e => by
    subst e
    rfl
  generalize hr : xS (I (C + 12)) (I (C + 11) 2) (I (C + 11) 4) = r at hq hsb ⊢
  have hrC := hrC r hr.symm
  have hbad : xC (I (C + 12)) (I (C + 11) 2) (I (C + 11) 4) = (false, r.2.1, fun _ => 0) → P (some (.int 0)) (n, t, K, L, J, R) := fun w => by
    have hp := hP J (by rw [w]; exact ⟨hq.1, hq.2.1, fun z => absurd z Bool.false_ne_true⟩)
    rw [w] at hp
    exact hp
  by_cases hr1 : r.1 = true
  · rw [if_pos hr1] at hrC
    rw [if_pos hr1]
    have n10 : ¬ (1 : Int32) = 0 := by decide
    simp only [q79_4, q79_7, q79_8, q79_9, q79_10, k_11 hS, z_11, as_nil, as_i, as_r, Nat.reduceAdd, Nat.reduceLeDiff, z_eq0, z_eq1, z_or, z_em, Classical.not_not, not_false_eq_true, not_true_eq_false, true_and, and_true, false_and, and_false, and_self, true_implies, false_implies, implies_true, Option.toList_some, Option.toList_none, List.cons_append, List.nil_append, Nat.add_eq_zero_iff, a_nl_i, a_nl_r, a_nl_n, true_or, or_true, eq_self, a_isRA_22, a_isRA_24, a_isRA_32, a_isA_20, ok_4, ok_5, ok_6, ok_7, ok_9, ok_20, ok_21, ok_30, ok_50, ok_180, ok_192, ok_200, n10]
    refine ce_next hJT (fun c2 => ?_) (fun c2 => ?_)
    · rw [show J (C + 12) (J (C + 11) 4).toNatClampNeg = (I (C + 12)) r.2.1.toNatClampNeg by rw [e12, hq.2.1]]
      have c2e : r.2.1 < (I (C + 11) 2) := by rw [← hq.2.1, ← e2]; exact c2
      simp only [q79_13, q79_15, q79_17, q79_19, q79_22, as_nil, as_i, as_r, Nat.reduceAdd, Nat.reduceLeDiff, z_eq0, z_eq1, z_or, z_em, Classical.not_not, not_false_eq_true, not_true_eq_false, true_and, and_true, false_and, and_false, and_self, true_implies, false_implies, implies_true, Option.toList_some, Option.toList_none, List.cons_append, List.nil_append, Nat.add_eq_zero_iff, a_nl_i, a_nl_r, a_nl_n, true_or, or_true, eq_self, a_isRA_22, a_isRA_24, a_isRA_32, a_isA_20, ok_4, ok_5, ok_6, ok_7, ok_9, ok_20, ok_21, ok_30, ok_50, ok_180, ok_192, ok_200, sp_signOf]
      by_cases c3 : i3 (I (C + 12)) (I (C + 11) 2) r.2.1 60 61 62
      · rw [if_pos c3] at hrC
        have hg := fun x y => jn_cmp (x := x) (y := y) c3.2
        have hgr : ¬ (if (I (C + 12)) r.2.1.toNatClampNeg = 60 then (2003 : Int32) else if (I (C + 12)) r.2.1.toNatClampNeg = 61 then 2003 + 1 else if (I (C + 12)) r.2.1.toNatClampNeg = 62 then 2003 + 2 else -9) = -9 ∧ ¬ (if (I (C + 12)) r.2.1.toNatClampNeg = 60 then (2003 : Int32) else if (I (C + 12)) r.2.1.toNatClampNeg = 61 then 2003 + 1 else if (I (C + 12)) r.2.1.toNatClampNeg = 62 then 2003 + 2 else -9) = 2009 ∧ ¬ (if (I (C + 12)) r.2.1.toNatClampNeg = 60 then (2003 : Int32) else if (I (C + 12)) r.2.1.toNatClampNeg = 61 then 2003 + 1 else if (I (C + 12)) r.2.1.toNatClampNeg = 62 then 2003 + 2 else -9) < 2000 := by
          rcases c3.2 with q | q | q <;> rw [q] <;> decide
        generalize (if (I (C + 12)) r.2.1.toNatClampNeg = 60 then (2003 : Int32) else if (I (C + 12)) r.2.1.toNatClampNeg = 61 then 2003 + 1 else if (I (C + 12)) r.2.1.toNatClampNeg = 62 then 2003 + 2 else -9) = g at hg hgr ⊢
        simp only [q79_25, q79_26, q79_27, q79_29, q79_32, q79_33, q79_34, q79_35, q79_36, q79_39, q79_40, q79_41, q79_44, q79_45, k_11 hS, z_11, as_nil, as_i, as_r, Nat.reduceAdd, Nat.reduceLeDiff, z_eq0, z_eq1, z_or, z_em, Classical.not_not, not_false_eq_true, not_true_eq_false, true_and, and_true, false_and, and_false, and_self, true_implies, false_implies, implies_true, Option.toList_some, Option.toList_none, List.cons_append, List.nil_append, Nat.add_eq_zero_iff, a_nl_i, a_nl_r, a_nl_n, true_or, or_true, eq_self, a_isRA_22, a_isRA_24, a_isRA_32, a_isA_20, ok_4, ok_5, ok_6, ok_7, ok_9, ok_20, ok_21, ok_30, ok_50, ok_180, ok_192, ok_200, ui_ap, cc_ne, cc_n0, cc_0n, Nat.reduceEqDiff, reduceIte, if_true, if_false, hgr.1]
        have hT2 := at1_T hJT c2
        have n2 : a_ui J (C + 11) 4 (J (C + 11) 4 + 1) (C + 11) 2 = (I (C + 11) 2) := by rw [ui_ap, if_neg (by omega), e2]
        have n4 : a_ui J (C + 11) 4 (J (C + 11) 4 + 1) (C + 11) 4 = r.2.1 + 1 := by rw [ui_ap, if_pos ⟨rfl, rfl⟩, hq.2.1]
        have n12 : a_ui J (C + 11) 4 (J (C + 11) 4 + 1) (C + 12) = (I (C + 12)) := by rw [← e12]; funext j; rw [ui_ap, if_neg (by omega)]
        have n3 : a_ui J (C + 11) 4 (J (C + 11) 4 + 1) (C + 11) 3 = J (C + 11) 3 := by rw [ui_ap, if_neg (by omega)]
        have w1 := rq_cs hq hr1 hc
        have w2 := hJT.g_size
        have w3 := hJT.g_at
        have w4 := hq.2.1
        have m1 : r.2.1 + 1 ≤ (I (C + 11) 2) := by clear hP hq hr hrC hbad hg hgr n2 n4 n12 n3 hT2 c3; grind
        have m3 : J (C + 11) 3 ≤ r.2.1 + 1 := by clear hP hq hr hrC hbad hg hgr n2 n4 n12 n3 hT2 c3; grind
        refine ce_readSum hT2 (by rw [n4, n2]; exact m1) (by rw [n3, n4]; exact m3) (fun J1 hu => ?_)
        rw [n12, n2, n4] at hu ⊢
        simp only [q79_48, q79_49, q79_50, q79_51, k_11 hS, z_11, as_nil, as_i, as_r, Nat.reduceAdd, Nat.reduceLeDiff, z_eq0, z_eq1, z_or, z_em, Classical.not_not, not_false_eq_true, not_true_eq_false, true_and, and_true, false_and, and_false, and_self, true_implies, false_implies, implies_true, Option.toList_some, Option.toList_none, List.cons_append, List.nil_append, Nat.add_eq_zero_iff, a_nl_i, a_nl_r, a_nl_n, true_or, or_true, eq_self, a_isRA_22, a_isRA_24, a_isRA_32, a_isA_20, ok_4, ok_5, ok_6, ok_7, ok_9, ok_20, ok_21, ok_30, ok_50, ok_180, ok_192, ok_200]
        refine ce_write hu.1.1 (fun J3 k1 k2 k3 => ?_)
        simp only [q79_54, q79_55, as_nil, as_i, as_r, Nat.reduceAdd, Nat.reduceLeDiff, z_eq0, z_eq1, z_or, z_em, Classical.not_not, not_false_eq_true, not_true_eq_false, true_and, and_true, false_and, and_false, and_self, true_implies, false_implies, implies_true, Option.toList_some, Option.toList_none, List.cons_append, List.nil_append, Nat.add_eq_zero_iff, a_nl_i, a_nl_r, a_nl_n, true_or, or_true, eq_self, a_isRA_22, a_isRA_24, a_isRA_32, a_isA_20, ok_4, ok_5, ok_6, ok_7, ok_9, ok_20, ok_21, ok_30, ok_50, ok_180, ok_192, ok_200]
        have h3 := at1_step hT hc hq hr1 c2 hgr.2.1 hgr.2.2 hg (q := xS (I (C + 12)) (I (C + 11) 2)) hu k1 k2 k3
        have hp := hP J3 (by rw [hrC]; exact h3)
        rw [hrC] at hp
        exact hp
      · rw [if_neg c3] at hrC
        have hz : (if (I (C + 12)) r.2.1.toNatClampNeg = 60 then (2003 : Int32) else if (I (C + 12)) r.2.1.toNatClampNeg = 61 then 2003 + 1 else if (I (C + 12)) r.2.1.toNatClampNeg = 62 then 2003 + 2 else -9) = -9 := by
          rw [if_neg (fun z => c3 ⟨c2e, Or.inl z⟩), if_neg (fun z => c3 ⟨c2e, Or.inr (Or.inl z)⟩), if_neg (fun z => c3 ⟨c2e, Or.inr (Or.inr z)⟩)]
        rw [hz]
        have hp := hbad hrC
        simp only [q79_25, q79_26, q79_27, q79_29, q79_32, q79_33, as_nil, as_i, as_r, Nat.reduceAdd, Nat.reduceLeDiff, z_eq0, z_eq1, z_or, z_em, Classical.not_not, not_false_eq_true, not_true_eq_false, true_and, and_true, false_and, and_false, and_self, true_implies, false_implies, implies_true, Option.toList_some, Option.toList_none, List.cons_append, List.nil_append, Nat.add_eq_zero_iff, a_nl_i, a_nl_r, a_nl_n, true_or, or_true, eq_self, a_isRA_22, a_isRA_24, a_isRA_32, a_isA_20, ok_4, ok_5, ok_6, ok_7, ok_9, ok_20, ok_21, ok_30, ok_50, ok_180, ok_192, ok_200]
        first
          | exact hp
          | exact ⟨fun z => absurd trivial z, fun _ => hp⟩
    · rw [if_neg (fun w => c2 (by rw [hq.2.1, e2]; exact w.1))] at hrC
      have hp := hbad hrC
      simp only [q79_13, q79_15, q79_17, q79_19, q79_22, as_nil, as_i, as_r, Nat.reduceAdd, Nat.reduceLeDiff, z_eq0, z_eq1, z_or, z_em, Classical.not_not, not_false_eq_true, not_true_eq_false, true_and, and_true, false_and, and_false, and_self, true_implies, false_implies, implies_true, Option.toList_some, Option.toList_none, List.cons_append, List.nil_append, Nat.add_eq_zero_iff, a_nl_i, a_nl_r, a_nl_n, true_or, or_true, eq_self, a_isRA_22, a_isRA_24, a_isRA_32, a_isA_20, ok_4, ok_5, ok_6, ok_7, ok_9, ok_20, ok_21, ok_30, ok_50, ok_180, ok_192, ok_200, sp_signOf]
      rw [show (if (-9 : Int32) = 60 then (2003 : Int32) else if (-9 : Int32) = 61 then 2003 + 1 else if (-9 : Int32) = 62 then 2003 + 2 else -9) = -9 by decide]
      simp only [q79_25, q79_26, q79_27, q79_29, q79_32, q79_33, as_nil, as_i, as_r, Nat.reduceAdd, Nat.reduceLeDiff, z_eq0, z_eq1, z_or, z_em, Classical.not_not, not_false_eq_true, not_true_eq_false, true_and, and_true, false_and, and_false, and_self, true_implies, false_implies, implies_true, Option.toList_some, Option.toList_none, List.cons_append, List.nil_append, Nat.add_eq_zero_iff, a_nl_i, a_nl_r, a_nl_n, true_or, or_true, eq_self, a_isRA_22, a_isRA_24, a_isRA_32, a_isA_20, ok_4, ok_5, ok_6, ok_7, ok_9, ok_20, ok_21, ok_30, ok_50, ok_180, ok_192, ok_200]
      first
        | exact hp
        | exact ⟨fun z => absurd trivial z, fun _ => hp⟩
  · rw [if_neg hr1] at hrC
    rw [if_neg hr1]
    have hp := hbad hrC
    simp only [q79_4, q79_7, q79_8, as_nil, as_i, as_r, Nat.reduceAdd, Nat.reduceLeDiff, z_eq0, z_eq1, z_or, z_em, Classical.not_not, not_false_eq_true, not_true_eq_false, true_and, and_true, false_and, and_false, and_self, true_implies, false_implies, implies_true, Option.toList_some, Option.toList_none, List.cons_append, List.nil_append, Nat.add_eq_zero_iff, a_nl_i, a_nl_r, a_nl_n, true_or, or_true, eq_self, a_isRA_22, a_isRA_24, a_isRA_32, a_isA_20, ok_4, ok_5, ok_6, ok_7, ok_9, ok_20, ok_21, ok_30, ok_50, ok_180, ok_192, ok_200]
    first
      | exact hp
      | exact ⟨fun z => absurd trivial z, fun _ => hp⟩
      | exact ⟨fun _ => hp, fun z => absurd trivial z⟩
      | exact ⟨fun z => absurd rfl z, fun _ => hp⟩
def eRP (C n t : Nat) (K L : Nat → Nat) (R : Nat → Nat → Nat) (z : Nat) : Prop := ∀ (p : Int32) (I : Nat → Nat → Int32) (D : Nat) (P : Option Value → AH → Prop), 0 ≤ p → p.toInt + z = 4 → 6 * z + 30 ≤ D → cT C K L I R → (I (C + 11) 4) ≤ (I (C + 11) 2) → (I (C + 11) 3) ≤ (I (C + 11) 4) → (∀ J, rq C K L R I J (xP (I (C + 12)) (I (C + 11) 2) z (I (C + 11) 4)) → P (some (.int (if (xP (I (C + 12)) (I (C + 11) 2) z (I (C + 11) 4)).1 = true then (1 : Int32) else 0))) (n, t, K, L, J, R)) → a_does D 78 [a_rf (C + 11), .int p] (n, t, K, L, I, R) P
def eRJ (C n t : Nat) (K L : Nat → Nat) (R : Nat → Nat → Nat) (z y : Nat) : Prop := ∀ (l p : Int32) (I : Nat → Nat → Int32) (D : Nat) (P : Option Value → AH → Prop), 0 ≤ l → l.toInt + y = 3 → 0 ≤ p → p.toInt + z = 4 → 6 * z + 31 + y ≤ D → cT C K L I R → (I (C + 11) 4) ≤ (I (C + 11) 2) → (I (C + 11) 3) ≤ (I (C + 11) 4) → (∀ J, rq C K L R I J (xjo (I (C + 12)) (I (C + 11) 2) (xP (I (C + 12)) (I (C + 11) 2) z) y (I (C + 11) 4)) → P (some (.int (if (xjo (I (C + 12)) (I (C + 11) 2) (xP (I (C + 12)) (I (C + 11) 2) z) y (I (C + 11) 4)).1 = true then (1 : Int32) else 0))) (n, t, K, L, J, R)) → a_does D 77 [a_rf (C + 11), .int l, .int p] (n, t, K, L, I, R) P
theorem rq_at1 {r : rdT} (h : rq C K L R (a_ui I (C + 11) 4 ((I (C + 11) 4) + 1)) J r) (hT : cT C K L I R) (hl : (I (C + 11) 4) < (I (C + 11) 2)) : rq C K L R I J r := by
  obtain ⟨h1, h2, h3⟩ := h
  have n3 : a_ui I (C + 11) 4 ((I (C + 11) 4) + 1) (C + 11) 3 = (I (C + 11) 3) := by rw [ui_ap, if_neg (by omega)]
  refine ⟨tq_tr ⟨at1_T hT hl, fun x j p q => by rw [ui_ap, if_neg (by omega)]⟩ h1, h2, fun w => ?_⟩
  obtain ⟨q1, q2, q3⟩ := h3 w
  rw [n3] at q1 q2 q3
  rw [ui_ap, if_pos ⟨rfl, rfl⟩] at q1
  refine ⟨?_, fun j hj => by rw [q2 j hj, ui_ap, if_neg (by omega)], q3⟩
  have g1 := hT.g_at
  have l1 := Int32.le_iff_toInt_le.mp g1.1
  have l2 := Int32.le_iff_toInt_le.mp g1.2
  have z0 : (0 : Int32).toInt = 0 := rfl
  have z1 : (1 : Int32).toInt = 1 := rfl
  have z50 : (50 : Int32).toInt = 50 := rfl
  rw [ti_add (by omega)] at q1
  omega
theorem rq_post {r : rdT} {v : Int32} {op : Int32 → Int32} (h : rq C K L R I J0 r) (a1 : J0 (C + 11) 4 + 1 = J (C + 11) 4) (hl : J0 (C + 11) 4 < 50) (h1 : cT C K L J R) (h2 : ∀ x j, ¬ (x = C + 11 ∧ j = 4) → J x j = J0 x j) : rq C K L R I J (r.1, r.2.1 + 1, r.2.2) := by
  obtain ⟨p1, p2, p3⟩ := h
  have e13 : J (C + 13) = J0 (C + 13) := funext (fun j => h2 _ _ (by omega))
  refine ⟨⟨h1, fun x j p q => (h2 x j (by omega)).trans (p1.2 x j p q)⟩, by rw [← a1, p2], fun w => ?_⟩
  obtain ⟨q1, q2, q3⟩ := p3 w
  rw [h2 (C + 11) 3 (by omega), e13]
  refine ⟨?_, q2, q3⟩
  have g1 := p1.1.g_at
  have l1 := Int32.le_iff_toInt_le.mp g1.1
  have l2 := Int32.lt_iff_toInt_lt.mp hl
  have z0 : (0 : Int32).toInt = 0 := rfl
  have z1 : (1 : Int32).toInt = 1 := rfl
  have z50 : (50 : Int32).toInt = 50 := rfl
  rw [← a1, ti_add (by omega)]
  omega
theorem rq_not {r : rdT} (h : rq C K L R (a_ui I (C + 11) 4 ((I (C + 11) 4) + 1)) J1 r) (hT : cT C K L I R) (hc : (I (C + 11) 3) ≤ (I (C + 11) 4)) (hl : (I (C + 11) 4) < (I (C + 11) 2)) (k1 : cT C K L J2 R) (k2 : ∀ x j, ¬ x = C + 13 → ¬ (x = C + 11 ∧ j = 3) → J2 x j = J1 x j) (k3 : J1 (C + 11) 3 < 50 → J2 (C + 11) 3 = J1 (C + 11) 3 + 1 ∧ ∀ j, J2 (C + 13) j = if j = (J1 (C + 11) 3).toNatClampNeg then 2009 else J1 (C + 13) j) : rq C K L R I J2 (r.1, r.2.1, fun fc => 1 - r.2.2 fc) := by
  obtain ⟨b1, b2, b3⟩ := h
  have n3 : a_ui I (C + 11) 4 ((I (C + 11) 4) + 1) (C + 11) 3 = (I (C + 11) 3) := by rw [ui_ap, if_neg (by omega)]
  have hx : tq C K L R I J2 := ⟨k1, fun x j p q => by rw [k2 x j p (by omega), b1.2 x j p q, ui_ap, if_neg (by omega)]⟩
  refine ⟨hx, by rw [k2 _ _ (by omega) (by omega)]; exact b2, fun hu1 => ?_⟩
  obtain ⟨d1, d2, d3⟩ := b3 hu1
  rw [n3] at d1 d2 d3
  rw [ui_ap, if_pos ⟨rfl, rfl⟩] at d1
  have z0 : (0 : Int32).toInt = 0 := rfl
  have z1 : (1 : Int32).toInt = 1 := rfl
  have z50 : (50 : Int32).toInt = 50 := rfl
  have g1 := hT.g_at
  have l1 := Int32.le_iff_toInt_le.mp g1.1
  have l2 := Int32.le_iff_toInt_le.mp g1.2
  rw [ti_add (by omega)] at d1
  have q0 := Int32.le_iff_toInt_le.mp hc
  have q1 := Int32.le_iff_toInt_le.mp b1.1.g_at.2
  have q3 := Int32.le_iff_toInt_le.mp b1.1.g_code.1
  have lt3 : J1 (C + 11) 3 < 50 := by
    rw [Int32.lt_iff_toInt_lt]
    omega
  obtain ⟨m1, m2⟩ := k3 lt3
  have lt3' := Int32.lt_iff_toInt_lt.mp lt3
  have e3 : (J1 (C + 11) 3 + 1).toInt = (J1 (C + 11) 3).toInt + 1 := by rw [ti_add (by omega)]; omega
  have s1 := (d3 (fun _ => 0)).1
  have t1 := cl_lt s1.1 s1.2.1
  refine ⟨?_, fun j hj => ?_, fun fc => ?_⟩
  · rw [m1, e3, k2 _ _ (by omega) (by omega)]
    omega
  · rw [m2, if_neg (by omega), d2 j hj, ui_ap, if_neg (by omega)]
  · rw [m1]
    exact evK_not (evK_congr (d3 fc) (fun j p q => by rw [m2, if_neg (by omega)])) lt3 (by rw [m2, if_pos rfl])
theorem xP_c {f : Nat → Int32} {e a : Int32} {z : Nat} (h : ¬ (a < e ∧ (f a.toNatClampNeg = 33 ∨ f a.toNatClampNeg = 40))) : xP f e z a = xC f e a := by
  cases z with
  | zero => unfold xP; rw [if_neg h]
  | succ z => unfold xP; rw [if_neg (fun w => h ⟨w.1, Or.inr w.2⟩), if_neg (fun w => h ⟨w.1, Or.inl w.2⟩)]
theorem eRP_step {z : Nat} (ih : ∀ w, z = w + 1 → eRP C n t K L R w ∧ eRJ C n t K L R w 3) : eRP C n t K L R z := by
  intro p I D P h0 h1 h2 hT ha hc hP
  obtain ⟨E, rfl⟩ : ∃ E, D = E + 30 := ⟨D - 30, by omega⟩
  have hS := hT.s
  have g1 := hT.g_at
  have g2 := hT.g_size
  have c4 : (4 : Int32).toInt = 4 := rfl
  have h40 : p < 4 → ∃ w, z = w + 1 ∧ (p + 1).toInt + w = 4 ∧ 0 ≤ p + 1 := fun q => by
    have e1 := Int32.lt_iff_toInt_lt.mp q
    obtain ⟨a1, a2⟩ := inc_ti h0 (by rw [Int32.lt_iff_toInt_lt]; have : (1000 : Int32).toInt = 1000 := rfl; omega)
    exact ⟨z - 1, by omega, by omega, a2⟩
  by_cases cA : (I (C + 11) 4) < (I (C + 11) 2) ∧ ((I (C + 12)) (I (C + 11) 4).toNatClampNeg = 33 ∨ (I (C + 12)) (I (C + 11) 4).toNatClampNeg = 40)
  · have n2 : (a_ui I (C + 11) 4 ((I (C + 11) 4) + 1)) (C + 11) 2 = (I (C + 11) 2) := by rw [ui_ap, if_neg (by omega)]
    have n4 : (a_ui I (C + 11) 4 ((I (C + 11) 4) + 1)) (C + 11) 4 = (I (C + 11) 4) + 1 := by rw [ui_ap, if_pos ⟨rfl, rfl⟩]
    have n12 : (a_ui I (C + 11) 4 ((I (C + 11) 4) + 1)) (C + 12) = (I (C + 12)) := by funext j; rw [ui_ap, if_neg (by omega)]
    have n3 : (a_ui I (C + 11) 4 ((I (C + 11) 4) + 1)) (C + 11) 3 = (I (C + 11) 3) := by rw [ui_ap, if_neg (by omega)]
    have hT2 : cT C K L (a_ui I (C + 11) 4 ((I (C + 11) 4) + 1)) R := at1_T hT cA.1
    have m1 : (I (C + 11) 4) + 1 ≤ (I (C + 11) 2) := by have := cA.1; clear hP ih cA n2 n4 n12 n3 hT2 hT hS; grind
    have m3 : (I (C + 11) 3) ≤ (I (C + 11) 4) + 1 := by have := cA.1; clear hP ih cA n2 n4 n12 n3 hT2 hT hS; grind
    have h23 : a_at (E + 29) (a_xm a_m78) 23 [some (a_rf (C + 11)), some (.int p), none] [] (n, t, K, L, I, R) P := by
      simp only [q78_23, q78_24, q78_25, as_nil, as_i, as_r, Nat.reduceAdd, Nat.reduceLeDiff, z_eq0, z_eq1, z_or, z_em, Classical.not_not, not_false_eq_true, not_true_eq_false, true_and, and_true, false_and, and_false, and_self, true_implies, false_implies, implies_true, Option.toList_some, Option.toList_none, List.cons_append, List.nil_append, Nat.add_eq_zero_iff, a_nl_i, a_nl_r, a_nl_n, true_or, or_true, eq_self, a_isRA_22, a_isRA_24, a_isRA_32, a_isA_20, ok_4, ok_5, ok_6, ok_7, ok_9, ok_20, ok_21, ok_30, ok_50, ok_180, ok_192, ok_200]
      refine ⟨fun q => ?_, fun q => ?_⟩
      · obtain ⟨w, rfl, w2, w3⟩ := h40 q
        obtain ⟨ihp, ihj⟩ := ih w rfl
        simp only [q78_30, q78_31, q78_33, k_11 hS, z_11, as_nil, as_i, as_r, Nat.reduceAdd, Nat.reduceLeDiff, z_eq0, z_eq1, z_or, z_em, Classical.not_not, not_false_eq_true, not_true_eq_false, true_and, and_true, false_and, and_false, and_self, true_implies, false_implies, implies_true, Option.toList_some, Option.toList_none, List.cons_append, List.nil_append, Nat.add_eq_zero_iff, a_nl_i, a_nl_r, a_nl_n, true_or, or_true, eq_self, a_isRA_22, a_isRA_24, a_isRA_32, a_isA_20, ok_4, ok_5, ok_6, ok_7, ok_9, ok_20, ok_21, ok_30, ok_50, ok_180, ok_192, ok_200]
        refine ce_skip hT (by decide) (fun nq => ?_) (fun q1 q2 hT3 => ?_)
        · -- not so
          have c33 : (I (C + 12)) (I (C + 11) 4).toNatClampNeg = 33 := cA.2.elim id (fun x => absurd ⟨cA.1, x⟩ nq)
          have hr : xP (I (C + 12)) (I (C + 11) 2) (w + 1) (I (C + 11) 4) = ((xP (I (C + 12)) (I (C + 11) 2) w ((I (C + 11) 4) + 1)).1, (xP (I (C + 12)) (I (C + 11) 2) w ((I (C + 11) 4) + 1)).2.1, fun fc => 1 - (xP (I (C + 12)) (I (C + 11) 2) w ((I (C + 11) 4) + 1)).2.2 fc) := by
            conv => lhs; unfold xP
            rw [if_neg nq, if_pos ⟨cA.1, c33⟩]
          simp only [q78_36, q78_65, q78_66, q78_67, q78_70, q78_71, q78_72, q78_75, q78_76, q78_77, q78_78, q78_79, k_11 hS, z_11, as_nil, as_i, as_r, Nat.reduceAdd, Nat.reduceLeDiff, z_eq0, z_eq1, z_or, z_em, Classical.not_not, not_false_eq_true, not_true_eq_false, true_and, and_true, false_and, and_false, and_self, true_implies, false_implies, implies_true, Option.toList_some, Option.toList_none, List.cons_append, List.nil_append, Nat.add_eq_zero_iff, a_nl_i, a_nl_r, a_nl_n, true_or, or_true, eq_self, a_isRA_22, a_isRA_24, a_isRA_32, a_isA_20, ok_4, ok_5, ok_6, ok_7, ok_9, ok_20, ok_21, ok_30, ok_50, ok_180, ok_192, ok_200, ui_ap, cc_ne, cc_n0, cc_0n, Nat.reduceEqDiff, reduceIte, if_true, if_false]
          refine ihp (p + 1) (a_ui I (C + 11) 4 ((I (C + 11) 4) + 1)) (E + 29) _ w3 w2 (by omega) hT2 (by rw [n4, n2]; exact m1) (by rw [n3, n4]; exact m3) (fun J hq => ?_)
          rw [n12, n2, n4] at hq ⊢
          simp only [q78_82, q78_83, q78_84, q78_87, k_11 hS, z_11, as_nil, as_i, as_r, Nat.reduceAdd, Nat.reduceLeDiff, z_eq0, z_eq1, z_or, z_em, Classical.not_not, not_false_eq_true, not_true_eq_false, true_and, and_true, false_and, and_false, and_self, true_implies, false_implies, implies_true, Option.toList_some, Option.toList_none, List.cons_append, List.nil_append, Nat.add_eq_zero_iff, a_nl_i, a_nl_r, a_nl_n, true_or, or_true, eq_self, a_isRA_22, a_isRA_24, a_isRA_32, a_isA_20, ok_4, ok_5, ok_6, ok_7, ok_9, ok_20, ok_21, ok_30, ok_50, ok_180, ok_192, ok_200]
          refine ce_write hq.1.1 (fun J2 k1 k2 k3 => ?_)
          simp only [q78_90, q78_91, as_nil, as_i, as_r, Nat.reduceAdd, Nat.reduceLeDiff, z_eq0, z_eq1, z_or, z_em, Classical.not_not, not_false_eq_true, not_true_eq_false, true_and, and_true, false_and, and_false, and_self, true_implies, false_implies, implies_true, Option.toList_some, Option.toList_none, List.cons_append, List.nil_append, Nat.add_eq_zero_iff, a_nl_i, a_nl_r, a_nl_n, true_or, or_true, eq_self, a_isRA_22, a_isRA_24, a_isRA_32, a_isA_20, ok_4, ok_5, ok_6, ok_7, ok_9, ok_20, ok_21, ok_30, ok_50, ok_180, ok_192, ok_200]
          have hp := hP J2 (by rw [hr]; exact rq_not hq hT hc cA.1 k1 k2 k3)
          rw [hr] at hp
          exact hp
        · -- a rule of its own
          have nn : ¬ (1 : Int32) = 0 := by decide
          simp only [q78_36, q78_39, q78_40, q78_41, q78_42, q78_43, q78_44, k_11 hS, z_11, as_nil, as_i, as_r, Nat.reduceAdd, Nat.reduceLeDiff, z_eq0, z_eq1, z_or, z_em, Classical.not_not, not_false_eq_true, not_true_eq_false, true_and, and_true, false_and, and_false, and_self, true_implies, false_implies, implies_true, Option.toList_some, Option.toList_none, List.cons_append, List.nil_append, Nat.add_eq_zero_iff, a_nl_i, a_nl_r, a_nl_n, true_or, or_true, eq_self, a_isRA_22, a_isRA_24, a_isRA_32, a_isA_20, ok_4, ok_5, ok_6, ok_7, ok_9, ok_20, ok_21, ok_30, ok_50, ok_180, ok_192, ok_200, nn]
          refine ihj 0 (p + 1) (a_ui I (C + 11) 4 ((I (C + 11) 4) + 1)) (E + 29) _ (by decide) (by decide) w3 w2 (by omega) hT2 (by rw [n4, n2]; exact m1) (by rw [n3, n4]; exact m3) (fun J hq => ?_)
          rw [n12, n2, n4] at hq ⊢
          have hjb := xjo_b (f := (I (C + 12))) (fun a => xP_b (f := (I (C + 12))) (e := (I (C + 11) 2)) w a) 3 ((I (C + 11) 4) + 1) m1
          have hr : ∀ r, r = xjo (I (C + 12)) (I (C + 11) 2) (xP (I (C + 12)) (I (C + 11) 2) w) 3 ((I (C + 11) 4) + 1) → xP (I (C + 12)) (I (C + 11) 2) (w + 1) (I (C + 11) 4) = if r.1 = true then (if r.2.1 < (I (C + 11) 2) ∧ (I (C + 12)) r.2.1.toNatClampNeg = 41 then (true, r.2.1 + 1, r.2.2) else (false, r.2.1, fun _ => 0)) else (false, r.2.1, fun _ => 0) := fun r e => by
            subst e
            conv => lhs; unfold xP
            rw [if_pos ⟨q1, q2⟩]
          generalize hrr : xjo (I (C + 12)) (I (C + 11) 2) (xP (I (C + 12)) (I (C + 11) 2) w) 3 ((I (C + 11) 4) + 1) = r at hq hjb ⊢
          have hr := hr r hrr.symm
          have hq0 := rq_at1 hq hT cA.1
          have hJT := hq.1.1
          have hS := hJT.s
          have e12 := tq_12 hq0.1
          have e2 := tq_2 hq0.1
          have hbad : ∀ J2, tq C K L R J J2 → J2 (C + 11) 4 = J (C + 11) 4 → xP (I (C + 12)) (I (C + 11) 2) (w + 1) (I (C + 11) 4) = (false, r.2.1, fun _ => 0) → P (some (.int 0)) (n, t, K, L, J2, R) := fun J2 t1 t2 w => by
            have hp := hP J2 (by rw [w]; exact ⟨tq_tr hq0.1 t1, by rw [t2]; exact hq0.2.1, fun z => absurd z Bool.false_ne_true⟩)
            rw [w] at hp
            exact hp
          by_cases hr1 : r.1 = true
          · rw [if_pos hr1] at hr
            rw [if_pos hr1]
            have n10 : ¬ (1 : Int32) = 0 := by decide
            simp only [q78_47, q78_50, q78_51, q78_53, k_11 hS, z_11, as_nil, as_i, as_r, Nat.reduceAdd, Nat.reduceLeDiff, z_eq0, z_eq1, z_or, z_em, Classical.not_not, not_false_eq_true, not_true_eq_false, true_and, and_true, false_and, and_false, and_self, true_implies, false_implies, implies_true, Option.toList_some, Option.toList_none, List.cons_append, List.nil_append, Nat.add_eq_zero_iff, a_nl_i, a_nl_r, a_nl_n, true_or, or_true, eq_self, a_isRA_22, a_isRA_24, a_isRA_32, a_isA_20, ok_4, ok_5, ok_6, ok_7, ok_9, ok_20, ok_21, ok_30, ok_50, ok_180, ok_192, ok_200, n10]
            refine ce_skip hJT (by decide) (fun nq => ?_) (fun q3 q4 hT4 => ?_)
            · rw [if_neg (fun z => nq ⟨by rw [hq.2.1, e2]; exact z.1, by rw [e12, hq.2.1]; exact z.2⟩)] at hr
              have hp := hbad J (tq_refl hJT) rfl hr
              simp only [q78_56, q78_63, q78_64, as_nil, as_i, as_r, Nat.reduceAdd, Nat.reduceLeDiff, z_eq0, z_eq1, z_or, z_em, Classical.not_not, not_false_eq_true, not_true_eq_false, true_and, and_true, false_and, and_false, and_self, true_implies, false_implies, implies_true, Option.toList_some, Option.toList_none, List.cons_append, List.nil_append, Nat.add_eq_zero_iff, a_nl_i, a_nl_r, a_nl_n, true_or, or_true, eq_self, a_isRA_22, a_isRA_24, a_isRA_32, a_isA_20, ok_4, ok_5, ok_6, ok_7, ok_9, ok_20, ok_21, ok_30, ok_50, ok_180, ok_192, ok_200]
              first
                | exact hp
                | exact ⟨fun _ => hp, fun z => absurd rfl z⟩
            · rw [e2, hq.2.1] at q3
              rw [e12, hq.2.1] at q4
              rw [if_pos ⟨q3, q4⟩] at hr
              have hp := hP (a_ui J (C + 11) 4 (J (C + 11) 4 + 1)) (by rw [hr]; have h0 := rq_post (op := fun x => x) (v := 0) hq0 (by rw [ui_ap, if_pos ⟨rfl, rfl⟩]) (lt_50 (by rw [hq.2.1]; exact q3) g2.2) hT4 (fun x j z => by rw [ui_ap, if_neg z]); rw [hr1] at h0; exact h0)
              rw [hr] at hp
              simp only [q78_56, q78_59, q78_60, q78_64, as_nil, as_i, as_r, Nat.reduceAdd, Nat.reduceLeDiff, z_eq0, z_eq1, z_or, z_em, Classical.not_not, not_false_eq_true, not_true_eq_false, true_and, and_true, false_and, and_false, and_self, true_implies, false_implies, implies_true, Option.toList_some, Option.toList_none, List.cons_append, List.nil_append, Nat.add_eq_zero_iff, a_nl_i, a_nl_r, a_nl_n, true_or, or_true, eq_self, a_isRA_22, a_isRA_24, a_isRA_32, a_isA_20, ok_4, ok_5, ok_6, ok_7, ok_9, ok_20, ok_21, ok_30, ok_50, ok_180, ok_192, ok_200, n10]
              first
                | exact hp
                | exact ⟨fun z => z.elim, fun _ => hp⟩
          · rw [if_neg hr1] at hr
            rw [if_neg hr1]
            have hp := hbad J (tq_refl hJT) rfl hr
            simp only [q78_47, q78_63, q78_64, as_nil, as_i, as_r, Nat.reduceAdd, Nat.reduceLeDiff, z_eq0, z_eq1, z_or, z_em, Classical.not_not, not_false_eq_true, not_true_eq_false, true_and, and_true, false_and, and_false, and_self, true_implies, false_implies, implies_true, Option.toList_some, Option.toList_none, List.cons_append, List.nil_append, Nat.add_eq_zero_iff, a_nl_i, a_nl_r, a_nl_n, true_or, or_true, eq_self, a_isRA_22, a_isRA_24, a_isRA_32, a_isA_20, ok_4, ok_5, ok_6, ok_7, ok_9, ok_20, ok_21, ok_30, ok_50, ok_180, ok_192, ok_200]
            first
              | exact hp
              | exact ⟨fun _ => hp, fun z => absurd rfl z⟩
      · -- too deep
        have z0 : z = 0 := by
          have e1 := Int32.le_iff_toInt_le.mp (Int32.not_lt.mp q)
          omega
        subst z0
        have hr : xP (I (C + 12)) (I (C + 11) 2) 0 (I (C + 11) 4) = (false, (I (C + 11) 4), fun _ => 0) := by
          unfold xP
          rw [if_pos cA]
        have hp := hP I (by rw [hr]; exact ⟨tq_refl hT, rfl, fun z => absurd z Bool.false_ne_true⟩)
        rw [hr] at hp
        simp only [q78_28, q78_29, as_nil, as_i, as_r, Nat.reduceAdd, Nat.reduceLeDiff, z_eq0, z_eq1, z_or, z_em, Classical.not_not, not_false_eq_true, not_true_eq_false, true_and, and_true, false_and, and_false, and_self, true_implies, false_implies, implies_true, Option.toList_some, Option.toList_none, List.cons_append, List.nil_append, Nat.add_eq_zero_iff, a_nl_i, a_nl_r, a_nl_n, true_or, or_true, eq_self, a_isRA_22, a_isRA_24, a_isRA_32, a_isA_20, ok_4, ok_5, ok_6, ok_7, ok_9, ok_20, ok_21, ok_30, ok_50, ok_180, ok_192, ok_200]
        exact hp
    clear ih hP h40
    rw [a_enter1 (M := a_m78) rfl (a_cat_rf (a_cat_int a_cat_nil)) (show 2 ≤ 3 by decide)]
    show a_at _ (a_xm a_m78) 0 [some (a_rf (C + 11)), some (.int p), none] [] _ _
    simp only [q78_0, q78_1, k_11 hS, z_11, as_nil, as_i, as_r, Nat.reduceAdd, Nat.reduceLeDiff, z_eq0, z_eq1, z_or, z_em, Classical.not_not, not_false_eq_true, not_true_eq_false, true_and, and_true, false_and, and_false, and_self, true_implies, false_implies, implies_true, Option.toList_some, Option.toList_none, List.cons_append, List.nil_append, Nat.add_eq_zero_iff, a_nl_i, a_nl_r, a_nl_n, true_or, or_true, eq_self, a_isRA_22, a_isRA_24, a_isRA_32, a_isA_20, ok_4, ok_5, ok_6, ok_7, ok_9, ok_20, ok_21, ok_30, ok_50, ok_180, ok_192, ok_200]
    refine ce_next hT (fun c2 => ?_) (fun c2 => absurd cA.1 c2)
    simp only [q78_4, q78_6, as_nil, as_i, as_r, Nat.reduceAdd, Nat.reduceLeDiff, z_eq0, z_eq1, z_or, z_em, Classical.not_not, not_false_eq_true, not_true_eq_false, true_and, and_true, false_and, and_false, and_self, true_implies, false_implies, implies_true, Option.toList_some, Option.toList_none, List.cons_append, List.nil_append, Nat.add_eq_zero_iff, a_nl_i, a_nl_r, a_nl_n, true_or, or_true, eq_self, a_isRA_22, a_isRA_24, a_isRA_32, a_isA_20, ok_4, ok_5, ok_6, ok_7, ok_9, ok_20, ok_21, ok_30, ok_50, ok_180, ok_192, ok_200]
    refine ⟨fun _ => h23, fun x1 => ?_⟩
    simp only [q78_9, q78_10, k_11 hS, z_11, as_nil, as_i, as_r, Nat.reduceAdd, Nat.reduceLeDiff, z_eq0, z_eq1, z_or, z_em, Classical.not_not, not_false_eq_true, not_true_eq_false, true_and, and_true, false_and, and_false, and_self, true_implies, false_implies, implies_true, Option.toList_some, Option.toList_none, List.cons_append, List.nil_append, Nat.add_eq_zero_iff, a_nl_i, a_nl_r, a_nl_n, true_or, or_true, eq_self, a_isRA_22, a_isRA_24, a_isRA_32, a_isA_20, ok_4, ok_5, ok_6, ok_7, ok_9, ok_20, ok_21, ok_30, ok_50, ok_180, ok_192, ok_200]
    refine ce_next hT (fun c2 => ?_) (fun c2 => absurd cA.1 c2)
    simp only [q78_13, q78_15, as_nil, as_i, as_r, Nat.reduceAdd, Nat.reduceLeDiff, z_eq0, z_eq1, z_or, z_em, Classical.not_not, not_false_eq_true, not_true_eq_false, true_and, and_true, false_and, and_false, and_self, true_implies, false_implies, implies_true, Option.toList_some, Option.toList_none, List.cons_append, List.nil_append, Nat.add_eq_zero_iff, a_nl_i, a_nl_r, a_nl_n, true_or, or_true, eq_self, a_isRA_22, a_isRA_24, a_isRA_32, a_isA_20, ok_4, ok_5, ok_6, ok_7, ok_9, ok_20, ok_21, ok_30, ok_50, ok_180, ok_192, ok_200]
    exact ⟨fun _ => h23, fun x2 => (cA.2.elim x1 x2).elim⟩
  · have hr := xP_c (z := z) cA
    have hcomp : a_at (E + 29) (a_xm a_m78) 18 [some (a_rf (C + 11)), some (.int p), none] [] (n, t, K, L, I, R) P := by
      simp only [q78_18, q78_19, k_11 hS, z_11, as_nil, as_i, as_r, Nat.reduceAdd, Nat.reduceLeDiff, z_eq0, z_eq1, z_or, z_em, Classical.not_not, not_false_eq_true, not_true_eq_false, true_and, and_true, false_and, and_false, and_self, true_implies, false_implies, implies_true, Option.toList_some, Option.toList_none, List.cons_append, List.nil_append, Nat.add_eq_zero_iff, a_nl_i, a_nl_r, a_nl_n, true_or, or_true, eq_self, a_isRA_22, a_isRA_24, a_isRA_32, a_isA_20, ok_4, ok_5, ok_6, ok_7, ok_9, ok_20, ok_21, ok_30, ok_50, ok_180, ok_192, ok_200]
      refine ce_readComparison hT ha hc (fun J hq => ?_)
      have hp := hP J (by rw [hr]; exact hq)
      rw [hr] at hp
      simp only [q78_22, as_nil, as_i, as_r, Nat.reduceAdd, Nat.reduceLeDiff, z_eq0, z_eq1, z_or, z_em, Classical.not_not, not_false_eq_true, not_true_eq_false, true_and, and_true, false_and, and_false, and_self, true_implies, false_implies, implies_true, Option.toList_some, Option.toList_none, List.cons_append, List.nil_append, Nat.add_eq_zero_iff, a_nl_i, a_nl_r, a_nl_n, true_or, or_true, eq_self, a_isRA_22, a_isRA_24, a_isRA_32, a_isA_20, ok_4, ok_5, ok_6, ok_7, ok_9, ok_20, ok_21, ok_30, ok_50, ok_180, ok_192, ok_200]
      exact hp
    clear ih hP h40
    rw [a_enter1 (M := a_m78) rfl (a_cat_rf (a_cat_int a_cat_nil)) (show 2 ≤ 3 by decide)]
    show a_at _ (a_xm a_m78) 0 [some (a_rf (C + 11)), some (.int p), none] [] _ _
    simp only [q78_0, q78_1, k_11 hS, z_11, as_nil, as_i, as_r, Nat.reduceAdd, Nat.reduceLeDiff, z_eq0, z_eq1, z_or, z_em, Classical.not_not, not_false_eq_true, not_true_eq_false, true_and, and_true, false_and, and_false, and_self, true_implies, false_implies, implies_true, Option.toList_some, Option.toList_none, List.cons_append, List.nil_append, Nat.add_eq_zero_iff, a_nl_i, a_nl_r, a_nl_n, true_or, or_true, eq_self, a_isRA_22, a_isRA_24, a_isRA_32, a_isA_20, ok_4, ok_5, ok_6, ok_7, ok_9, ok_20, ok_21, ok_30, ok_50, ok_180, ok_192, ok_200]
    refine ce_next hT (fun c2 => ?_) (fun c2 => ?_)
    · simp only [q78_4, q78_6, as_nil, as_i, as_r, Nat.reduceAdd, Nat.reduceLeDiff, z_eq0, z_eq1, z_or, z_em, Classical.not_not, not_false_eq_true, not_true_eq_false, true_and, and_true, false_and, and_false, and_self, true_implies, false_implies, implies_true, Option.toList_some, Option.toList_none, List.cons_append, List.nil_append, Nat.add_eq_zero_iff, a_nl_i, a_nl_r, a_nl_n, true_or, or_true, eq_self, a_isRA_22, a_isRA_24, a_isRA_32, a_isA_20, ok_4, ok_5, ok_6, ok_7, ok_9, ok_20, ok_21, ok_30, ok_50, ok_180, ok_192, ok_200]
      refine ⟨fun x1 => absurd ⟨c2, Or.inl x1⟩ cA, fun x1 => ?_⟩
      simp only [q78_9, q78_10, k_11 hS, z_11, as_nil, as_i, as_r, Nat.reduceAdd, Nat.reduceLeDiff, z_eq0, z_eq1, z_or, z_em, Classical.not_not, not_false_eq_true, not_true_eq_false, true_and, and_true, false_and, and_false, and_self, true_implies, false_implies, implies_true, Option.toList_some, Option.toList_none, List.cons_append, List.nil_append, Nat.add_eq_zero_iff, a_nl_i, a_nl_r, a_nl_n, true_or, or_true, eq_self, a_isRA_22, a_isRA_24, a_isRA_32, a_isA_20, ok_4, ok_5, ok_6, ok_7, ok_9, ok_20, ok_21, ok_30, ok_50, ok_180, ok_192, ok_200]
      refine ce_next hT (fun c2 => ?_) (fun c3 => absurd c2 c3)
      simp only [q78_13, q78_15, as_nil, as_i, as_r, Nat.reduceAdd, Nat.reduceLeDiff, z_eq0, z_eq1, z_or, z_em, Classical.not_not, not_false_eq_true, not_true_eq_false, true_and, and_true, false_and, and_false, and_self, true_implies, false_implies, implies_true, Option.toList_some, Option.toList_none, List.cons_append, List.nil_append, Nat.add_eq_zero_iff, a_nl_i, a_nl_r, a_nl_n, true_or, or_true, eq_self, a_isRA_22, a_isRA_24, a_isRA_32, a_isA_20, ok_4, ok_5, ok_6, ok_7, ok_9, ok_20, ok_21, ok_30, ok_50, ok_180, ok_192, ok_200]
      exact ⟨fun x2 => absurd ⟨c2, Or.inr x2⟩ cA, fun _ => hcomp⟩
    · have n33 : ¬ (-9 : Int32) = 33 := by decide
      have n40 : ¬ (-9 : Int32) = 40 := by decide
      simp only [q78_4, q78_6, q78_9, q78_10, k_11 hS, z_11, as_nil, as_i, as_r, Nat.reduceAdd, Nat.reduceLeDiff, z_eq0, z_eq1, z_or, z_em, Classical.not_not, not_false_eq_true, not_true_eq_false, true_and, and_true, false_and, and_false, and_self, true_implies, false_implies, implies_true, Option.toList_some, Option.toList_none, List.cons_append, List.nil_append, Nat.add_eq_zero_iff, a_nl_i, a_nl_r, a_nl_n, true_or, or_true, eq_self, a_isRA_22, a_isRA_24, a_isRA_32, a_isA_20, ok_4, ok_5, ok_6, ok_7, ok_9, ok_20, ok_21, ok_30, ok_50, ok_180, ok_192, ok_200, n33]
      refine ce_next hT (fun c3 => absurd c3 c2) (fun c3 => ?_)
      simp only [q78_13, q78_15, as_nil, as_i, as_r, Nat.reduceAdd, Nat.reduceLeDiff, z_eq0, z_eq1, z_or, z_em, Classical.not_not, not_false_eq_true, not_true_eq_false, true_and, and_true, false_and, and_false, and_self, true_implies, false_implies, implies_true, Option.toList_some, Option.toList_none, List.cons_append, List.nil_append, Nat.add_eq_zero_iff, a_nl_i, a_nl_r, a_nl_n, true_or, or_true, eq_self, a_isRA_22, a_isRA_24, a_isRA_32, a_isA_20, ok_4, ok_5, ok_6, ok_7, ok_9, ok_20, ok_21, ok_30, ok_50, ok_180, ok_192, ok_200, n40]
      exact hcomp
theorem le_readJoined_23 {E z y : Nat} {l p : Int32} (hT : cT C K L I R) (ha : (I (C + 11) 4) ≤ (I (C + 11) 2)) (hc : (I (C + 11) 3) ≤ (I (C + 11) 4)) (hl : 0 ≤ l ∧ l ≤ 2) (hy : l.toInt + y = 2)
 (hr0 : ∀ (I : Nat → Nat → Int32) (P : Option Value → AH → Prop), cT C K L I R → (I (C + 11) 4) ≤ (I (C + 11) 2) → (I (C + 11) 3) ≤ (I (C + 11) 4) → (∀ J, rq C K L R I J (xjo (I (C + 12)) (I (C + 11) 2) (xP (I (C + 12)) (I (C + 11) 2) z) y (I (C + 11) 4)) → P (some (.int (if ((xjo (I (C + 12)) (I (C + 11) 2) (xP (I (C + 12)) (I (C + 11) 2) z) y (I (C + 11) 4))).1 = true then (1 : Int32) else 0))) (n, t, K, L, J, R)) → a_does (E + 29) 77 [a_rf (C + 11), .int (l + 1), .int p] (n, t, K, L, I, R) P) {V : rdT} (hP : ∀ J, rq C K L R I J V → P (some (.int (if (V).1 = true then (1 : Int32) else 0))) (n, t, K, L, J, R)) : ∀ i : Int32, i ≤ 50 → ∀ J r, 0 ≤ i → rq C K L R I J r → r.2.1 ≤ (I (C + 11) 2) → xlo (I (C + 12)) (I (C + 11) 2) (xjo (I (C + 12)) (I (C + 11) 2) (xP (I (C + 12)) (I (C + 11) 2) z) y) (sgY (y + 1)) (opY (y + 1)) (50 - i.toNatClampNeg) r = V → a_at (E + 29) (a_xm a_m77) 23 [some (a_rf (C + 11)), some (.int l), some (.int p), some (.int (if (r).1 = true then (1 : Int32) else 0)), some (.int i)] [] (n, t, K, L, J, R) P := by
  refine up_ind 50 (fun i hk ih => ?_)
  intro J r q0 hq hre hV
  have hJT := hq.1.1
  have hS := hJT.s
  have e12 := tq_12 hq.1
  have e2 := tq_2 hq.1
  have hst : ¬ (i < 50 ∧ r.1 = true ∧ r.2.1 < (I (C + 11) 2) ∧ (I (C + 12)) r.2.1.toNatClampNeg = sgY (y + 1)) → V = r := fun w => by
    rw [← hV]
    by_cases c : i < 50
    · have i3 : i.toNatClampNeg < 50 := show _ < (50 : Int32).toNatClampNeg from cl_lt q0 c
      rw [show 50 - i.toNatClampNeg = (49 - i.toNatClampNeg) + 1 by omega]
      unfold xlo
      rw [if_neg (fun z => w ⟨c, z⟩)]
    · have : i = 50 := by clear ih hP hq hV w hr0; grind
      subst this
      rfl
  have hstop : V = r → P (some (.int (if (r).1 = true then (1 : Int32) else 0))) (n, t, K, L, J, R) := fun hv => by
    have hp := hP J (by rw [hv]; exact hq)
    rw [hv] at hp
    exact hp
  -- the sign of this level and its code
  have hlev : ∃ g, (sgY (y + 1) = if l = 0 then 47 else if l = 1 then 124 else 38) ∧ (g = if l = 0 then (2008 : Int32) else if l = 1 then 2007 else 2006) ∧ ¬ g = 2009 ∧ ¬ g < 2000 ∧ ∀ a b, jn g a b = opY (y + 1) a b := by
    have z0 : (0 : Int32).toInt = 0 := rfl
    have z1 : (1 : Int32).toInt = 1 := rfl
    have z2 : (2 : Int32).toInt = 2 := rfl
    by_cases c0 : l = 0
    · subst c0
      obtain rfl : y = 2 := by omega
      exact ⟨2008, rfl, rfl, by decide, by decide, fun _ _ => rfl⟩
    · by_cases c1 : l = 1
      · subst c1
        obtain rfl : y = 1 := by omega
        exact ⟨2007, rfl, rfl, by decide, by decide, fun _ _ => rfl⟩
      · have c2 : l = 2 := by clear ih hP hq hV hst hstop hr0; grind
        subst c2
        obtain rfl : y = 0 := by omega
        exact ⟨2006, rfl, rfl, by decide, by decide, fun _ _ => rfl⟩
  obtain ⟨g, hs, hg, n9, l2, hop⟩ := hlev
  -- the sign is looked for
  have h56 : i < 50 → r.1 = true → a_at (E + 29) (a_xm a_m77) 56 [some (a_rf (C + 11)), some (.int l), some (.int p), some (.int (if (r).1 = true then (1 : Int32) else 0)), some (.int i)] [.int (sgY (y + 1)), a_rf (C + 11)] (n, t, K, L, J, R) P := fun c c1 => by
    simp only [q77_56, k_11 hS, z_11, as_nil, as_i, as_r, Nat.reduceAdd, Nat.reduceLeDiff, z_eq0, z_eq1, z_or, z_em, Classical.not_not, not_false_eq_true, not_true_eq_false, true_and, and_true, false_and, and_false, and_self, true_implies, false_implies, implies_true, Option.toList_some, Option.toList_none, List.cons_append, List.nil_append, Nat.add_eq_zero_iff, a_nl_i, a_nl_r, a_nl_n, true_or, or_true, eq_self, a_isRA_22, a_isRA_24, a_isRA_32, a_isA_20, ok_4, ok_5, ok_6, ok_7, ok_9, ok_20, ok_21, ok_30, ok_50, ok_180, ok_192, ok_200]
    refine ce_skip hJT (by rw [hs]; split; decide; split <;> decide) (fun nq => ?_) (fun q1 q2 hT3 => ?_)
    · have hp := hstop (hst (fun w => nq ⟨by rw [hq.2.1, e2]; exact w.2.2.1, by rw [e12, hq.2.1]; exact w.2.2.2⟩))
      simp only [q77_59, q77_105, q77_106, as_nil, as_i, as_r, Nat.reduceAdd, Nat.reduceLeDiff, z_eq0, z_eq1, z_or, z_em, Classical.not_not, not_false_eq_true, not_true_eq_false, true_and, and_true, false_and, and_false, and_self, true_implies, false_implies, implies_true, Option.toList_some, Option.toList_none, List.cons_append, List.nil_append, Nat.add_eq_zero_iff, a_nl_i, a_nl_r, a_nl_n, true_or, or_true, eq_self, a_isRA_22, a_isRA_24, a_isRA_32, a_isA_20, ok_4, ok_5, ok_6, ok_7, ok_9, ok_20, ok_21, ok_30, ok_50, ok_180, ok_192, ok_200]
      first
        | exact hp
        | exact ⟨fun _ => hp, fun z => absurd rfl z⟩
    · rw [e2, hq.2.1] at q1
      rw [e12, hq.2.1] at q2
      have n2 : a_ui J (C + 11) 4 (J (C + 11) 4 + 1) (C + 11) 2 = (I (C + 11) 2) := by rw [ui_ap, if_neg (by omega), e2]
      have n4 : a_ui J (C + 11) 4 (J (C + 11) 4 + 1) (C + 11) 4 = r.2.1 + 1 := by rw [ui_ap, if_pos ⟨rfl, rfl⟩, hq.2.1]
      have n12 : a_ui J (C + 11) 4 (J (C + 11) 4 + 1) (C + 12) = (I (C + 12)) := by rw [← e12]; funext j; rw [ui_ap, if_neg (by omega)]
      have n3 : a_ui J (C + 11) 4 (J (C + 11) 4 + 1) (C + 11) 3 = J (C + 11) 3 := by rw [ui_ap, if_neg (by omega)]
      have w1 := rq_cs hq c1 hc
      have w2 := hJT.g_size
      have w3 := hJT.g_at
      have w4 := hq.2.1
      have m1 : r.2.1 + 1 ≤ (I (C + 11) 2) := by clear ih hP hq hV hst hstop hr0 hop n2 n4 n12 n3 hT3; grind
      have m3 : J (C + 11) 3 ≤ r.2.1 + 1 := by clear ih hP hq hV hst hstop hr0 hop n2 n4 n12 n3 hT3; grind
      have n10 : ¬ (1 : Int32) = 0 := by decide
      simp only [q77_59, q77_62, q77_63, q77_64, q77_65, q77_66, q77_67, k_11 hS, z_11, as_nil, as_i, as_r, Nat.reduceAdd, Nat.reduceLeDiff, z_eq0, z_eq1, z_or, z_em, Classical.not_not, not_false_eq_true, not_true_eq_false, true_and, and_true, false_and, and_false, and_self, true_implies, false_implies, implies_true, Option.toList_some, Option.toList_none, List.cons_append, List.nil_append, Nat.add_eq_zero_iff, a_nl_i, a_nl_r, a_nl_n, true_or, or_true, eq_self, a_isRA_22, a_isRA_24, a_isRA_32, a_isA_20, ok_4, ok_5, ok_6, ok_7, ok_9, ok_20, ok_21, ok_30, ok_50, ok_180, ok_192, ok_200, n10]
      refine hr0 _ _ hT3 (by rw [n4, n2]; exact m1) (by rw [n3, n4]; exact m3) (fun J1 hu => ?_)
      rw [n12, n2, n4] at hu ⊢
      have hub := xjo_b (f := (I (C + 12))) (fun a => xP_b (f := (I (C + 12))) (e := (I (C + 11) 2)) z a) y (r.2.1 + 1) m1
      -- the code of it
      have hw : a_at (E + 29) (a_xm a_m77) 96 [some (a_rf (C + 11)), some (.int l), some (.int p), some (.int (if (xjo (I (C + 12)) (I (C + 11) 2) (xP (I (C + 12)) (I (C + 11) 2) z) y (r.2.1 + 1)).1 = true then (1 : Int32) else 0)), some (.int i)] [.int g, a_rf (C + 11)] (n, t, K, L, J1, R) P := by
        simp only [q77_96, k_11 hS, z_11, as_nil, as_i, as_r, Nat.reduceAdd, Nat.reduceLeDiff, z_eq0, z_eq1, z_or, z_em, Classical.not_not, not_false_eq_true, not_true_eq_false, true_and, and_true, false_and, and_false, and_self, true_implies, false_implies, implies_true, Option.toList_some, Option.toList_none, List.cons_append, List.nil_append, Nat.add_eq_zero_iff, a_nl_i, a_nl_r, a_nl_n, true_or, or_true, eq_self, a_isRA_22, a_isRA_24, a_isRA_32, a_isA_20, ok_4, ok_5, ok_6, ok_7, ok_9, ok_20, ok_21, ok_30, ok_50, ok_180, ok_192, ok_200]
        refine ce_write hu.1.1 (fun J3 k1 k2 k3 => ?_)
        simp only [q77_99, q77_102, as_nil, as_i, as_r, Nat.reduceAdd, Nat.reduceLeDiff, z_eq0, z_eq1, z_or, z_em, Classical.not_not, not_false_eq_true, not_true_eq_false, true_and, and_true, false_and, and_false, and_self, true_implies, false_implies, implies_true, Option.toList_some, Option.toList_none, List.cons_append, List.nil_append, Nat.add_eq_zero_iff, a_nl_i, a_nl_r, a_nl_n, true_or, or_true, eq_self, a_isRA_22, a_isRA_24, a_isRA_32, a_isA_20, ok_4, ok_5, ok_6, ok_7, ok_9, ok_20, ok_21, ok_30, ok_50, ok_180, ok_192, ok_200]
        have h3 := at1_step hT hc hq c1 (by rw [hq.2.1, e2]; exact q1) n9 l2 hop (q := xjo (I (C + 12)) (I (C + 11) 2) (xP (I (C + 12)) (I (C + 11) 2) z) y) hu k1 k2 k3
        refine ih c J3 ((xjo (I (C + 12)) (I (C + 11) 2) (xP (I (C + 12)) (I (C + 11) 2) z) y (r.2.1 + 1)).1, (xjo (I (C + 12)) (I (C + 11) 2) (xP (I (C + 12)) (I (C + 11) 2) z) y (r.2.1 + 1)).2.1, fun fc => opY (y + 1) (r.2.2 fc) ((xjo (I (C + 12)) (I (C + 11) 2) (xP (I (C + 12)) (I (C + 11) 2) z) y (r.2.1 + 1)).2.2 fc)) (by clear ih hP hq hV hst hstop hr0 hop hu k1 k2 k3 h3 hub; grind) h3 hub.2.1 ?_
        have i3 : i.toNatClampNeg < 50 := show _ < (50 : Int32).toNatClampNeg from cl_lt q0 c
        have ei : (i + 1).toNatClampNeg = i.toNatClampNeg + 1 := cl_up q0 (by clear ih hP hq hV hst hstop hr0 hop hu k1 k2 k3 h3 hub; grind)
        rw [← hV, ei, show 50 - i.toNatClampNeg = (50 - (i.toNatClampNeg + 1)) + 1 by omega]
        conv => rhs; unfold xlo
        rw [if_pos ⟨c1, q1, q2⟩]
      simp only [q77_70, q77_71, q77_72, q77_73, as_nil, as_i, as_r, Nat.reduceAdd, Nat.reduceLeDiff, z_eq0, z_eq1, z_or, z_em, Classical.not_not, not_false_eq_true, not_true_eq_false, true_and, and_true, false_and, and_false, and_self, true_implies, false_implies, implies_true, Option.toList_some, Option.toList_none, List.cons_append, List.nil_append, Nat.add_eq_zero_iff, a_nl_i, a_nl_r, a_nl_n, true_or, or_true, eq_self, a_isRA_22, a_isRA_24, a_isRA_32, a_isA_20, ok_4, ok_5, ok_6, ok_7, ok_9, ok_20, ok_21, ok_30, ok_50, ok_180, ok_192, ok_200]
      by_cases c0 : l = 0
      · rw [if_pos c0] at hg
        rw [hg] at hw
        simp only [q77_76, q77_79, as_nil, as_i, as_r, Nat.reduceAdd, Nat.reduceLeDiff, z_eq0, z_eq1, z_or, z_em, Classical.not_not, not_false_eq_true, not_true_eq_false, true_and, and_true, false_and, and_false, and_self, true_implies, false_implies, implies_true, Option.toList_some, Option.toList_none, List.cons_append, List.nil_append, Nat.add_eq_zero_iff, a_nl_i, a_nl_r, a_nl_n, true_or, or_true, eq_self, a_isRA_22, a_isRA_24, a_isRA_32, a_isA_20, ok_4, ok_5, ok_6, ok_7, ok_9, ok_20, ok_21, ok_30, ok_50, ok_180, ok_192, ok_200, c0] at hw ⊢
        first
          | exact hw
          | exact ⟨fun z => absurd rfl z, fun _ => hw⟩
          | exact ⟨fun z => absurd trivial z, fun _ => hw⟩
      · by_cases cl1 : l = 1
        · rw [if_neg c0, if_pos cl1] at hg
          rw [hg] at hw
          have nn : ¬ (1 : Int32) = 0 := by decide
          simp only [q77_82, q77_83, q77_84, q77_87, q77_90, as_nil, as_i, as_r, Nat.reduceAdd, Nat.reduceLeDiff, z_eq0, z_eq1, z_or, z_em, Classical.not_not, not_false_eq_true, not_true_eq_false, true_and, and_true, false_and, and_false, and_self, true_implies, false_implies, implies_true, Option.toList_some, Option.toList_none, List.cons_append, List.nil_append, Nat.add_eq_zero_iff, a_nl_i, a_nl_r, a_nl_n, true_or, or_true, eq_self, a_isRA_22, a_isRA_24, a_isRA_32, a_isA_20, ok_4, ok_5, ok_6, ok_7, ok_9, ok_20, ok_21, ok_30, ok_50, ok_180, ok_192, ok_200, cl1, nn] at hw ⊢
          first
            | exact hw
            | exact ⟨fun z => absurd rfl z, fun _ => hw⟩
            | exact ⟨fun z => absurd trivial z, fun _ => hw⟩
        · rw [if_neg c0, if_neg cl1] at hg
          rw [hg] at hw
          simp only [q77_82, q77_83, q77_84, q77_93, as_nil, as_i, as_r, Nat.reduceAdd, Nat.reduceLeDiff, z_eq0, z_eq1, z_or, z_em, Classical.not_not, not_false_eq_true, not_true_eq_false, true_and, and_true, false_and, and_false, and_self, true_implies, false_implies, implies_true, Option.toList_some, Option.toList_none, List.cons_append, List.nil_append, Nat.add_eq_zero_iff, a_nl_i, a_nl_r, a_nl_n, true_or, or_true, eq_self, a_isRA_22, a_isRA_24, a_isRA_32, a_isA_20, ok_4, ok_5, ok_6, ok_7, ok_9, ok_20, ok_21, ok_30, ok_50, ok_180, ok_192, ok_200, c0, cl1] at hw ⊢
          first
            | exact hw
            | exact ⟨fun _ => hw, fun z => absurd trivial z⟩
  rw [q77_23]
  simp only [q77_25, q77_27, as_nil, as_i, as_r, Nat.reduceAdd, Nat.reduceLeDiff, z_eq0, z_eq1, z_or, z_em, Classical.not_not, not_false_eq_true, not_true_eq_false, true_and, and_true, false_and, and_false, and_self, true_implies, false_implies, implies_true, Option.toList_some, Option.toList_none, List.cons_append, List.nil_append, Nat.add_eq_zero_iff, a_nl_i, a_nl_r, a_nl_n, true_or, or_true, eq_self, a_isRA_22, a_isRA_24, a_isRA_32, a_isA_20, ok_4, ok_5, ok_6, ok_7, ok_9, ok_20, ok_21, ok_30, ok_50, ok_180, ok_192, ok_200]
  refine ⟨fun c => ?_, fun c => ?_⟩
  · have hp := hstop (hst (fun w => absurd w.1 (Int32.not_lt.mpr c)))
    simp only [q77_105, q77_106, as_nil, as_i, as_r, Nat.reduceAdd, Nat.reduceLeDiff, z_eq0, z_eq1, z_or, z_em, Classical.not_not, not_false_eq_true, not_true_eq_false, true_and, and_true, false_and, and_false, and_self, true_implies, false_implies, implies_true, Option.toList_some, Option.toList_none, List.cons_append, List.nil_append, Nat.add_eq_zero_iff, a_nl_i, a_nl_r, a_nl_n, true_or, or_true, eq_self, a_isRA_22, a_isRA_24, a_isRA_32, a_isA_20, ok_4, ok_5, ok_6, ok_7, ok_9, ok_20, ok_21, ok_30, ok_50, ok_180, ok_192, ok_200]
    exact hp
  · have c := Int32.not_le.mp c
    simp only [q77_30, q77_31, as_nil, as_i, as_r, Nat.reduceAdd, Nat.reduceLeDiff, z_eq0, z_eq1, z_or, z_em, Classical.not_not, not_false_eq_true, not_true_eq_false, true_and, and_true, false_and, and_false, and_self, true_implies, false_implies, implies_true, Option.toList_some, Option.toList_none, List.cons_append, List.nil_append, Nat.add_eq_zero_iff, a_nl_i, a_nl_r, a_nl_n, true_or, or_true, eq_self, a_isRA_22, a_isRA_24, a_isRA_32, a_isA_20, ok_4, ok_5, ok_6, ok_7, ok_9, ok_20, ok_21, ok_30, ok_50, ok_180, ok_192, ok_200]
    refine ⟨fun c1 => ?_, fun c1 => ?_⟩
    · have hp := hstop (hst (fun w => c1 w.2.1))
      simp only [q77_105, q77_106, as_nil, as_i, as_r, Nat.reduceAdd, Nat.reduceLeDiff, z_eq0, z_eq1, z_or, z_em, Classical.not_not, not_false_eq_true, not_true_eq_false, true_and, and_true, false_and, and_false, and_self, true_implies, false_implies, implies_true, Option.toList_some, Option.toList_none, List.cons_append, List.nil_append, Nat.add_eq_zero_iff, a_nl_i, a_nl_r, a_nl_n, true_or, or_true, eq_self, a_isRA_22, a_isRA_24, a_isRA_32, a_isA_20, ok_4, ok_5, ok_6, ok_7, ok_9, ok_20, ok_21, ok_30, ok_50, ok_180, ok_192, ok_200]
      exact hp
    · have hr1 : r.1 = true := c1
      have h56 := h56 c hr1
      rw [hs] at h56
      simp only [q77_34, q77_35, q77_36, as_nil, as_i, as_r, Nat.reduceAdd, Nat.reduceLeDiff, z_eq0, z_eq1, z_or, z_em, Classical.not_not, not_false_eq_true, not_true_eq_false, true_and, and_true, false_and, and_false, and_self, true_implies, false_implies, implies_true, Option.toList_some, Option.toList_none, List.cons_append, List.nil_append, Nat.add_eq_zero_iff, a_nl_i, a_nl_r, a_nl_n, true_or, or_true, eq_self, a_isRA_22, a_isRA_24, a_isRA_32, a_isA_20, ok_4, ok_5, ok_6, ok_7, ok_9, ok_20, ok_21, ok_30, ok_50, ok_180, ok_192, ok_200]
      by_cases c0 : l = 0
      · simp only [q77_39, q77_41, as_nil, as_i, as_r, Nat.reduceAdd, Nat.reduceLeDiff, z_eq0, z_eq1, z_or, z_em, Classical.not_not, not_false_eq_true, not_true_eq_false, true_and, and_true, false_and, and_false, and_self, true_implies, false_implies, implies_true, Option.toList_some, Option.toList_none, List.cons_append, List.nil_append, Nat.add_eq_zero_iff, a_nl_i, a_nl_r, a_nl_n, true_or, or_true, eq_self, a_isRA_22, a_isRA_24, a_isRA_32, a_isA_20, ok_4, ok_5, ok_6, ok_7, ok_9, ok_20, ok_21, ok_30, ok_50, ok_180, ok_192, ok_200, c0, if_true] at h56 ⊢
        first
          | exact h56
          | exact ⟨fun z => absurd rfl z, fun _ => h56⟩
          | exact ⟨fun z => absurd trivial z, fun _ => h56⟩
      · by_cases cl1 : l = 1
        · have nn : ¬ (1 : Int32) = 0 := by decide
          simp only [q77_44, q77_45, q77_46, q77_49, q77_51, as_nil, as_i, as_r, Nat.reduceAdd, Nat.reduceLeDiff, z_eq0, z_eq1, z_or, z_em, Classical.not_not, not_false_eq_true, not_true_eq_false, true_and, and_true, false_and, and_false, and_self, true_implies, false_implies, implies_true, Option.toList_some, Option.toList_none, List.cons_append, List.nil_append, Nat.add_eq_zero_iff, a_nl_i, a_nl_r, a_nl_n, true_or, or_true, eq_self, a_isRA_22, a_isRA_24, a_isRA_32, a_isA_20, ok_4, ok_5, ok_6, ok_7, ok_9, ok_20, ok_21, ok_30, ok_50, ok_180, ok_192, ok_200, cl1, nn, if_true, if_false] at h56 ⊢
          first
            | exact h56
            | exact ⟨fun z => absurd rfl z, fun _ => h56⟩
            | exact ⟨fun z => absurd trivial z, fun _ => h56⟩
        · simp only [q77_44, q77_45, q77_46, q77_54, as_nil, as_i, as_r, Nat.reduceAdd, Nat.reduceLeDiff, z_eq0, z_eq1, z_or, z_em, Classical.not_not, not_false_eq_true, not_true_eq_false, true_and, and_true, false_and, and_false, and_self, true_implies, false_implies, implies_true, Option.toList_some, Option.toList_none, List.cons_append, List.nil_append, Nat.add_eq_zero_iff, a_nl_i, a_nl_r, a_nl_n, true_or, or_true, eq_self, a_isRA_22, a_isRA_24, a_isRA_32, a_isA_20, ok_4, ok_5, ok_6, ok_7, ok_9, ok_20, ok_21, ok_30, ok_50, ok_180, ok_192, ok_200, c0, cl1, if_false] at h56 ⊢
          first
            | exact h56
            | exact ⟨fun _ => h56, fun z => absurd trivial z⟩
theorem eRJ_step {z : Nat} (hp : eRP C n t K L R z) : ∀ y, eRJ C n t K L R z y := by
  intro y
  induction y with
  | zero =>
    intro l p I D P l0 l1 h0 h1 h2 hT ha hc hP
    obtain ⟨E, rfl⟩ : ∃ E, D = E + 30 := ⟨D - 30, by omega⟩
    have hS := hT.s
    have hc2 : ¬ l ≤ 2 := by
      rw [Int32.le_iff_toInt_le]
      have c2 : (2 : Int32).toInt = 2 := rfl
      omega
    rw [a_enter1 (M := a_m77) rfl (a_cat_rf (a_cat_int (a_cat_int a_cat_nil))) (show 3 ≤ 5 by decide)]
    show a_at _ (a_xm a_m77) 0 [some (a_rf (C + 11)), some (.int l), some (.int p), none, none] [] _ _
    simp only [q77_0, q77_1, q77_2, q77_5, q77_6, q77_7, k_11 hS, z_11, as_nil, as_i, as_r, Nat.reduceAdd, Nat.reduceLeDiff, z_eq0, z_eq1, z_or, z_em, Classical.not_not, not_false_eq_true, not_true_eq_false, true_and, and_true, false_and, and_false, and_self, true_implies, false_implies, implies_true, Option.toList_some, Option.toList_none, List.cons_append, List.nil_append, Nat.add_eq_zero_iff, a_nl_i, a_nl_r, a_nl_n, true_or, or_true, eq_self, a_isRA_22, a_isRA_24, a_isRA_32, a_isA_20, ok_4, ok_5, ok_6, ok_7, ok_9, ok_20, ok_21, ok_30, ok_50, ok_180, ok_192, ok_200, hc2]
    refine hp p I (E + 29) _ h0 h1 (by omega) hT ha hc (fun J hq => ?_)
    simp only [q77_10, as_nil, as_i, as_r, Nat.reduceAdd, Nat.reduceLeDiff, z_eq0, z_eq1, z_or, z_em, Classical.not_not, not_false_eq_true, not_true_eq_false, true_and, and_true, false_and, and_false, and_self, true_implies, false_implies, implies_true, Option.toList_some, Option.toList_none, List.cons_append, List.nil_append, Nat.add_eq_zero_iff, a_nl_i, a_nl_r, a_nl_n, true_or, or_true, eq_self, a_isRA_22, a_isRA_24, a_isRA_32, a_isA_20, ok_4, ok_5, ok_6, ok_7, ok_9, ok_20, ok_21, ok_30, ok_50, ok_180, ok_192, ok_200]
    exact hP J hq
  | succ y ihy =>
    intro l p I D P l0 l1 h0 h1 h2 hT ha hc hP
    obtain ⟨E, rfl⟩ : ∃ E, D = E + 30 := ⟨D - 30, by omega⟩
    have hS := hT.s
    have c2 : (2 : Int32).toInt = 2 := rfl
    have hc2 : l ≤ 2 := by
      rw [Int32.le_iff_toInt_le]
      omega
    obtain ⟨a1, a2⟩ := inc_ti l0 (by rw [Int32.lt_iff_toInt_lt]; have : (1000 : Int32).toInt = 1000 := rfl; omega)
    have hr0 : ∀ (I : Nat → Nat → Int32) (P : Option Value → AH → Prop), cT C K L I R → (I (C + 11) 4) ≤ (I (C + 11) 2) → (I (C + 11) 3) ≤ (I (C + 11) 4) → (∀ J, rq C K L R I J (xjo (I (C + 12)) (I (C + 11) 2) (xP (I (C + 12)) (I (C + 11) 2) z) y (I (C + 11) 4)) → P (some (.int (if ((xjo (I (C + 12)) (I (C + 11) 2) (xP (I (C + 12)) (I (C + 11) 2) z) y (I (C + 11) 4))).1 = true then (1 : Int32) else 0))) (n, t, K, L, J, R)) → a_does (E + 29) 77 [a_rf (C + 11), .int (l + 1), .int p] (n, t, K, L, I, R) P := fun I P r1 r2 r3 r4 => ihy (l + 1) p I (E + 29) P a2 (by omega) h0 h1 (by omega) r1 r2 r3 r4
    have hub := xjo_b (f := (I (C + 12))) (fun a => xP_b (f := (I (C + 12))) (e := (I (C + 11) 2)) z a) y (I (C + 11) 4) ha
    rw [a_enter1 (M := a_m77) rfl (a_cat_rf (a_cat_int (a_cat_int a_cat_nil))) (show 3 ≤ 5 by decide)]
    show a_at _ (a_xm a_m77) 0 [some (a_rf (C + 11)), some (.int l), some (.int p), none, none] [] _ _
    simp only [q77_0, q77_1, q77_2, q77_11, q77_12, q77_13, q77_14, q77_15, q77_16, k_11 hS, z_11, as_nil, as_i, as_r, Nat.reduceAdd, Nat.reduceLeDiff, z_eq0, z_eq1, z_or, z_em, Classical.not_not, not_false_eq_true, not_true_eq_false, true_and, and_true, false_and, and_false, and_self, true_implies, false_implies, implies_true, Option.toList_some, Option.toList_none, List.cons_append, List.nil_append, Nat.add_eq_zero_iff, a_nl_i, a_nl_r, a_nl_n, true_or, or_true, eq_self, a_isRA_22, a_isRA_24, a_isRA_32, a_isA_20, ok_4, ok_5, ok_6, ok_7, ok_9, ok_20, ok_21, ok_30, ok_50, ok_180, ok_192, ok_200, hc2]
    refine hr0 I _ hT ha hc (fun J hq => ?_)
    simp only [q77_19, q77_20, q77_21, as_nil, as_i, as_r, Nat.reduceAdd, Nat.reduceLeDiff, z_eq0, z_eq1, z_or, z_em, Classical.not_not, not_false_eq_true, not_true_eq_false, true_and, and_true, false_and, and_false, and_self, true_implies, false_implies, implies_true, Option.toList_some, Option.toList_none, List.cons_append, List.nil_append, Nat.add_eq_zero_iff, a_nl_i, a_nl_r, a_nl_n, true_or, or_true, eq_self, a_isRA_22, a_isRA_24, a_isRA_32, a_isA_20, ok_4, ok_5, ok_6, ok_7, ok_9, ok_20, ok_21, ok_30, ok_50, ok_180, ok_192, ok_200]
    exact le_readJoined_23 (y := y) hT ha hc ⟨l0, hc2⟩ (by omega) hr0 hP 0 (by decide) J _ (by decide) hq hub.2.1 rfl
theorem eRR : ∀ z, eRP C n t K L R z ∧ ∀ y, eRJ C n t K L R z y := by
  intro z
  induction z with
  | zero =>
    have h := eRP_step (C := C) (n := n) (t := t) (K := K) (L := L) (R := R) (z := 0) (fun w h => by omega)
    exact ⟨h, eRJ_step h⟩
  | succ z ih =>
    have h := eRP_step (C := C) (n := n) (t := t) (K := K) (L := L) (R := R) (z := z + 1) (fun w h => by
      obtain rfl : w = z := by omega
      exact ⟨ih.1, ih.2 3⟩)
    exact ⟨h, eRJ_step h⟩
theorem ce_readJoined (hT : cT C K L I R) (ha : (I (C + 11) 4) ≤ (I (C + 11) 2)) (hc : (I (C + 11) 3) ≤ (I (C + 11) 4)) (hP : ∀ J, rq C K L R I J (xR (I (C + 12)) (I (C + 11) 2) (I (C + 11) 4)) → P (some (.int (if ((xR (I (C + 12)) (I (C + 11) 2) (I (C + 11) 4))).1 = true then (1 : Int32) else 0))) (n, t, K, L, J, R)) : a_does (d + 60) 77 [a_rf (C + 11), .int 0, .int 0] (n, t, K, L, I, R) P := (eRR 4).2 3 0 0 I (d + 60) P (by decide) (by decide) (by decide) (by decide) (by omega) hT ha hc hP
theorem ce_read (hT : cT C K L I R) (hP : ∀ J, tq C K L R I J → J (C + 11) 4 = (xT (I (C + 12)) (I (C + 11) 2)).2.1 → ((xT (I (C + 12)) (I (C + 11) 2)).1 = true → ∀ fc, evK (J (C + 13)) fc 0 (J (C + 11) 3) ((xT (I (C + 12)) (I (C + 11) 2)).2.2 fc)) → P (some (.int (if (xT (I (C + 12)) (I (C + 11) 2)).1 = true then (1 : Int32) else 0))) (n, t, K, L, J, R)) : a_does (d + 61) 69 [a_rf (C + 11)] (n, t, K, L, I, R) P := by
  have hS := hT.s
  have g2 := hT.g_size
  have hT0 : cT C K L (a_ui (a_ui I (C + 11) 4 0) (C + 11) 3 0) R := sT_Tape_codeSize (sT_Tape_at hT (by decide)) (by decide)
  have hT1 : cT C K L (a_ui (a_ui (a_ui I (C + 11) 4 0) (C + 11) 3 0) (C + 11) 4 1) R := sT_Tape_at hT0 (by decide)
  have hT2 : cT C K L (a_ui (a_ui (a_ui (a_ui I (C + 11) 4 0) (C + 11) 3 0) (C + 11) 4 1) (C + 11) 4 2) R := sT_Tape_at hT1 (by decide)
  have t0 : tq C K L R I (a_ui (a_ui I (C + 11) 4 0) (C + 11) 3 0) := ⟨hT0, fun x j p q => by rw [ui_ap, if_neg (by omega), ui_ap, if_neg (by omega)]⟩
  have t1 : tq C K L R I (a_ui (a_ui (a_ui I (C + 11) 4 0) (C + 11) 3 0) (C + 11) 4 1) := ⟨hT1, fun x j p q => by rw [ui_ap, if_neg (by omega)]; exact t0.2 x j p q⟩
  have t2 : tq C K L R I (a_ui (a_ui (a_ui (a_ui I (C + 11) 4 0) (C + 11) 3 0) (C + 11) 4 1) (C + 11) 4 2) := ⟨hT2, fun x j p q => by rw [ui_ap, if_neg (by omega)]; exact t1.2 x j p q⟩
  have z0 : (0 : Int32).toNatClampNeg = 0 := rfl
  have z1 : (1 : Int32).toNatClampNeg = 1 := rfl
  have b0 : (a_ui (a_ui I (C + 11) 4 0) (C + 11) 3 0) (C + 12) = (I (C + 12)) := tq_12 t0
  have b1 : (a_ui (a_ui (a_ui I (C + 11) 4 0) (C + 11) 3 0) (C + 11) 4 1) (C + 12) = (I (C + 12)) := tq_12 t1
  have b2 : (a_ui (a_ui (a_ui (a_ui I (C + 11) 4 0) (C + 11) 3 0) (C + 11) 4 1) (C + 11) 4 2) (C + 12) = (I (C + 12)) := tq_12 t2
  have s0 : (a_ui (a_ui I (C + 11) 4 0) (C + 11) 3 0) (C + 11) 2 = (I (C + 11) 2) := tq_2 t0
  have s1 : (a_ui (a_ui (a_ui I (C + 11) 4 0) (C + 11) 3 0) (C + 11) 4 1) (C + 11) 2 = (I (C + 11) 2) := tq_2 t1
  have s2 : (a_ui (a_ui (a_ui (a_ui I (C + 11) 4 0) (C + 11) 3 0) (C + 11) 4 1) (C + 11) 4 2) (C + 11) 2 = (I (C + 11) 2) := tq_2 t2
  have a0 : (a_ui (a_ui I (C + 11) 4 0) (C + 11) 3 0) (C + 11) 4 = 0 := by rw [ui_ap, if_neg (by omega), ui_ap, if_pos ⟨rfl, rfl⟩]
  have a1 : (a_ui (a_ui (a_ui I (C + 11) 4 0) (C + 11) 3 0) (C + 11) 4 1) (C + 11) 4 = 1 := by rw [ui_ap, if_pos ⟨rfl, rfl⟩]
  have a2 : (a_ui (a_ui (a_ui (a_ui I (C + 11) 4 0) (C + 11) 3 0) (C + 11) 4 1) (C + 11) 4 2) (C + 11) 4 = 2 := by rw [ui_ap, if_pos ⟨rfl, rfl⟩]
  have k2 : (a_ui (a_ui (a_ui (a_ui I (C + 11) 4 0) (C + 11) 3 0) (C + 11) 4 1) (C + 11) 4 2) (C + 11) 3 = 0 := by rw [ui_ap, if_neg (by omega), ui_ap, if_neg (by omega), ui_ap, if_pos ⟨rfl, rfl⟩]
  have e01 : (0 : Int32) + 1 = 1 := rfl
  have e12 : (1 : Int32) + 1 = 2 := rfl
  have n10 : ¬ (1 : Int32) = 0 := by decide
  have hbad : ∀ (J : Nat → Nat → Int32) (a : Int32) (v : (Nat → Int32) → Int32), tq C K L R I J → J (C + 11) 4 = a → xT (I (C + 12)) (I (C + 11) 2) = (false, a, v) → P (some (.int 0)) (n, t, K, L, J, R) := fun J a v x1 x2 x3 => by
    have hp := hP J x1 (by rw [x3]; exact x2) (fun w => by rw [x3] at w; exact absurd w Bool.false_ne_true)
    rw [x3] at hp
    exact hp
  -- behind the sum or the rule
  have h82 : ∀ (J : Nat → Nat → Int32) (r : rdT) (sm : Int32), tq C K L R I J → J (C + 11) 4 = r.2.1 → (r.1 = true → ∀ fc, evK (J (C + 13)) fc 0 (J (C + 11) 3) (r.2.2 fc)) → xT (I (C + 12)) (I (C + 11) 2) = (if r.2.1 = (I (C + 11) 2) then r else (false, r.2.1, r.2.2)) → a_at (d + 60) (a_xm a_m69) 82 [some (a_rf (C + 11)), some (.int sm), none] [.int (if (r).1 = true then (1 : Int32) else 0)] (n, t, K, L, J, R) P := fun J r sm x1 x2 x3 x4 => by
    have hS := x1.1.s
    have es := tq_2 x1
    by_cases hr1 : r.1 = true
    · rw [if_pos hr1]
      simp only [q69_82, q69_83, q69_84, q69_87, q69_88, q69_91, q69_92, q69_95, k_11 hS, z_11, as_nil, as_i, as_r, Nat.reduceAdd, Nat.reduceLeDiff, z_eq0, z_eq1, z_or, z_em, Classical.not_not, not_false_eq_true, not_true_eq_false, true_and, and_true, false_and, and_false, and_self, true_implies, false_implies, implies_true, Option.toList_some, Option.toList_none, List.cons_append, List.nil_append, Nat.add_eq_zero_iff, a_nl_i, a_nl_r, a_nl_n, true_or, or_true, eq_self, a_isRA_22, a_isRA_24, a_isRA_32, a_isA_20, ok_4, ok_5, ok_6, ok_7, ok_9, ok_20, ok_21, ok_30, ok_50, ok_180, ok_192, ok_200, n10]
      by_cases he : r.2.1 = (I (C + 11) 2)
      · rw [if_pos he] at x4
        have hp := hP J x1 (by rw [x4]; exact x2) (by rw [x4]; exact x3)
        rw [x4, if_pos hr1] at hp
        have hh : J (C + 11) 4 = J (C + 11) 2 := by rw [x2, es, he]
        simp only [q69_98, q69_99, q69_103, as_nil, as_i, as_r, Nat.reduceAdd, Nat.reduceLeDiff, z_eq0, z_eq1, z_or, z_em, Classical.not_not, not_false_eq_true, not_true_eq_false, true_and, and_true, false_and, and_false, and_self, true_implies, false_implies, implies_true, Option.toList_some, Option.toList_none, List.cons_append, List.nil_append, Nat.add_eq_zero_iff, a_nl_i, a_nl_r, a_nl_n, true_or, or_true, eq_self, a_isRA_22, a_isRA_24, a_isRA_32, a_isA_20, ok_4, ok_5, ok_6, ok_7, ok_9, ok_20, ok_21, ok_30, ok_50, ok_180, ok_192, ok_200, hh]
        first
          | exact hp
          | exact ⟨fun z => absurd rfl z, fun _ => hp⟩
          | exact ⟨fun z => z.elim, fun _ => hp⟩
      · rw [if_neg he] at x4
        have hp := hbad J _ _ x1 x2 x4
        have hh : ¬ J (C + 11) 4 = J (C + 11) 2 := by rw [x2, es]; exact he
        simp only [q69_102, q69_103, as_nil, as_i, as_r, Nat.reduceAdd, Nat.reduceLeDiff, z_eq0, z_eq1, z_or, z_em, Classical.not_not, not_false_eq_true, not_true_eq_false, true_and, and_true, false_and, and_false, and_self, true_implies, false_implies, implies_true, Option.toList_some, Option.toList_none, List.cons_append, List.nil_append, Nat.add_eq_zero_iff, a_nl_i, a_nl_r, a_nl_n, true_or, or_true, eq_self, a_isRA_22, a_isRA_24, a_isRA_32, a_isA_20, ok_4, ok_5, ok_6, ok_7, ok_9, ok_20, ok_21, ok_30, ok_50, ok_180, ok_192, ok_200, hh]
        first
          | exact hp
          | exact ⟨fun _ => hp, fun z => absurd trivial z⟩
    · rw [if_neg hr1]
      have x5 : ∃ v, xT (I (C + 12)) (I (C + 11) 2) = (false, r.2.1, v) := by
        refine ⟨r.2.2, ?_⟩
        rw [x4]
        split
        · have : r.1 = false := by cases h : r.1; rfl; exact absurd h hr1
          rw [← this]
        · rfl
      obtain ⟨v, x5⟩ := x5
      have hp := hbad J _ _ x1 x2 x5
      simp only [q69_82, q69_83, q69_84, q69_102, q69_103, as_nil, as_i, as_r, Nat.reduceAdd, Nat.reduceLeDiff, z_eq0, z_eq1, z_or, z_em, Classical.not_not, not_false_eq_true, not_true_eq_false, true_and, and_true, false_and, and_false, and_self, true_implies, false_implies, implies_true, Option.toList_some, Option.toList_none, List.cons_append, List.nil_append, Nat.add_eq_zero_iff, a_nl_i, a_nl_r, a_nl_n, true_or, or_true, eq_self, a_isRA_22, a_isRA_24, a_isRA_32, a_isA_20, ok_4, ok_5, ok_6, ok_7, ok_9, ok_20, ok_21, ok_30, ok_50, ok_180, ok_192, ok_200]
      first
        | exact hp
        | exact ⟨fun _ => hp, fun z => absurd rfl z⟩
  -- behind the letter
  have h54 : 0 < (I (C + 11) 2) → ∀ sm : Int32, ((sm = 1 ∧ (I (C + 12)) 0 = 79) ∨ (sm = 0 ∧ ¬ (I (C + 12)) 0 = 79 ∧ ((I (C + 12)) 0 = 66 ∨ (I (C + 12)) 0 = 87))) → a_at (d + 60) (a_xm a_m69) 54 [some (a_rf (C + 11)), some (.int sm), none] [] (n, t, K, L, (a_ui (a_ui (a_ui I (C + 11) 4 0) (C + 11) 3 0) (C + 11) 4 1), R) P := fun l0 sm hsm => by
    have hS := hT1.s
    have hlet : 0 < (I (C + 11) 2) ∧ ((I (C + 12)) 0 = 66 ∨ (I (C + 12)) 0 = 87 ∨ (I (C + 12)) 0 = 79) := ⟨l0, hsm.elim (fun q => Or.inr (Or.inr q.2)) (fun q => q.2.2.elim Or.inl (fun w => Or.inr (Or.inl w)))⟩
    simp only [q69_54, q69_55, q69_57, k_11 hS, z_11, as_nil, as_i, as_r, Nat.reduceAdd, Nat.reduceLeDiff, z_eq0, z_eq1, z_or, z_em, Classical.not_not, not_false_eq_true, not_true_eq_false, true_and, and_true, false_and, and_false, and_self, true_implies, false_implies, implies_true, Option.toList_some, Option.toList_none, List.cons_append, List.nil_append, Nat.add_eq_zero_iff, a_nl_i, a_nl_r, a_nl_n, true_or, or_true, eq_self, a_isRA_22, a_isRA_24, a_isRA_32, a_isA_20, ok_4, ok_5, ok_6, ok_7, ok_9, ok_20, ok_21, ok_30, ok_50, ok_180, ok_192, ok_200]
    refine ce_skip hT1 (by decide) (fun nq => ?_) (fun q1 q2 hT3 => ?_)
    · rw [b1, s1, a1, z1] at nq
      have hp := hbad _ 1 (fun _ => 0) t1 a1 (by unfold xT; rw [if_pos hlet, if_neg nq])
      simp only [q69_60, q69_63, q69_64, as_nil, as_i, as_r, Nat.reduceAdd, Nat.reduceLeDiff, z_eq0, z_eq1, z_or, z_em, Classical.not_not, not_false_eq_true, not_true_eq_false, true_and, and_true, false_and, and_false, and_self, true_implies, false_implies, implies_true, Option.toList_some, Option.toList_none, List.cons_append, List.nil_append, Nat.add_eq_zero_iff, a_nl_i, a_nl_r, a_nl_n, true_or, or_true, eq_self, a_isRA_22, a_isRA_24, a_isRA_32, a_isA_20, ok_4, ok_5, ok_6, ok_7, ok_9, ok_20, ok_21, ok_30, ok_50, ok_180, ok_192, ok_200]
      first
        | exact hp
        | exact ⟨fun z => absurd rfl z, fun _ => hp⟩
    · rw [s1, a1] at q1
      rw [b1, a1, z1] at q2
      rw [a1, e12]
      have m2 : (2 : Int32) ≤ (I (C + 11) 2) := by clear hP hbad h82 hT hT0 hT1 hT2 hT3 t0 t1 t2 b0 b1 b2 s0 s1 s2 a0 a1 a2 k2 hsm hlet; grind
      have ha2 : (a_ui (a_ui (a_ui (a_ui I (C + 11) 4 0) (C + 11) 3 0) (C + 11) 4 1) (C + 11) 4 2) (C + 11) 4 ≤ (a_ui (a_ui (a_ui (a_ui I (C + 11) 4 0) (C + 11) 3 0) (C + 11) 4 1) (C + 11) 4 2) (C + 11) 2 := by rw [a2, s2]; exact m2
      have hk2 : (a_ui (a_ui (a_ui (a_ui I (C + 11) 4 0) (C + 11) 3 0) (C + 11) 4 1) (C + 11) 4 2) (C + 11) 3 ≤ (a_ui (a_ui (a_ui (a_ui I (C + 11) 4 0) (C + 11) 3 0) (C + 11) 4 1) (C + 11) 4 2) (C + 11) 4 := by rw [k2, a2]; decide
      have hcode : ∀ (J : Nat → Nat → Int32) (r : rdT), rq C K L R (a_ui (a_ui (a_ui (a_ui I (C + 11) 4 0) (C + 11) 3 0) (C + 11) 4 1) (C + 11) 4 2) J r → tq C K L R I J ∧ J (C + 11) 4 = r.2.1 ∧ (r.1 = true → ∀ fc, evK (J (C + 13)) fc 0 (J (C + 11) 3) (r.2.2 fc)) := fun J r hq => ⟨tq_tr t2 hq.1, hq.2.1, fun w fc => by
        have := (hq.2.2 w).2.2 fc
        rw [k2] at this
        exact this⟩
      rcases hsm with hsm | hsm
      · have hr : xT (I (C + 12)) (I (C + 11) 2) = if (xS (I (C + 12)) (I (C + 11) 2) 2).2.1 = (I (C + 11) 2) then xS (I (C + 12)) (I (C + 11) 2) 2 else (false, (xS (I (C + 12)) (I (C + 11) 2) 2).2.1, (xS (I (C + 12)) (I (C + 11) 2) 2).2.2) := by
          unfold xT
          rw [if_pos hlet, if_pos ⟨q1, q2⟩, if_pos hsm.2]
        rw [hsm.1]
        simp only [q69_60, q69_65, q69_66, q69_69, q69_70, k_11 hS, z_11, as_nil, as_i, as_r, Nat.reduceAdd, Nat.reduceLeDiff, z_eq0, z_eq1, z_or, z_em, Classical.not_not, not_false_eq_true, not_true_eq_false, true_and, and_true, false_and, and_false, and_self, true_implies, false_implies, implies_true, Option.toList_some, Option.toList_none, List.cons_append, List.nil_append, Nat.add_eq_zero_iff, a_nl_i, a_nl_r, a_nl_n, true_or, or_true, eq_self, a_isRA_22, a_isRA_24, a_isRA_32, a_isA_20, ok_4, ok_5, ok_6, ok_7, ok_9, ok_20, ok_21, ok_30, ok_50, ok_180, ok_192, ok_200, n10]
        refine ce_readSum (d := d + 56) hT2 ha2 hk2 (fun J hq => ?_)
        rw [b2, s2, a2] at hq ⊢
        obtain ⟨y1, y2, y3⟩ := hcode J _ hq
        simp only [q69_73, as_nil, as_i, as_r, Nat.reduceAdd, Nat.reduceLeDiff, z_eq0, z_eq1, z_or, z_em, Classical.not_not, not_false_eq_true, not_true_eq_false, true_and, and_true, false_and, and_false, and_self, true_implies, false_implies, implies_true, Option.toList_some, Option.toList_none, List.cons_append, List.nil_append, Nat.add_eq_zero_iff, a_nl_i, a_nl_r, a_nl_n, true_or, or_true, eq_self, a_isRA_22, a_isRA_24, a_isRA_32, a_isA_20, ok_4, ok_5, ok_6, ok_7, ok_9, ok_20, ok_21, ok_30, ok_50, ok_180, ok_192, ok_200]
        exact h82 J _ 1 y1 y2 y3 hr
      · have hr : xT (I (C + 12)) (I (C + 11) 2) = if (xR (I (C + 12)) (I (C + 11) 2) 2).2.1 = (I (C + 11) 2) then xR (I (C + 12)) (I (C + 11) 2) 2 else (false, (xR (I (C + 12)) (I (C + 11) 2) 2).2.1, (xR (I (C + 12)) (I (C + 11) 2) 2).2.2) := by
          unfold xT
          rw [if_pos hlet, if_pos ⟨q1, q2⟩, if_neg hsm.2.1]
        rw [hsm.1]
        simp only [q69_60, q69_65, q69_66, q69_76, q69_77, q69_78, q69_79, k_11 hS, z_11, as_nil, as_i, as_r, Nat.reduceAdd, Nat.reduceLeDiff, z_eq0, z_eq1, z_or, z_em, Classical.not_not, not_false_eq_true, not_true_eq_false, true_and, and_true, false_and, and_false, and_self, true_implies, false_implies, implies_true, Option.toList_some, Option.toList_none, List.cons_append, List.nil_append, Nat.add_eq_zero_iff, a_nl_i, a_nl_r, a_nl_n, true_or, or_true, eq_self, a_isRA_22, a_isRA_24, a_isRA_32, a_isA_20, ok_4, ok_5, ok_6, ok_7, ok_9, ok_20, ok_21, ok_30, ok_50, ok_180, ok_192, ok_200, n10]
        refine ce_readJoined hT2 ha2 hk2 (fun J hq => ?_)
        rw [b2, s2, a2] at hq ⊢
        obtain ⟨y1, y2, y3⟩ := hcode J _ hq
        exact h82 J _ 0 y1 y2 y3 hr
  -- no such letter
  have hno : ¬ (0 < (I (C + 11) 2) ∧ ((I (C + 12)) 0 = 66 ∨ (I (C + 12)) 0 = 87 ∨ (I (C + 12)) 0 = 79)) → P (some (.int 0)) (n, t, K, L, (a_ui (a_ui I (C + 11) 4 0) (C + 11) 3 0), R) := fun w => hbad _ 0 (fun _ => 0) t0 a0 (by unfold xT; rw [if_neg w])
  have hsk : ∀ sm : Int32, ((sm = 1 ∧ 0 < (I (C + 11) 2) ∧ (I (C + 12)) 0 = 79) ∨ (sm = 0 ∧ ¬ (0 < (I (C + 11) 2) ∧ (I (C + 12)) 0 = 79))) → a_at (d + 60) (a_xm a_m69) 24 [some (a_rf (C + 11)), none, none] [.int sm] (n, t, K, L, (a_ui (a_ui I (C + 11) 4 0) (C + 11) 3 0), R) P := fun sm hsm => by
    have hS := hT0.s
    simp only [q69_24, q69_25, q69_26, q69_28, k_11 hS, z_11, as_nil, as_i, as_r, Nat.reduceAdd, Nat.reduceLeDiff, z_eq0, z_eq1, z_or, z_em, Classical.not_not, not_false_eq_true, not_true_eq_false, true_and, and_true, false_and, and_false, and_self, true_implies, false_implies, implies_true, Option.toList_some, Option.toList_none, List.cons_append, List.nil_append, Nat.add_eq_zero_iff, a_nl_i, a_nl_r, a_nl_n, true_or, or_true, eq_self, a_isRA_22, a_isRA_24, a_isRA_32, a_isA_20, ok_4, ok_5, ok_6, ok_7, ok_9, ok_20, ok_21, ok_30, ok_50, ok_180, ok_192, ok_200]
    refine ce_skip hT0 (by decide) (fun nq => ?_) (fun q1 q2 hT3 => ?_)
    · rw [b0, s0, a0, z0] at nq
      have sm0 := hsm.resolve_left (fun w => nq w.2)
      simp only [q69_31, q69_34, q69_35, q69_37, k_11 hS, z_11, as_nil, as_i, as_r, Nat.reduceAdd, Nat.reduceLeDiff, z_eq0, z_eq1, z_or, z_em, Classical.not_not, not_false_eq_true, not_true_eq_false, true_and, and_true, false_and, and_false, and_self, true_implies, false_implies, implies_true, Option.toList_some, Option.toList_none, List.cons_append, List.nil_append, Nat.add_eq_zero_iff, a_nl_i, a_nl_r, a_nl_n, true_or, or_true, eq_self, a_isRA_22, a_isRA_24, a_isRA_32, a_isA_20, ok_4, ok_5, ok_6, ok_7, ok_9, ok_20, ok_21, ok_30, ok_50, ok_180, ok_192, ok_200, n10]
      refine ce_skip hT0 (by decide) (fun nq2 => ?_) (fun q1 q2 hT3 => ?_)
      · rw [b0, s0, a0, z0] at nq2
        simp only [q69_40, q69_43, q69_44, q69_46, k_11 hS, z_11, as_nil, as_i, as_r, Nat.reduceAdd, Nat.reduceLeDiff, z_eq0, z_eq1, z_or, z_em, Classical.not_not, not_false_eq_true, not_true_eq_false, true_and, and_true, false_and, and_false, and_self, true_implies, false_implies, implies_true, Option.toList_some, Option.toList_none, List.cons_append, List.nil_append, Nat.add_eq_zero_iff, a_nl_i, a_nl_r, a_nl_n, true_or, or_true, eq_self, a_isRA_22, a_isRA_24, a_isRA_32, a_isA_20, ok_4, ok_5, ok_6, ok_7, ok_9, ok_20, ok_21, ok_30, ok_50, ok_180, ok_192, ok_200, n10]
        refine ce_skip hT0 (by decide) (fun nq3 => ?_) (fun q1 q2 hT3 => ?_)
        · rw [b0, s0, a0, z0] at nq3
          have hp := hno (fun w => w.2.elim (fun x => nq2 ⟨w.1, x⟩) (fun y => y.elim (fun x => nq3 ⟨w.1, x⟩) (fun x => nq ⟨w.1, x⟩)))
          simp only [q69_49, q69_52, q69_53, as_nil, as_i, as_r, Nat.reduceAdd, Nat.reduceLeDiff, z_eq0, z_eq1, z_or, z_em, Classical.not_not, not_false_eq_true, not_true_eq_false, true_and, and_true, false_and, and_false, and_self, true_implies, false_implies, implies_true, Option.toList_some, Option.toList_none, List.cons_append, List.nil_append, Nat.add_eq_zero_iff, a_nl_i, a_nl_r, a_nl_n, true_or, or_true, eq_self, a_isRA_22, a_isRA_24, a_isRA_32, a_isA_20, ok_4, ok_5, ok_6, ok_7, ok_9, ok_20, ok_21, ok_30, ok_50, ok_180, ok_192, ok_200, n10]
          exact hp
        · rw [s0, a0] at q1
          rw [b0, a0, z0] at q2
          rw [a0, e01]
          simp only [q69_49, as_nil, as_i, as_r, Nat.reduceAdd, Nat.reduceLeDiff, z_eq0, z_eq1, z_or, z_em, Classical.not_not, not_false_eq_true, not_true_eq_false, true_and, and_true, false_and, and_false, and_self, true_implies, false_implies, implies_true, Option.toList_some, Option.toList_none, List.cons_append, List.nil_append, Nat.add_eq_zero_iff, a_nl_i, a_nl_r, a_nl_n, true_or, or_true, eq_self, a_isRA_22, a_isRA_24, a_isRA_32, a_isA_20, ok_4, ok_5, ok_6, ok_7, ok_9, ok_20, ok_21, ok_30, ok_50, ok_180, ok_192, ok_200, n10]
          exact h54 q1 sm (Or.inr ⟨sm0.1, fun w => nq ⟨q1, w⟩, Or.inr q2⟩)
      · rw [s0, a0] at q1
        rw [b0, a0, z0] at q2
        rw [a0, e01]
        simp only [q69_40, as_nil, as_i, as_r, Nat.reduceAdd, Nat.reduceLeDiff, z_eq0, z_eq1, z_or, z_em, Classical.not_not, not_false_eq_true, not_true_eq_false, true_and, and_true, false_and, and_false, and_self, true_implies, false_implies, implies_true, Option.toList_some, Option.toList_none, List.cons_append, List.nil_append, Nat.add_eq_zero_iff, a_nl_i, a_nl_r, a_nl_n, true_or, or_true, eq_self, a_isRA_22, a_isRA_24, a_isRA_32, a_isA_20, ok_4, ok_5, ok_6, ok_7, ok_9, ok_20, ok_21, ok_30, ok_50, ok_180, ok_192, ok_200, n10]
        exact h54 q1 sm (Or.inr ⟨sm0.1, fun w => nq ⟨q1, w⟩, Or.inl q2⟩)
    · rw [s0, a0] at q1
      rw [b0, a0, z0] at q2
      rw [a0, e01]
      have sm1 := hsm.resolve_right (fun w => w.2 ⟨q1, q2⟩)
      simp only [q69_31, as_nil, as_i, as_r, Nat.reduceAdd, Nat.reduceLeDiff, z_eq0, z_eq1, z_or, z_em, Classical.not_not, not_false_eq_true, not_true_eq_false, true_and, and_true, false_and, and_false, and_self, true_implies, false_implies, implies_true, Option.toList_some, Option.toList_none, List.cons_append, List.nil_append, Nat.add_eq_zero_iff, a_nl_i, a_nl_r, a_nl_n, true_or, or_true, eq_self, a_isRA_22, a_isRA_24, a_isRA_32, a_isA_20, ok_4, ok_5, ok_6, ok_7, ok_9, ok_20, ok_21, ok_30, ok_50, ok_180, ok_192, ok_200, n10]
      exact h54 q1 sm (Or.inl ⟨sm1.1, q2⟩)
  rw [a_enter1 (M := a_m69) rfl (a_cat_rf a_cat_nil) (show 1 ≤ 3 by decide)]
  show a_at _ (a_xm a_m69) 0 [some (a_rf (C + 11)), none, none] [] _ _
  simp only [q69_0, q69_1, q69_2, q69_5, q69_6, q69_7, q69_10, q69_11, k_11 hS, z_11, as_nil, as_i, as_r, Nat.reduceAdd, Nat.reduceLeDiff, z_eq0, z_eq1, z_or, z_em, Classical.not_not, not_false_eq_true, not_true_eq_false, true_and, and_true, false_and, and_false, and_self, true_implies, false_implies, implies_true, Option.toList_some, Option.toList_none, List.cons_append, List.nil_append, Nat.add_eq_zero_iff, a_nl_i, a_nl_r, a_nl_n, true_or, or_true, eq_self, a_isRA_22, a_isRA_24, a_isRA_32, a_isA_20, ok_4, ok_5, ok_6, ok_7, ok_9, ok_20, ok_21, ok_30, ok_50, ok_180, ok_192, ok_200]
  refine ce_next hT0 (fun c2 => ?_) (fun c2 => ?_)
  · rw [s0, a0] at c2
    rw [b0, a0, z0]
    by_cases c79 : (I (C + 12)) 0 = 79
    · have h24 := hsk 1 (Or.inl ⟨rfl, c2, c79⟩)
      rw [c79]
      simp only [q69_14, q69_16, q69_19, q69_20, q69_23, as_nil, as_i, as_r, Nat.reduceAdd, Nat.reduceLeDiff, z_eq0, z_eq1, z_or, z_em, Classical.not_not, not_false_eq_true, not_true_eq_false, true_and, and_true, false_and, and_false, and_self, true_implies, false_implies, implies_true, Option.toList_some, Option.toList_none, List.cons_append, List.nil_append, Nat.add_eq_zero_iff, a_nl_i, a_nl_r, a_nl_n, true_or, or_true, eq_self, a_isRA_22, a_isRA_24, a_isRA_32, a_isA_20, ok_4, ok_5, ok_6, ok_7, ok_9, ok_20, ok_21, ok_30, ok_50, ok_180, ok_192, ok_200]
      first
        | exact h24
        | exact ⟨fun z => absurd rfl z, fun _ => h24⟩
    · have h24 := hsk 0 (Or.inr ⟨rfl, fun w => c79 w.2⟩)
      simp only [q69_14, q69_16, q69_19, q69_20, q69_23, as_nil, as_i, as_r, Nat.reduceAdd, Nat.reduceLeDiff, z_eq0, z_eq1, z_or, z_em, Classical.not_not, not_false_eq_true, not_true_eq_false, true_and, and_true, false_and, and_false, and_self, true_implies, false_implies, implies_true, Option.toList_some, Option.toList_none, List.cons_append, List.nil_append, Nat.add_eq_zero_iff, a_nl_i, a_nl_r, a_nl_n, true_or, or_true, eq_self, a_isRA_22, a_isRA_24, a_isRA_32, a_isA_20, ok_4, ok_5, ok_6, ok_7, ok_9, ok_20, ok_21, ok_30, ok_50, ok_180, ok_192, ok_200, c79]
      first
        | exact h24
        | exact ⟨fun _ => h24, fun z => absurd trivial z⟩
  · rw [s0, a0] at c2
    have h24 := hsk 0 (Or.inr ⟨rfl, fun w => c2 w.1⟩)
    have n79 : ¬ (-9 : Int32) = 79 := by decide
    simp only [q69_14, q69_16, q69_19, q69_20, q69_23, as_nil, as_i, as_r, Nat.reduceAdd, Nat.reduceLeDiff, z_eq0, z_eq1, z_or, z_em, Classical.not_not, not_false_eq_true, not_true_eq_false, true_and, and_true, false_and, and_false, and_self, true_implies, false_implies, implies_true, Option.toList_some, Option.toList_none, List.cons_append, List.nil_append, Nat.add_eq_zero_iff, a_nl_i, a_nl_r, a_nl_n, true_or, or_true, eq_self, a_isRA_22, a_isRA_24, a_isRA_32, a_isA_20, ok_4, ok_5, ok_6, ok_7, ok_9, ok_20, ok_21, ok_30, ok_50, ok_180, ok_192, ok_200, n79]
    first
      | exact h24
      | exact ⟨fun _ => h24, fun z => absurd trivial z⟩
end KY

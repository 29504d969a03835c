/-! the model's cells: Y k j is cell j of the reference's k-th row (0: its own) -/
def yv (M : Nat) (J : Nat → Nat → Int32) : Nat → Nat → Int32 := fun k j => J (M + k) j
/-- a READER's mark of an ASK that counts, -9 without -/
def cmY (Y : Nat → Nat → Int32) (r a : Int32) : Int32 := if Y 38 (30 * r + a).toNatClampNeg = 0 then -9 else Y 36 (30 * r + a).toNatClampNeg
/-- over the others' marks of an ASK -/
def fdI {α : Type} (g : Int32 → Int32 → Int32) (st : α → Int32 → α) (r a : Int32) : Nat → Int32 → α → α
  | 0, _, p => p
  | k + 1, o, p => fdI g st r a k (o + 1) (if ¬ o = r ∧ ¬ g r a = -9 ∧ ¬ g o a = -9 then st p (g r a - g o a) else p)
def fdO {α : Type} (g : Int32 → Int32 → Int32) (st : α → Int32 → α) (r : Int32) : Nat → Int32 → α → α
  | 0, _, p => p
  | k + 1, a, p => fdO g st r k (a + 1) (fdI g st r a 6 0 p)
theorem fdI_no {α : Type} {g : Int32 → Int32 → Int32} {st : α → Int32 → α} {r a : Int32} (h : g r a = -9) : ∀ (k : Nat) (o : Int32) (p : α), fdI g st r a k o p = p := by
  intro k
  induction k with
  | zero => intro o p; rfl
  | succ k ih =>
    intro o p
    unfold fdI
    rw [if_neg (fun w => w.2.1 h)]
    exact ih _ _
def hbS (p : Int32 × Int32) (d : Int32) : Int32 × Int32 := (p.1 + d, p.2 + 1)
/-- HABIT -/
def hbY (g : Int32 → Int32 → Int32) (n r : Int32) : Int32 := if (fdO g hbS r n.toNatClampNeg 0 (0, 0)).2 = 0 then 0 else if 0 ≤ (fdO g hbS r n.toNatClampNeg 0 (0, 0)).1 then (fdO g hbS r n.toNatClampNeg 0 (0, 0)).1 / (fdO g hbS r n.toNatClampNeg 0 (0, 0)).2 else -(((fdO g hbS r n.toNatClampNeg 0 (0, 0)).2 - 1 - (fdO g hbS r n.toNatClampNeg 0 (0, 0)).1) / (fdO g hbS r n.toNatClampNeg 0 (0, 0)).2)
section YA
variable {d n t M : Nat} {K L : Nat → Nat} {I I0 J J0 J1 J2 : Nat → Nat → Int32} {R : Nat → Nat → Nat} {P : Option Value → AH → Prop} {f : Nat → Int32} {e : Int32}
/-- marks that count are marks -/
def mkP (Y : Nat → Nat → Int32) : Prop := ∀ k, ¬ Y 38 k = 0 → 0 ≤ Y 36 k ∧ Y 36 k ≤ 100
theorem cmY_no {Y : Nat → Nat → Int32} (h : mkP Y) {r a : Int32} : (cmY Y r a = -9) = (Y 38 (30 * r + a).toNatClampNeg = 0) := by
  unfold cmY
  refine propext ⟨fun q => ?_, fun q => by rw [if_pos q]⟩
  refine Classical.byContradiction (fun w => ?_)
  rw [if_neg w] at q
  have := (h _ w).1
  rw [q] at this
  exact absurd this (by decide)
theorem xt_habitOf_19 (hS : m_S M K L R) (hm : mkP (yv M I)) {r a : Int32} (hr : 0 ≤ r ∧ r ≤ 5) (ha : 0 ≤ a ∧ a < 30) {V : Int32 × Int32} (hC : ∀ o, a_at d (a_xm a_m194) 101 [some (a_rf M), some (.int r), some (.int (V.1)), some (.int (V.2)), some (.int a), some (.int o)] [] (n, t, K, L, I, R) P) : ∀ o : Int32, o ≤ 6 → ∀ s q, 0 ≤ o → fdI (cmY (yv M I)) hbS r a (6 - o.toNatClampNeg) o (s, q) = V → a_at d (a_xm a_m194) 19 [some (a_rf M), some (.int r), some (.int s), some (.int q), some (.int a), some (.int o)] [] (n, t, K, L, I, R) P := by
  refine up_ind 6 (fun o ho ih => ?_)
  intro s q h0 hV
  have er := cmY_no (r := r) (a := a) hm
  have eo := cmY_no (r := o) (a := a) hm
  have hexit : (¬ o < 6 ∨ I (M + 38) (30 * r + a).toNatClampNeg = 0) → a_at d (a_xm a_m194) 101 [some (a_rf M), some (.int r), some (.int s), some (.int q), some (.int a), some (.int o)] [] (n, t, K, L, I, R) P := fun w => by
    have hVe : V = (s, q) := by
      rw [← hV]
      by_cases c : o < 6
      · exact fdI_no (by rw [er]; exact w.resolve_left (fun z => z c)) _ _ _
      · have : o = 6 := by clear ih hC hV hm er eo; grind
        subst this
        rfl
    have hc := hC o
    rw [hVe] at hc
    exact hc
  have hst : o < 6 → ∀ p, (p = if ¬ o = r ∧ ¬ cmY (yv M I) r a = -9 ∧ ¬ cmY (yv M I) o a = -9 then hbS (s, q) (cmY (yv M I) r a - cmY (yv M I) o a) else (s, q)) → a_at d (a_xm a_m194) 19 [some (a_rf M), some (.int r), some (.int (p.1)), some (.int (p.2)), some (.int a), some (.int (o + 1))] [] (n, t, K, L, I, R) P := fun c p hp => by
    have i3 : o.toNatClampNeg < 6 := show _ < (6 : Int32).toNatClampNeg from cl_lt h0 c
    have ei : (o + 1).toNatClampNeg = o.toNatClampNeg + 1 := cl_up h0 (by clear ih hC hV hm er eo hp; grind)
    refine ih c p.1 p.2 (by clear ih hC hV hm er eo hp; grind) ?_
    rw [← hV, ei, show 6 - o.toNatClampNeg = (6 - (o.toNatClampNeg + 1)) + 1 by omega]
    conv => rhs; unfold fdI
    rw [← hp]
  have hgo1 : o < 6 → ¬ I (M + 38) (30 * r + a).toNatClampNeg = 0 → ¬ o = r → ¬ I (M + 38) (30 * o + a).toNatClampNeg = 0 → a_at d (a_xm a_m194) 19 [some (a_rf M), some (.int r), some (.int (s + (I (M + 36) (30 * r + a).toNatClampNeg - I (M + 36) (30 * o + a).toNatClampNeg))), some (.int (q + 1)), some (.int a), some (.int (o + 1))] [] (n, t, K, L, I, R) P := fun c1 c2 c3 c4 => by
    have := hst c1 (hbS (s, q) (cmY (yv M I) r a - cmY (yv M I) o a)) (by rw [if_pos ⟨c3, by rw [er]; exact c2, by rw [eo]; exact c4⟩])
    have e1 : cmY (yv M I) r a = I (M + 36) (30 * r + a).toNatClampNeg := if_neg c2
    have e2 : cmY (yv M I) o a = I (M + 36) (30 * o + a).toNatClampNeg := if_neg c4
    rw [e1, e2] at this
    exact this
  have hgo0 : o < 6 → (o = r ∨ I (M + 38) (30 * o + a).toNatClampNeg = 0) → a_at d (a_xm a_m194) 19 [some (a_rf M), some (.int r), some (.int s), some (.int q), some (.int a), some (.int (o + 1))] [] (n, t, K, L, I, R) P := fun c1 c2 => by
    exact hst c1 (s, q) (by rw [if_neg (fun w => c2.elim w.1 (fun z => w.2.2 (by rw [eo]; exact z)))])
  clear ih hC hV hst er eo hm
  rw [q194_19]
  repeat' first
    | with_reducible apply And.intro
    | with_reducible assumption
    | with_reducible intro _
    | refine hexit ?_
    | refine hgo1 ?_ ?_ ?_ ?_
    | refine hgo0 ?_ ?_
    | simp only [q194_21, q194_23, q194_26, q194_27, q194_30, q194_32, q194_33, q194_34, q194_36, q194_37, q194_38, q194_41, q194_43, q194_44, q194_47, q194_48, q194_51, q194_53, q194_55, q194_56, q194_58, q194_59, q194_60, q194_63, q194_64, q194_65, q194_68, q194_70, q194_71, q194_72, q194_74, q194_75, q194_76, q194_77, q194_80, q194_82, q194_84, q194_85, q194_87, q194_88, q194_89, q194_90, q194_91, q194_92, q194_95, q194_98, m_0 hS, m_K hS, mR_doesCount hS, mK_doesCount hS, mL_doesCount hS, mR_marks hS, mK_marks hS, mL_marks hS, as_nil, as_i, as_r, Nat.reduceAdd, Nat.reduceLeDiff, z_eq0, z_eq1, z_or, z_em, Classical.not_not, not_false_eq_true, not_true_eq_false, true_and, and_true, false_and, and_false, and_self, true_implies, false_implies, implies_true, Option.toList_some, Option.toList_none, List.cons_append, List.nil_append, Nat.add_eq_zero_iff, a_nl_i, a_nl_r, a_nl_n, true_or, or_true, eq_self, ok_4, ok_5, ok_6, ok_7, ok_9, ok_10, ok_20, ok_21, ok_24, ok_30, ok_48, ok_50, ok_60, ok_80, ok_120, ok_180, ok_192, ok_200, ok_900, ok_1000, ok_84000]
  all_goals ((try clear hexit); (try clear hgo1); (try clear hgo0); (try clear hS); grind [ui_ap])
theorem xt_habitOf_7 (hS : m_S M K L R) (hR : mR M I) (hm : mkP (yv M I)) {r : Int32} (hr : 0 ≤ r ∧ r ≤ 5) {V : Int32 × Int32} (hC : ∀ a o, a_at d (a_xm a_m194) 107 [some (a_rf M), some (.int r), some (.int (V.1)), some (.int (V.2)), some (.int a), o] [] (n, t, K, L, I, R) P) : ∀ a : Int32, a ≤ 30 → ∀ s q o, 0 ≤ a → a ≤ I M 17 → fdO (cmY (yv M I)) hbS r ((I M 17).toNatClampNeg - a.toNatClampNeg) a (s, q) = V → a_at d (a_xm a_m194) 7 [some (a_rf M), some (.int r), some (.int s), some (.int q), some (.int a), o] [] (n, t, K, L, I, R) P := by
  refine up_ind 30 (fun a ha ih => ?_)
  intro s q o h0 h1 hV
  have g1 := rg_asks hR
  have hexit : ¬ a < I M 17 → a_at d (a_xm a_m194) 107 [some (a_rf M), some (.int r), some (.int s), some (.int q), some (.int a), o] [] (n, t, K, L, I, R) P := fun w => by
    have ea : a = I M 17 := by clear ih hC hV hm; grind
    have hVe : V = (s, q) := by
      rw [← hV, ea, Nat.sub_self]
      rfl
    have hc := hC a o
    rw [hVe] at hc
    exact hc
  have hgo : a < I M 17 → a_at d (a_xm a_m194) 19 [some (a_rf M), some (.int r), some (.int s), some (.int q), some (.int a), some (.int 0)] [] (n, t, K, L, I, R) P := fun c => by
    have i3 := cl_lt h0 c
    have a30 : a < 30 := by clear ih hC hV hm hexit; grind
    have ei : (a + 1).toNatClampNeg = a.toNatClampNeg + 1 := cl_up h0 (by clear ih hC hV hm hexit; grind)
    refine xt_habitOf_19 hS hm hr ⟨h0, a30⟩ (V := fdI (cmY (yv M I)) hbS r a 6 0 (s, q)) (fun o => ?_) 0 (by decide) s q (by decide) rfl
    simp only [q194_101, q194_104, as_nil, as_i, as_r, Nat.reduceAdd, Nat.reduceLeDiff, z_eq0, z_eq1, z_or, z_em, Classical.not_not, not_false_eq_true, not_true_eq_false, true_and, and_true, false_and, and_false, and_self, true_implies, false_implies, implies_true, Option.toList_some, Option.toList_none, List.cons_append, List.nil_append, Nat.add_eq_zero_iff, a_nl_i, a_nl_r, a_nl_n, true_or, or_true, eq_self, ok_4, ok_5, ok_6, ok_7, ok_9, ok_10, ok_20, ok_21, ok_24, ok_30, ok_48, ok_50, ok_60, ok_80, ok_120, ok_180, ok_192, ok_200, ok_900, ok_1000, ok_84000]
    refine ih a30 _ _ _ (by clear ih hC hV hm hexit; grind) (by clear ih hC hV hm hexit; grind) ?_
    rw [← hV, ei, show (I M 17).toNatClampNeg - a.toNatClampNeg = ((I M 17).toNatClampNeg - (a.toNatClampNeg + 1)) + 1 by omega]
    rfl
  clear ih hC hV hm
  rw [q194_7]
  repeat' first
    | with_reducible apply And.intro
    | with_reducible assumption
    | with_reducible intro _
    | refine hexit ?_
    | refine hgo ?_
    | simp only [q194_9, q194_10, q194_13, q194_16, q194_17, m_0 hS, m_K hS, as_nil, as_i, as_r, Nat.reduceAdd, Nat.reduceLeDiff, z_eq0, z_eq1, z_or, z_em, Classical.not_not, not_false_eq_true, not_true_eq_false, true_and, and_true, false_and, and_false, and_self, true_implies, false_implies, implies_true, Option.toList_some, Option.toList_none, List.cons_append, List.nil_append, Nat.add_eq_zero_iff, a_nl_i, a_nl_r, a_nl_n, true_or, or_true, eq_self, ok_4, ok_5, ok_6, ok_7, ok_9, ok_10, ok_20, ok_21, ok_24, ok_30, ok_48, ok_50, ok_60, ok_80, ok_120, ok_180, ok_192, ok_200, ok_900, ok_1000, ok_84000]
  all_goals ((try clear hexit); (try clear hgo); (try clear hS); (try clear hR); grind [ui_ap])
theorem xt_habitOf (hS : m_S M K L R) (hR : mR M I) (hm : mkP (yv M I)) {r : Int32} (hr : 0 ≤ r ∧ r ≤ 5) (hP : P (some (.int (hbY (cmY (yv M I)) (I M 17) r))) (n, t, K, L, I, R)) : a_does (d + 1) 194 [a_rf M, .int r] (n, t, K, L, I, R) P := by
  have g1 := rg_asks hR
  have hl := xt_habitOf_7 (d := d) (n := n) (t := t) (P := P) hS hR hm hr (V := fdO (cmY (yv M I)) hbS r (I M 17).toNatClampNeg 0 (0, 0)) (fun a o => by
    unfold hbY at hP
    generalize fdO (cmY (yv M I)) hbS r (I M 17).toNatClampNeg 0 (0, 0) = W at hP ⊢
    simp only [q194_107, q194_108, q194_111, q194_112, q194_113, q194_114, q194_117, q194_118, q194_119, q194_120, q194_123, q194_124, q194_125, q194_126, q194_127, q194_128, q194_129, q194_130, q194_131, as_nil, as_i, as_r, Nat.reduceAdd, Nat.reduceLeDiff, z_eq0, z_eq1, z_or, z_em, Classical.not_not, not_false_eq_true, not_true_eq_false, true_and, and_true, false_and, and_false, and_self, true_implies, false_implies, implies_true, Option.toList_some, Option.toList_none, List.cons_append, List.nil_append, Nat.add_eq_zero_iff, a_nl_i, a_nl_r, a_nl_n, true_or, or_true, eq_self, ok_4, ok_5, ok_6, ok_7, ok_9, ok_10, ok_20, ok_21, ok_24, ok_30, ok_48, ok_50, ok_60, ok_80, ok_120, ok_180, ok_192, ok_200, ok_900, ok_1000, ok_84000]
    by_cases c0 : W.2 = 0
    · rw [if_pos c0] at hP
      simp only [c0]
      grind
    · rw [if_neg c0] at hP
      by_cases c1 : 0 ≤ W.1
      · rw [if_pos c1] at hP
        grind
      · rw [if_neg c1] at hP
        grind) 0 (by decide) 0 0 none (by decide) g1.1 (by rw [show (0 : Int32).toNatClampNeg = 0 from rfl, Nat.sub_zero])
  rw [a_enter1 (M := a_m194) rfl (a_cat_rf (a_cat_int a_cat_nil)) (show 2 ≤ 6 by decide)]
  show a_at _ (a_xm a_m194) 0 [some (a_rf M), some (.int r), none, none, none, none] [] _ _
  repeat' first
    | with_reducible apply And.intro
    | with_reducible assumption
    | with_reducible intro _
    | with_reducible apply hl
    | simp only [q194_0, q194_1, q194_2, q194_3, q194_4, q194_5, as_nil, as_i, as_r, Nat.reduceAdd, Nat.reduceLeDiff, z_eq0, z_eq1, z_or, z_em, Classical.not_not, not_false_eq_true, not_true_eq_false, true_and, and_true, false_and, and_false, and_self, true_implies, false_implies, implies_true, Option.toList_some, Option.toList_none, List.cons_append, List.nil_append, Nat.add_eq_zero_iff, a_nl_i, a_nl_r, a_nl_n, true_or, or_true, eq_self, ok_4, ok_5, ok_6, ok_7, ok_9, ok_10, ok_20, ok_21, ok_24, ok_30, ok_48, ok_50, ok_60, ok_80, ok_120, ok_180, ok_192, ok_200, ok_900, ok_1000, ok_84000]
  all_goals grind [ui_ap]
end YA
/-! a RULE's reading, flat -/
section XC
variable {f : Nat → Int32} {e : Int32} {q : Int32 → rdT}
theorem xlo_no {q : Int32 → rdT} {c : Int32} {op : Int32 → Int32 → Int32} {k : Nat} {r : rdT} (h : ¬ (r.1 = true ∧ r.2.1 < e ∧ f r.2.1.toNatClampNeg = c)) : xlo f e q c op k r = r := by
  cases k with
  | zero => rfl
  | succ k => unfold xlo; rw [if_neg h]
theorem xlo_fu {q : Int32 → rdT} (hq : ∀ a, a ≤ e → xB e a (q a)) {c : Int32} {op : Int32 → Int32 → Int32} (he : e ≤ 50) : ∀ (k l : Nat) (r : rdT), 0 ≤ r.2.1 → e.toInt ≤ r.2.1.toInt + k → e.toInt ≤ r.2.1.toInt + l → xlo f e q c op k r = xlo f e q c op l r := by
  intro k
  induction k with
  | zero =>
    intro l r h0 h1 h2
    have : ¬ (r.1 = true ∧ r.2.1 < e ∧ f r.2.1.toNatClampNeg = c) := fun w => by
      have := Int32.lt_iff_toInt_lt.mp w.2.1
      omega
    rw [xlo_no this, xlo_no this]
  | succ k ih =>
    intro l r h0 h1 h2
    by_cases w : r.1 = true ∧ r.2.1 < e ∧ f r.2.1.toNatClampNeg = c
    · cases l with
      | zero =>
        have := Int32.lt_iff_toInt_lt.mp w.2.1
        omega
      | succ l =>
        have u0 := Int32.lt_iff_toInt_lt.mp w.2.1
        have u1 := Int32.le_iff_toInt_le.mp h0
        have u2 := Int32.le_iff_toInt_le.mp he
        have z0 : (0 : Int32).toInt = 0 := rfl
        have z1 : (1 : Int32).toInt = 1 := rfl
        have z50 : (50 : Int32).toInt = 50 := rfl
        have et : (r.2.1 + 1).toInt = r.2.1.toInt + 1 := by rw [ti_add (by omega)]; omega
        have hb := hq (r.2.1 + 1) (by rw [Int32.le_iff_toInt_le]; omega)
        have hb1 := Int32.le_iff_toInt_le.mp hb.1
        unfold xlo
        rw [if_pos w, if_pos w]
        refine ih l _ ?_ ?_ ?_
        · show 0 ≤ (q (r.2.1 + 1)).2.1
          rw [Int32.le_iff_toInt_le]
          omega
        · show e.toInt ≤ (q (r.2.1 + 1)).2.1.toInt + k
          omega
        · show e.toInt ≤ (q (r.2.1 + 1)).2.1.toInt + l
          omega
    · rw [xlo_no w, xlo_no w]
theorem xlo_go {q : Int32 → rdT} (hq : ∀ a, a ≤ e → xB e a (q a)) {c : Int32} {op : Int32 → Int32 → Int32} (he : e ≤ 50) {r : rdT} (h0 : 0 ≤ r.2.1) (h : r.1 = true ∧ r.2.1 < e ∧ f r.2.1.toNatClampNeg = c) : xlo f e q c op 50 r = xlo f e q c op 50 ((q (r.2.1 + 1)).1, (q (r.2.1 + 1)).2.1, fun fc => op (r.2.2 fc) ((q (r.2.1 + 1)).2.2 fc)) := by
  have u0 := Int32.lt_iff_toInt_lt.mp h.2.1
  have u1 := Int32.le_iff_toInt_le.mp h0
  have u2 := Int32.le_iff_toInt_le.mp he
  have z0 : (0 : Int32).toInt = 0 := rfl
  have z1 : (1 : Int32).toInt = 1 := rfl
  have z50 : (50 : Int32).toInt = 50 := rfl
  have et : (r.2.1 + 1).toInt = r.2.1.toInt + 1 := by rw [ti_add (by omega)]; omega
  have hb := hq (r.2.1 + 1) (by rw [Int32.le_iff_toInt_le]; omega)
  have hb1 := Int32.le_iff_toInt_le.mp hb.1
  have e1 : xlo f e q c op 50 r = xlo f e q c op 49 ((q (r.2.1 + 1)).1, (q (r.2.1 + 1)).2.1, fun fc => op (r.2.2 fc) ((q (r.2.1 + 1)).2.2 fc)) := by
    conv => lhs; unfold xlo
    rw [if_pos h]
  rw [e1]
  refine xlo_fu hq he 49 50 _ ?_ ?_ ?_
  · show 0 ≤ (q (r.2.1 + 1)).2.1
    rw [Int32.le_iff_toInt_le]
    omega
  · show e.toInt ≤ (q (r.2.1 + 1)).2.1.toInt + 49
    omega
  · show e.toInt ≤ (q (r.2.1 + 1)).2.1.toInt + 50
    omega
/-- what is read further with these waiting -/
def wJ (f : Nat → Int32) (e : Int32) (q : Int32 → rdT) (o0 o1 o2 : Option ((Nat → Int32) → Int32)) (r : rdT) : rdT := xlo f e (xjo f e q 2) 47 (opY 3) 50 (cmb 3 o0 (xlo f e (xjo f e q 1) 124 (opY 2) 50 (cmb 2 o1 (xlo f e (xjo f e q 0) 38 (opY 1) 50 (cmb 1 o2 r)))))
theorem xjo_3 {a : Int32} : xjo f e q 3 a = xlo f e (xjo f e q 2) 47 (opY 3) 50 (xjo f e q 2 a) := by
  conv => lhs; unfold xjo
  have h : sgY (2 + 1) = 47 := by decide
  rw [h]
theorem xjo_2 {a : Int32} : xjo f e q 2 a = xlo f e (xjo f e q 1) 124 (opY 2) 50 (xjo f e q 1 a) := by
  conv => lhs; unfold xjo
  have h : sgY (1 + 1) = 124 := by decide
  rw [h]
theorem xjo_1 {a : Int32} : xjo f e q 1 a = xlo f e (xjo f e q 0) 38 (opY 1) 50 (xjo f e q 0 a) := by
  conv => lhs; unfold xjo
  have h : sgY (0 + 1) = 38 := by decide
  rw [h]
theorem xjo_0 {a : Int32} : xjo f e q 0 a = q a := by
  unfold xjo
  rfl
theorem cmb_n {y : Nat} {r : rdT} : cmb y none r = r := rfl
theorem wJ_0 {a : Int32} : xjo f e q 3 a = (wJ f e q none none none (q a)) := by
  unfold wJ
  rw [xjo_3, xjo_2, xjo_1, xjo_0, cmb_n, cmb_n, cmb_n]
theorem wJ_end {o0 o1 o2 : Option ((Nat → Int32) → Int32)} {r : rdT} (h : ¬ (r.1 = true ∧ r.2.1 < e ∧ (f r.2.1.toNatClampNeg = 38 ∨ f r.2.1.toNatClampNeg = 124 ∨ f r.2.1.toNatClampNeg = 47))) : (wJ f e q o0 o1 o2 r) = cmb 3 o0 (cmb 2 o1 (cmb 1 o2 r)) := by
  have n : ∀ y (o : Option ((Nat → Int32) → Int32)) (x : rdT) (c : Int32), (c = 38 ∨ c = 124 ∨ c = 47) → x.1 = r.1 → x.2.1 = r.2.1 → ¬ ((cmb y o x).1 = true ∧ (cmb y o x).2.1 < e ∧ f (cmb y o x).2.1.toNatClampNeg = c) := fun y o x c hc h1 h2 w => by
    rw [cmb_1, cmb_2, h1, h2] at w
    refine h ⟨w.1, w.2.1, ?_⟩
    rw [w.2.2]
    exact hc
  unfold wJ
  rw [xlo_no (n 1 o2 r 38 (Or.inl rfl) rfl rfl), xlo_no (n 2 o1 _ 124 (Or.inr (Or.inl rfl)) cmb_1 cmb_2), xlo_no (n 3 o0 _ 47 (Or.inr (Or.inr rfl)) (by rw [cmb_1, cmb_1]) (by rw [cmb_2, cmb_2]))]
theorem wJ_38 (hq : ∀ a, a ≤ e → xB e a (q a)) (he : e ≤ 50) {o0 o1 o2 : Option ((Nat → Int32) → Int32)} {r : rdT} (h0 : 0 ≤ r.2.1) (h1 : r.1 = true) (h2 : r.2.1 < e) (h3 : f r.2.1.toNatClampNeg = 38) : (wJ f e q o0 o1 o2 r) = (wJ f e q o0 o1 (some (cmb 1 o2 r).2.2) (q (r.2.1 + 1))) := by
  unfold wJ
  have := xlo_go (f := f) (q := xjo f e q 0) (fun a h => xjo_b hq 0 a h) (c := 38) (op := opY 1) he (r := cmb 1 o2 r) (by rw [cmb_2]; exact h0) ⟨by rw [cmb_1]; exact h1, by rw [cmb_2]; exact h2, by rw [cmb_2]; exact h3⟩
  rw [this, cmb_2]
  rfl
theorem wJ_124 (hq : ∀ a, a ≤ e → xB e a (q a)) (he : e ≤ 50) {o0 o1 o2 : Option ((Nat → Int32) → Int32)} {r : rdT} (h0 : 0 ≤ r.2.1) (h1 : r.1 = true) (h2 : r.2.1 < e) (h3 : f r.2.1.toNatClampNeg = 124) : (wJ f e q o0 o1 o2 r) = (wJ f e q o0 (some (cmb 2 o1 (cmb 1 o2 r)).2.2) none (q (r.2.1 + 1))) := by
  unfold wJ
  rw [xlo_no (f := f) (q := xjo f e q 0) (c := 38) (r := cmb 1 o2 r) (fun w => by rw [cmb_2, h3] at w; exact absurd w.2.2 (by decide))]
  have := xlo_go (f := f) (q := xjo f e q 1) (fun a h => xjo_b hq 1 a h) (c := 124) (op := opY 2) he (r := cmb 2 o1 (cmb 1 o2 r)) (by rw [cmb_2, cmb_2]; exact h0) ⟨by rw [cmb_1, cmb_1]; exact h1, by rw [cmb_2, cmb_2]; exact h2, by rw [cmb_2, cmb_2]; exact h3⟩
  rw [this, cmb_2, cmb_2]
  rfl
theorem wJ_47 (hq : ∀ a, a ≤ e → xB e a (q a)) (he : e ≤ 50) {o0 o1 o2 : Option ((Nat → Int32) → Int32)} {r : rdT} (h0 : 0 ≤ r.2.1) (h1 : r.1 = true) (h2 : r.2.1 < e) (h3 : f r.2.1.toNatClampNeg = 47) : (wJ f e q o0 o1 o2 r) = (wJ f e q (some (cmb 3 o0 (cmb 2 o1 (cmb 1 o2 r))).2.2) none none (q (r.2.1 + 1))) := by
  unfold wJ
  rw [xlo_no (f := f) (q := xjo f e q 0) (c := 38) (r := cmb 1 o2 r) (fun w => by rw [cmb_2, h3] at w; exact absurd w.2.2 (by decide)), xlo_no (f := f) (q := xjo f e q 1) (c := 124) (r := cmb 2 o1 (cmb 1 o2 r)) (fun w => by rw [cmb_2, cmb_2, h3] at w; exact absurd w.2.2 (by decide))]
  have := xlo_go (f := f) (q := xjo f e q 2) (fun a h => xjo_b hq 2 a h) (c := 47) (op := opY 3) he (r := cmb 3 o0 (cmb 2 o1 (cmb 1 o2 r))) (by rw [cmb_2, cmb_2, cmb_2]; exact h0) ⟨by rw [cmb_1, cmb_1, cmb_1]; exact h1, by rw [cmb_2, cmb_2, cmb_2]; exact h2, by rw [cmb_2, cmb_2, cmb_2]; exact h3⟩
  rw [this, cmb_2, cmb_2, cmb_2]
  rfl
theorem cbv_1 {o : Option ((Nat → Int32) → Int32)} {r : rdT} {fc : Nat → Int32} : cbv 38 o fc (r.2.2 fc) = (cmb 1 o r).2.2 fc := by cases o <;> rfl
theorem cbv_2 {o : Option ((Nat → Int32) → Int32)} {r : rdT} {fc : Nat → Int32} : cbv 124 o fc (r.2.2 fc) = (cmb 2 o r).2.2 fc := by cases o <;> rfl
theorem cbv_3 {o : Option ((Nat → Int32) → Int32)} {r : rdT} {fc : Nat → Int32} : cbv 47 o fc (r.2.2 fc) = (cmb 3 o r).2.2 fc := by cases o <;> rfl
end XC
/-! the reference: a RULE, the whole of it -/
section XD
variable {d n t M : Nat} {K L : Nat → Nat} {I I0 J J0 J1 J2 : Nat → Nat → Int32} {R : Nat → Nat → Nat} {P : Option Value → AH → Prop} {f : Nat → Int32} {e : Int32}
variable {fc V Z : Nat → Int32} {a dp : Int32} {m s : Nat}
theorem ps_Zc {Z' : Nat → Int32} (h : ps M I0 J f fc e a 0 dp m s V Z) (hz : ∀ i, i < s → Z i = Z' i) : ps M I0 J f fc e a 0 dp m s V Z' := ⟨h.1, h.2.1, h.2.2.1, h.2.2.2.1, h.2.2.2.2.1, h.2.2.2.2.2.1, h.2.2.2.2.2.2.1, h.2.2.2.2.2.2.2.1, h.2.2.2.2.2.2.2.2.1, h.2.2.2.2.2.2.2.2.2.1, h.2.2.2.2.2.2.2.2.2.2.1, fun i hi => (ps_Z h i hi).trans (hz i hi)⟩
theorem does_mono {D mid : Nat} {as : List Value} {h : AH} {Q Q' : Option Value → AH → Prop} (h1 : a_does D mid as h Q) (h2 : ∀ r h', Q r h' → Q' r h') : a_does D mid as h Q' := by
  obtain ⟨F, r, h', q1, q2⟩ := h1
  exact ⟨F, r, h', q1, h2 r h' q2⟩
/-- on with what comes behind a part -/
def Qc (M d : Nat) (P : Option Value → AH → Prop) : Option Value → AH → Prop := fun r h' => r = none ∧ ∀ c : Option Value, a_at (d + 4) (a_xm a_m202) 17 [some (a_rf M), some (.int 0), c] [] h' P
/-- a FAULT ends it -/
theorem ru_bad (hS : m_S M K L R) {w c : Option Value} (hb : ¬ J M 50 = 0) (hP : P (some (.int 0)) (n, t, K, L, J, R)) : a_at (d + 4) (a_xm a_m202) 17 [some (a_rf M), w, c] [] (n, t, K, L, J, R) P := by
  simp only [q202_17, q202_18, q202_21, q202_332, q202_333, q202_336, q202_373, q202_374, q202_377, q202_393, q202_394, m_0 hS, m_K hS, as_nil, as_i, as_r, Nat.reduceAdd, Nat.reduceLeDiff, z_eq0, z_eq1, z_or, z_em, Classical.not_not, not_false_eq_true, not_true_eq_false, true_and, and_true, false_and, and_false, and_self, true_implies, false_implies, implies_true, Option.toList_some, Option.toList_none, List.cons_append, List.nil_append, Nat.add_eq_zero_iff, a_nl_i, a_nl_r, a_nl_n, true_or, or_true, eq_self, ok_4, ok_5, ok_6, ok_7, ok_9, ok_10, ok_20, ok_21, ok_24, ok_30, ok_48, ok_50, ok_60, ok_80, ok_120, ok_180, ok_192, ok_200, ok_900, ok_1000, ok_84000, hb]
  try simp only [false_implies, true_implies, not_false_eq_true, true_and, and_true, implies_true]
  first
    | exact hP
    | grind
def PT (d n t M : Nat) (K L : Nat → Nat) (I0 : Nat → Nat → Int32) (R : Nat → Nat → Nat) (P : Option Value → AH → Prop) (f fc : Nat → Int32) (e : Int32) (z : Nat) : Prop := ∀ (J : Nat → Nat → Int32) (a dp : Int32) (m s : Nat) (V Z : Nat → Int32) (c : Option Value), ps M I0 J f fc e a 0 dp m s V Z → m ≤ a.toNatClampNeg → s ≤ a.toNatClampNeg → dp.toInt + z = 4 → (∀ J', (xP f e z a).1 = false → xz M I0 J' f fc e (xP f e z a).2.1 1 → P (some (.int 0)) (n, t, K, L, J', R)) → (∀ J' V', (xP f e z a).1 = true → ps M I0 J' f fc e (xP f e z a).2.1 0 dp (m + 1) s V' Z → (∀ i, i < m → V' i = V i) → V' m = (xP f e z a).2.2 fc → a_does (d + 4) 204 [a_rf M] (n, t, K, L, J', R) (Qc M d P)) → a_at (d + 4) (a_xm a_m202) 17 [some (a_rf M), some (.int 1), c] [] (n, t, K, L, J, R) P
/-- what a RULE read behind "(" or from the start on comes to -/
def RZ (d n t M : Nat) (K L : Nat → Nat) (I0 : Nat → Nat → Int32) (R : Nat → Nat → Nat) (P : Option Value → AH → Prop) (f fc : Nat → Int32) (e : Int32) (dp : Int32) (m s : Nat) (V Z : Nat → Int32) (W : rdT) : Prop := (∀ J', W.1 = false → xz M I0 J' f fc e W.2.1 1 → P (some (.int 0)) (n, t, K, L, J', R)) ∧ (∀ J' o0 o1 o2 cur, W.1 = true → fl M I0 J' f fc e W.2.1 dp m s V Z o0 o1 o2 cur → cbv 47 o0 fc (cbv 124 o1 fc (cbv 38 o2 fc cur)) = W.2.2 fc → ¬ (W.2.1 < e ∧ (f W.2.1.toNatClampNeg = 38 ∨ f W.2.1.toNatClampNeg = 124 ∨ f W.2.1.toNatClampNeg = 47)) → ∀ c : Option Value, a_at (d + 4) (a_xm a_m202) 17 [some (a_rf M), some (.int 0), c] [] (n, t, K, L, J', R) P)

theorem fl_ps {o0 o1 o2 : Option ((Nat → Int32) → Int32)} {cur : Int32} (h : fl M I0 J f fc e a dp m s V Z o0 o1 o2 cur) : ∃ V1 Z1, ps M I0 J f fc e a 0 dp (m + oc o0 + oc o1 + oc o2 + 1) (s + oc o0 + oc o1 + oc o2) V1 Z1 := by
  obtain ⟨V1, Z1, h1, -⟩ := h
  exact ⟨V1, Z1, h1⟩
/-- at a sign: it is put on top, and a part is wanted -/
theorem ru_211 (hS : m_S M K L R) {c : Int32} (h : ps M I0 J f fc e a 0 dp m s V Z) (ha : a < e) (hs : s < 50) (hgo : ∀ J', ps M I0 J' f fc e (a + 1) 0 dp m (s + 1) V (up1 Z s c) → a_at (d + 4) (a_xm a_m202) 17 [some (a_rf M), some (.int 1), some (.int c)] [] (n, t, K, L, J', R) P) : a_at (d + 4) (a_xm a_m202) 211 [some (a_rf M), some (.int 0), some (.int c)] [] (n, t, K, L, J, R) P := by
  have h5 := ps_50 h
  have es : (J M 56).toNatClampNeg = s := by rw [ps_sm h, on_t (by omega)]
  have er : 0 ≤ J M 56 ∧ J M 56 < 60 := by rw [ps_sm h]; exact on_r (by omega)
  have hh := hgo (a_ui (a_ui (a_ui J (M + 34) s c) M 56 (J M 56 + 1)) M 49 (J M 49 + 1)) ⟨sC_at (sC_signMany (sC_signs (ps_mC h))), vw_fr (ps_vw h) (fun x j p q r => by rw [ui_ap, if_neg (by omega), ui_ap, if_neg (by omega), ui_ap, if_neg (by omega)]), fun j => by rw [ui_ap, if_neg (by omega), ui_ap, if_neg (by omega), ui_ap, if_neg (by omega)]; exact ps_fc h j, by rw [ui_ap, if_pos ⟨rfl, rfl⟩, ps_at h], ⟨by have := ps_a h; have := (ps_vw h).2.1; clear hgo h; grind, by have := ps_a h; have := (ps_vw h).2.1; clear hgo h; grind⟩, by rw [ui_ap, if_neg (by omega), ui_ap, if_neg (by omega), ui_ap, if_neg (by omega)]; exact ps_bad h, by rw [ui_ap, if_neg (by omega), ui_ap, if_neg (by omega), ui_ap, if_neg (by omega)]; exact ps_dp h, by rw [ui_ap, if_neg (by omega), ui_ap, if_neg (by omega), ui_ap, if_neg (by omega)]; exact ps_vm h, by rw [ui_ap, if_neg (by omega), ui_ap, if_pos ⟨rfl, rfl⟩, ps_sm h, on_a], by omega, fun i hi => ?_, fun i hi => ?_⟩
  · simp only [q202_211, q202_212, q202_215, q202_216, q202_219, q202_220, q202_221, q202_222, q202_223, q202_226, q202_227, q202_228, q202_231, q202_232, q202_233, q202_236, q202_237, q202_238, q202_241, q202_242, q202_243, q202_329, m_0 hS, m_K hS, mR_signs hS, mK_signs hS, mL_signs hS, as_nil, as_i, as_r, Nat.reduceAdd, Nat.reduceLeDiff, z_eq0, z_eq1, z_or, z_em, Classical.not_not, not_false_eq_true, not_true_eq_false, true_and, and_true, false_and, and_false, and_self, true_implies, false_implies, implies_true, Option.toList_some, Option.toList_none, List.cons_append, List.nil_append, Nat.add_eq_zero_iff, a_nl_i, a_nl_r, a_nl_n, true_or, or_true, eq_self, ok_4, ok_5, ok_6, ok_7, ok_9, ok_10, ok_20, ok_21, ok_24, ok_30, ok_48, ok_50, ok_60, ok_80, ok_120, ok_180, ok_192, ok_200, ok_900, ok_1000, ok_84000, ui_ap, ne_MM, ne_M0, ne_0M, Nat.reduceEqDiff, reduceIte, if_true, if_false, es, er]
    first
      | exact hh
      | exact ⟨trivial, hh⟩
      | (simp only [true_and]; exact hh)
  · rw [ui_ap, if_neg (by omega), ui_ap, if_neg (by omega), ui_ap, if_neg (by omega)]
    exact ps_V h i hi
  · rw [ui_ap, if_neg (by omega), ui_ap, if_neg (by omega), ui_ap]
    by_cases c : i = s
    · subst c; rw [if_pos ⟨rfl, rfl⟩, up1_eq]
    · rw [if_neg (fun q => c q.2), up1_ne c]
      exact ps_Z h i (by omega)
/-- one more part behind a sign: the flat state again -/
theorem fl_next {o0 o1 o2 : Option ((Nat → Int32) → Int32)} {cur : Int32} {z : Nat} (hpt : PT d n t M K L I0 R P f fc e z) (hS : m_S M K L R) {g : Int32} (hg : g = 38 ∨ g = 124 ∨ g = 47) {x : (Nat → Int32) → Int32} (hx : cur = x fc) (hcase : (g = 38 ∧ o2 = none) ∨ (g = 124 ∧ o2 = none ∧ o1 = none) ∨ (g = 47 ∧ o2 = none ∧ o1 = none ∧ o0 = none)) (h : fl M I0 J f fc e a dp m s V Z o0 o1 o2 cur) (ha : a < e) (hdp : dp.toInt + z = 4) (hm : m + oc o0 + oc o1 + oc o2 + 1 ≤ a.toNatClampNeg) (hs : s + oc o0 + oc o1 + oc o2 ≤ a.toNatClampNeg)
 (hfail : ∀ J', (xP f e z (a + 1)).1 = false → xz M I0 J' f fc e (xP f e z (a + 1)).2.1 1 → P (some (.int 0)) (n, t, K, L, J', R))
 (hsucc : ∀ J', (xP f e z (a + 1)).1 = true → fl M I0 J' f fc e (xP f e z (a + 1)).2.1 dp m s V Z (if g = 47 then some x else o0) (if g = 124 then some x else o1) (if g = 38 then some x else o2) ((xP f e z (a + 1)).2.2 fc) → ∀ c : Option Value, a_at (d + 4) (a_xm a_m202) 17 [some (a_rf M), some (.int 0), c] [] (n, t, K, L, J', R) P) : a_at (d + 4) (a_xm a_m202) 211 [some (a_rf M), some (.int 0), some (.int g)] [] (n, t, K, L, J, R) P := by
  obtain ⟨V1, Z1, h1, h2, h3, h4, h5, h6, h7⟩ := h
  have ha0 := (ps_a h1).1
  have he := (ps_vw h1).2.1
  have la : a.toNatClampNeg < 50 := by
    have := cl_lt (j := 50) ha0 (by clear hpt hfail hsucc h1; grind)
    exact this
  have ea : (a + 1).toNatClampNeg = a.toNatClampNeg + 1 := cl_up ha0 (by clear hpt hfail hsucc h1; grind)
  refine ru_211 hS h1 ha (by omega) (fun J1 p1 => ?_)
  refine hpt J1 (a + 1) dp _ _ V1 _ _ p1 (by omega) (by omega) hdp hfail (fun J2 V2 k1 p2 k2 k3 => ?_)
  refine pe_no hS p2 (Or.inr (by rw [show s + oc o0 + oc o1 + oc o2 + 1 - 1 = s + oc o0 + oc o1 + oc o2 by omega, up1_eq]; rcases hg with rfl | rfl | rfl <;> decide)) ⟨rfl, hsucc J2 k1 ?_⟩
  have gm : oc (if g = 47 then some x else o0) + oc (if g = 124 then some x else o1) + oc (if g = 38 then some x else o2) = oc o0 + oc o1 + oc o2 + 1 := by
    rcases hcase with ⟨rfl, rfl⟩ | ⟨rfl, rfl, rfl⟩ | ⟨rfl, rfl, rfl, rfl⟩ <;> rfl
  refine ⟨V2, up1 Z1 (s + oc o0 + oc o1 + oc o2) g, ?_, fun i hi => ?_, fun i hi => ?_, fun y ey => ?_, fun y ey => ?_, fun y ey => ?_, ?_⟩
  · have e1 : m + oc (if g = 47 then some x else o0) + oc (if g = 124 then some x else o1) + oc (if g = 38 then some x else o2) + 1 = m + oc o0 + oc o1 + oc o2 + 1 + 1 := by omega
    have e2 : s + oc (if g = 47 then some x else o0) + oc (if g = 124 then some x else o1) + oc (if g = 38 then some x else o2) = s + oc o0 + oc o1 + oc o2 + 1 := by omega
    rw [e1, e2]
    exact p2
  · rw [k2 i (by omega)]; exact h2 i hi
  · rw [up1_ne (by omega)]; exact h3 i hi
  · rcases hcase with ⟨rfl, rfl⟩ | ⟨rfl, rfl, rfl⟩ | ⟨rfl, rfl, rfl, rfl⟩
    · have ey : o0 = some y := ey
      have o1' : oc o0 = 1 := by rw [ey]; rfl
      rw [k2 m (by omega), up1_ne (by omega)]
      exact h4 y ey
    · have ey : o0 = some y := ey
      have o1' : oc o0 = 1 := by rw [ey]; rfl
      rw [k2 m (by omega), up1_ne (by omega)]
      exact h4 y ey
    · cases ey
      have h7 : V1 m = cur := h7
      rw [k2 m (by omega), h7, hx]
      exact ⟨rfl, up1_eq⟩
  · rcases hcase with ⟨rfl, rfl⟩ | ⟨rfl, rfl, rfl⟩ | ⟨rfl, rfl, rfl, rfl⟩
    · have ey : o1 = some y := ey
      have o1' : oc o1 = 1 := by rw [ey]; rfl
      show V2 (m + oc o0) = _ ∧ up1 _ _ _ (s + oc o0) = _
      rw [k2 _ (by omega), up1_ne (by omega)]
      exact h5 y ey
    · cases ey
      have h7 : V1 (m + oc o0) = cur := h7
      show V2 (m + oc o0) = _ ∧ up1 _ (s + oc o0) _ (s + oc o0) = _
      rw [k2 _ (by show m + oc o0 < m + oc o0 + 0 + 0 + 1; omega), h7, hx]
      exact ⟨rfl, up1_eq⟩
    · cases ey
  · rcases hcase with ⟨rfl, rfl⟩ | ⟨rfl, rfl, rfl⟩ | ⟨rfl, rfl, rfl, rfl⟩
    · cases ey
      have h7 : V1 (m + oc o0 + oc o1) = cur := h7
      show V2 (m + oc o0 + oc o1) = _ ∧ up1 _ (s + oc o0 + oc o1) _ (s + oc o0 + oc o1) = _
      rw [k2 _ (by show m + oc o0 + oc o1 < m + oc o0 + oc o1 + 0 + 1; omega), h7, hx]
      exact ⟨rfl, up1_eq⟩
    · cases ey
    · cases ey
  · rw [show m + oc (if g = 47 then some x else o0) + oc (if g = 124 then some x else o1) + oc (if g = 38 then some x else o2) = m + oc o0 + oc o1 + oc o2 + 1 by omega]
    exact k3
/-- from behind a part on -/
theorem ru_flat {z : Nat} (hpt : PT d n t M K L I0 R P f fc e z) (hS : m_S M K L R) (hb : s = 0 ∨ Z (s - 1) = 40) (hdp : dp.toInt + z = 4) {W : rdT} (hRZ : RZ d n t M K L I0 R P f fc e dp m s V Z W) : ∀ (k : Nat) (J : Nat → Nat → Int32) (r : rdT) (o0 o1 o2 : Option ((Nat → Int32) → Int32)) (c : Option Value), r.1 = true → fl M I0 J f fc e r.2.1 dp m s V Z o0 o1 o2 (r.2.2 fc) → e.toInt ≤ r.2.1.toInt + k → m + oc o0 + oc o1 + oc o2 + 1 ≤ r.2.1.toNatClampNeg → s + oc o0 + oc o1 + oc o2 ≤ r.2.1.toNatClampNeg → wJ f e (xP f e z) o0 o1 o2 r = W → a_at (d + 4) (a_xm a_m202) 17 [some (a_rf M), some (.int 0), c] [] (n, t, K, L, J, R) P := by
  intro k
  induction k with
  | zero =>
    intro J r o0 o1 o2 c hr h hk hm hs hW
    have hlt : ¬ r.2.1 < e := fun q => by
      have := Int32.lt_iff_toInt_lt.mp q
      omega
    have hw := wJ_end (f := f) (e := e) (q := xP f e z) (o0 := o0) (o1 := o1) (o2 := o2) (r := r) (fun q => hlt q.2.1)
    rw [hW] at hw
    have w1 : W.1 = true := by rw [hw, cmb_1, cmb_1, cmb_1]; exact hr
    have w2 : W.2.1 = r.2.1 := by rw [hw, cmb_2, cmb_2, cmb_2]
    refine hRZ.2 J o0 o1 o2 (r.2.2 fc) w1 (by rw [w2]; exact h) ?_ (fun q => hlt (by rw [← w2]; exact q.1)) c
    rw [hw, cbv_1, cbv_2, cbv_3]
  | succ k ih =>
    intro J r o0 o1 o2 c hr h hk hm hs hW
    by_cases hch : r.2.1 < e ∧ (f r.2.1.toNatClampNeg = 38 ∨ f r.2.1.toNatClampNeg = 124 ∨ f r.2.1.toNatClampNeg = 47)
    · obtain ⟨V1, Z1, h1⟩ := fl_ps h
      have ha := ps_a h1
      have he := (ps_vw h1).2.1
      have hbd := ps_bad h1
      have hat := ps_at h1
      have hE := vw_E (ps_vw h1) (by rw [hat]; exact ha)
      have hT := rT_refl (ps_mC h1).1 hE
      have hvJ := hv_x (ps_vw h1) (by rw [hat]; exact ha.1)
      rw [hat, if_pos hch.1] at hvJ
      have een : J M 48 = e := (ps_vw h1).1
      have hlt2 : J M 49 < J M 48 := by rw [hat, een]; exact hch.1
      have hq := fun a (h : a ≤ e) => xP_b (f := f) (e := e) z a h
      have m1 : r.2.1 + 1 ≤ e := by have := hch.1; clear ih h h1 hRZ hpt hvJ hT hE hW; grind
      have m0 : 0 ≤ r.2.1 + 1 := by have := hch.1; clear ih h h1 hRZ hpt hvJ hT hE hW; grind
      have hub := xP_b (f := f) (e := e) z (r.2.1 + 1) m1
      -- what follows the next part
      have hnx : ∀ (p0 p1 p2 : Option ((Nat → Int32) → Int32)), wJ f e (xP f e z) p0 p1 p2 (xP f e z (r.2.1 + 1)) = W → oc p0 + oc p1 + oc p2 ≤ oc o0 + oc o1 + oc o2 + 1 → (∀ J', (xP f e z (r.2.1 + 1)).1 = false → xz M I0 J' f fc e (xP f e z (r.2.1 + 1)).2.1 1 → P (some (.int 0)) (n, t, K, L, J', R)) ∧ (∀ J', (xP f e z (r.2.1 + 1)).1 = true → fl M I0 J' f fc e (xP f e z (r.2.1 + 1)).2.1 dp m s V Z p0 p1 p2 ((xP f e z (r.2.1 + 1)).2.2 fc) → ∀ c : Option Value, a_at (d + 4) (a_xm a_m202) 17 [some (a_rf M), some (.int 0), c] [] (n, t, K, L, J', R) P) := fun p0 p1 p2 hw hoc => by
        have u0 := Int32.lt_iff_toInt_lt.mp hch.1
        have u1 := Int32.le_iff_toInt_le.mp ha.1
        have u2 := Int32.le_iff_toInt_le.mp he.2
        have u3 := Int32.le_iff_toInt_le.mp hub.1
        have z0 : (0 : Int32).toInt = 0 := rfl
        have z1 : (1 : Int32).toInt = 1 := rfl
        have z50 : (50 : Int32).toInt = 50 := rfl
        have et : (r.2.1 + 1).toInt = r.2.1.toInt + 1 := by rw [ti_add (by omega)]; omega
        have en : r.2.1.toNatClampNeg = r.2.1.toInt.toNat := rfl
        have en2 : (xP f e z (r.2.1 + 1)).2.1.toNatClampNeg = (xP f e z (r.2.1 + 1)).2.1.toInt.toNat := rfl
        refine ⟨fun J' k1 k2 => ?_, fun J' k1 k2 c => ?_⟩
        · have hw2 := wJ_end (f := f) (e := e) (q := xP f e z) (o0 := p0) (o1 := p1) (o2 := p2) (r := xP f e z (r.2.1 + 1)) (fun q => by rw [k1] at q; exact absurd q.1 (by decide))
          rw [hw] at hw2
          exact hRZ.1 J' (by rw [hw2, cmb_1, cmb_1, cmb_1]; exact k1) (by rw [hw2, cmb_2, cmb_2, cmb_2]; exact k2)
        · have hgt := Int32.lt_iff_toInt_lt.mp (hub.2.2 k1)
          exact ih J' (xP f e z (r.2.1 + 1)) p0 p1 p2 c k1 k2 (by omega) (by omega) (by omega) hw
      -- to the sign
      have h181 : ∀ g : Int32, g = f r.2.1.toNatClampNeg → a_at (d + 4) (a_xm a_m202) 181 [some (a_rf M), some (.int 0), some (.int g)] [] (n, t, K, L, J, R) P := fun g hg => by
        simp only [q202_181, q202_182, q202_184, m_0 hS, m_K hS, as_nil, as_i, as_r, Nat.reduceAdd, Nat.reduceLeDiff, z_eq0, z_eq1, z_or, z_em, Classical.not_not, not_false_eq_true, not_true_eq_false, true_and, and_true, false_and, and_false, and_self, true_implies, false_implies, implies_true, Option.toList_some, Option.toList_none, List.cons_append, List.nil_append, Nat.add_eq_zero_iff, a_nl_i, a_nl_r, a_nl_n, true_or, or_true, eq_self, ok_4, ok_5, ok_6, ok_7, ok_9, ok_10, ok_20, ok_21, ok_24, ok_30, ok_48, ok_50, ok_60, ok_80, ok_120, ok_180, ok_192, ok_200, ok_900, ok_1000, ok_84000]
        refine f38 hS hb h (fun J1 h1 => ?_)
        rw [cbv_1] at h1
        have n1 : ¬ (124 : Int32) = 38 := by decide
        have n2 : ¬ (47 : Int32) = 38 := by decide
        have n3 : ¬ (124 : Int32) = 47 := by decide
        have n4 : ¬ (38 : Int32) = 47 := by decide
        have n5 : ¬ (47 : Int32) = 124 := by decide
        have n6 : ¬ (38 : Int32) = 124 := by decide
        rcases hch.2 with q | q | q
        · rw [q] at hg
          subst hg
          have hw := (wJ_38 (f := f) (e := e) (q := xP f e z) (o0 := o0) (o1 := o1) (o2 := o2) hq he.2 ha.1 hr hch.1 q).symm.trans hW
          have hn := hnx o0 o1 (some (cmb 1 o2 r).2.2) hw (by show _ + _ + 1 ≤ _; omega)
          have hgo := fl_next (x := (cmb 1 o2 r).2.2) hpt hS (Or.inl rfl) rfl (Or.inl ⟨rfl, rfl⟩) h1 hch.1 hdp (by show m + oc o0 + oc o1 + 0 + 1 ≤ _; omega) (by show s + oc o0 + oc o1 + 0 ≤ _; omega) hn.1 (fun J' k1 k2 => hn.2 J' k1 (by rw [if_neg n4, if_neg n6, if_pos rfl] at k2; exact k2))
          simp only [q202_187, q202_188, q202_190, q202_199, q202_200, q202_202, as_nil, as_i, as_r, Nat.reduceAdd, Nat.reduceLeDiff, z_eq0, z_eq1, z_or, z_em, Classical.not_not, not_false_eq_true, not_true_eq_false, true_and, and_true, false_and, and_false, and_self, true_implies, false_implies, implies_true, Option.toList_some, Option.toList_none, List.cons_append, List.nil_append, Nat.add_eq_zero_iff, a_nl_i, a_nl_r, a_nl_n, true_or, or_true, eq_self, ok_4, ok_5, ok_6, ok_7, ok_9, ok_10, ok_20, ok_21, ok_24, ok_30, ok_48, ok_50, ok_60, ok_80, ok_120, ok_180, ok_192, ok_200, ok_900, ok_1000, ok_84000, n4]
          first
            | exact hgo
            | exact ⟨fun z => absurd rfl z, fun _ => hgo⟩
            | grind
        · rw [q] at hg
          subst hg
          have hw := (wJ_124 (f := f) (e := e) (q := xP f e z) (o0 := o0) (o1 := o1) (o2 := o2) hq he.2 ha.1 hr hch.1 q).symm.trans hW
          have hn := hnx o0 (some (cmb 2 o1 (cmb 1 o2 r)).2.2) none hw (by show _ + 1 + 0 ≤ _; omega)
          simp only [q202_187, q202_188, q202_190, q202_193, q202_194, q202_196, m_0 hS, m_K hS, as_nil, as_i, as_r, Nat.reduceAdd, Nat.reduceLeDiff, z_eq0, z_eq1, z_or, z_em, Classical.not_not, not_false_eq_true, not_true_eq_false, true_and, and_true, false_and, and_false, and_self, true_implies, false_implies, implies_true, Option.toList_some, Option.toList_none, List.cons_append, List.nil_append, Nat.add_eq_zero_iff, a_nl_i, a_nl_r, a_nl_n, true_or, or_true, eq_self, ok_4, ok_5, ok_6, ok_7, ok_9, ok_10, ok_20, ok_21, ok_24, ok_30, ok_48, ok_50, ok_60, ok_80, ok_120, ok_180, ok_192, ok_200, ok_900, ok_1000, ok_84000, n1]
          refine f124 hS hb h1 (fun J2 h2 => ?_)
          rw [cbv_2] at h2
          have hgo := fl_next (x := (cmb 2 o1 (cmb 1 o2 r)).2.2) hpt hS (Or.inr (Or.inl rfl)) rfl (Or.inr (Or.inl ⟨rfl, rfl, rfl⟩)) h2 hch.1 hdp (by show m + oc o0 + 0 + 0 + 1 ≤ _; omega) (by show s + oc o0 + 0 + 0 ≤ _; omega) hn.1 (fun J' k1 k2 => hn.2 J' k1 (by rw [if_neg n3, if_pos rfl, if_neg n1] at k2; exact k2))
          simp only [q202_199, q202_200, q202_202, as_nil, as_i, as_r, Nat.reduceAdd, Nat.reduceLeDiff, z_eq0, z_eq1, z_or, z_em, Classical.not_not, not_false_eq_true, not_true_eq_false, true_and, and_true, false_and, and_false, and_self, true_implies, false_implies, implies_true, Option.toList_some, Option.toList_none, List.cons_append, List.nil_append, Nat.add_eq_zero_iff, a_nl_i, a_nl_r, a_nl_n, true_or, or_true, eq_self, ok_4, ok_5, ok_6, ok_7, ok_9, ok_10, ok_20, ok_21, ok_24, ok_30, ok_48, ok_50, ok_60, ok_80, ok_120, ok_180, ok_192, ok_200, ok_900, ok_1000, ok_84000, n3]
          first
            | exact hgo
            | exact ⟨fun z => absurd rfl z, fun _ => hgo⟩
            | grind
        · rw [q] at hg
          subst hg
          have hw := (wJ_47 (f := f) (e := e) (q := xP f e z) (o0 := o0) (o1 := o1) (o2 := o2) hq he.2 ha.1 hr hch.1 q).symm.trans hW
          have hn := hnx (some (cmb 3 o0 (cmb 2 o1 (cmb 1 o2 r))).2.2) none none hw (by show 1 + 0 + 0 ≤ _; omega)
          simp only [q202_187, q202_188, q202_190, q202_193, q202_194, q202_196, m_0 hS, m_K hS, as_nil, as_i, as_r, Nat.reduceAdd, Nat.reduceLeDiff, z_eq0, z_eq1, z_or, z_em, Classical.not_not, not_false_eq_true, not_true_eq_false, true_and, and_true, false_and, and_false, and_self, true_implies, false_implies, implies_true, Option.toList_some, Option.toList_none, List.cons_append, List.nil_append, Nat.add_eq_zero_iff, a_nl_i, a_nl_r, a_nl_n, true_or, or_true, eq_self, ok_4, ok_5, ok_6, ok_7, ok_9, ok_10, ok_20, ok_21, ok_24, ok_30, ok_48, ok_50, ok_60, ok_80, ok_120, ok_180, ok_192, ok_200, ok_900, ok_1000, ok_84000, n2]
          refine f124 hS hb h1 (fun J2 h2 => ?_)
          rw [cbv_2] at h2
          simp only [q202_199, q202_200, q202_202, q202_205, q202_206, q202_208, m_0 hS, m_K hS, as_nil, as_i, as_r, Nat.reduceAdd, Nat.reduceLeDiff, z_eq0, z_eq1, z_or, z_em, Classical.not_not, not_false_eq_true, not_true_eq_false, true_and, and_true, false_and, and_false, and_self, true_implies, false_implies, implies_true, Option.toList_some, Option.toList_none, List.cons_append, List.nil_append, Nat.add_eq_zero_iff, a_nl_i, a_nl_r, a_nl_n, true_or, or_true, eq_self, ok_4, ok_5, ok_6, ok_7, ok_9, ok_10, ok_20, ok_21, ok_24, ok_30, ok_48, ok_50, ok_60, ok_80, ok_120, ok_180, ok_192, ok_200, ok_900, ok_1000, ok_84000]
          refine f47 hS hb h2 (fun J3 h3 => ?_)
          rw [cbv_3] at h3
          have hgo := fl_next (x := (cmb 3 o0 (cmb 2 o1 (cmb 1 o2 r))).2.2) hpt hS (Or.inr (Or.inr rfl)) rfl (Or.inr (Or.inr ⟨rfl, rfl, rfl, rfl⟩)) h3 hch.1 hdp (by show m + 0 + 0 + 0 + 1 ≤ _; omega) (by show s + 0 + 0 + 0 ≤ _; omega) hn.1 (fun J' k1 k2 => hn.2 J' k1 (by rw [if_pos rfl, if_neg n5, if_neg n2] at k2; exact k2))
          exact hgo
      rw [q202_17]
      have hle2 := Int32.not_le.mpr hlt2
      simp only [q202_18, q202_21, q202_24, q202_25, q202_28, q202_29, q202_32, q202_33, q202_36, q202_39, q202_40, m_0 hS, m_K hS, as_nil, as_i, as_r, Nat.reduceAdd, Nat.reduceLeDiff, z_eq0, z_eq1, z_or, z_em, Classical.not_not, not_false_eq_true, not_true_eq_false, true_and, and_true, false_and, and_false, and_self, true_implies, false_implies, implies_true, Option.toList_some, Option.toList_none, List.cons_append, List.nil_append, Nat.add_eq_zero_iff, a_nl_i, a_nl_r, a_nl_n, true_or, or_true, eq_self, ok_4, ok_5, ok_6, ok_7, ok_9, ok_10, ok_20, ok_21, ok_24, ok_30, ok_48, ok_50, ok_60, ok_80, ok_120, ok_180, ok_192, ok_200, ok_900, ok_1000, ok_84000, hbd, hlt2, hle2]
      try simp only [true_and, and_true, true_implies, false_implies, implies_true, not_true_eq_false, not_false_eq_true]
      refine ct_here hS hE hT ?_
      rw [hvJ]
      have h181 := h181 _ rfl
      generalize f r.2.1.toNatClampNeg = g at hch h181 ⊢
      clear ih h h1 hRZ hpt hvJ hT hE hW hnx hq hub
      simp only [q202_43, q202_44, q202_45, q202_127, q202_128, q202_163, q202_164, q202_166, q202_169, q202_170, q202_172, q202_175, q202_176, q202_178, as_nil, as_i, as_r, Nat.reduceAdd, Nat.reduceLeDiff, z_eq0, z_eq1, z_or, z_em, Classical.not_not, not_false_eq_true, not_true_eq_false, true_and, and_true, false_and, and_false, and_self, true_implies, false_implies, implies_true, Option.toList_some, Option.toList_none, List.cons_append, List.nil_append, Nat.add_eq_zero_iff, a_nl_i, a_nl_r, a_nl_n, true_or, or_true, eq_self, ok_4, ok_5, ok_6, ok_7, ok_9, ok_10, ok_20, ok_21, ok_24, ok_30, ok_48, ok_50, ok_60, ok_80, ok_120, ok_180, ok_192, ok_200, ok_900, ok_1000, ok_84000]
      grind
    · have hw := wJ_end (f := f) (e := e) (q := xP f e z) (o0 := o0) (o1 := o1) (o2 := o2) (r := r) (fun q => hch q.2)
      rw [hW] at hw
      have w1 : W.1 = true := by rw [hw, cmb_1, cmb_1, cmb_1]; exact hr
      have w2 : W.2.1 = r.2.1 := by rw [hw, cmb_2, cmb_2, cmb_2]
      refine hRZ.2 J o0 o1 o2 (r.2.2 fc) w1 (by rw [w2]; exact h) ?_ (fun q => hch (by rw [← w2]; exact q)) c
      rw [hw, cbv_1, cbv_2, cbv_3]
theorem ru_rule {z : Nat} (hpt : PT d n t M K L I0 R P f fc e z) (hS : m_S M K L R) (hb : s = 0 ∨ Z (s - 1) = 40) (hdp : dp.toInt + z = 4) (h : ps M I0 J f fc e a 0 dp m s V Z) (hm : m ≤ a.toNatClampNeg) (hs : s ≤ a.toNatClampNeg) {W : rdT} (hW : xjo f e (xP f e z) 3 a = W) (hRZ : RZ d n t M K L I0 R P f fc e dp m s V Z W) {c : Option Value} : a_at (d + 4) (a_xm a_m202) 17 [some (a_rf M), some (.int 1), c] [] (n, t, K, L, J, R) P := by
  have ha := ps_a h
  have he := (ps_vw h).2.1
  have hub := xP_b (f := f) (e := e) z a ha.2
  rw [wJ_0] at hW
  refine hpt J a dp m s V Z c h hm hs hdp (fun J' k1 k2 => ?_) (fun J' V' k1 k2 k3 k4 => ?_)
  · have hw2 := wJ_end (f := f) (e := e) (q := xP f e z) (o0 := none) (o1 := none) (o2 := none) (r := xP f e z a) (fun q => by rw [k1] at q; exact absurd q.1 (by decide))
    rw [hW] at hw2
    exact hRZ.1 J' (by rw [hw2]; exact k1) (by rw [hw2]; exact k2)
  · refine pe_no hS k2 (hb.imp id (fun q => by rw [q]; decide)) ⟨rfl, fun c => ?_⟩
    have u1 := Int32.le_iff_toInt_le.mp ha.1
    have u2 := Int32.le_iff_toInt_le.mp he.2
    have hgt := Int32.lt_iff_toInt_lt.mp (hub.2.2 k1)
    have z0 : (0 : Int32).toInt = 0 := rfl
    have z50 : (50 : Int32).toInt = 50 := rfl
    have en : a.toNatClampNeg = a.toInt.toNat := rfl
    have en2 : (xP f e z a).2.1.toNatClampNeg = (xP f e z a).2.1.toInt.toNat := rfl
    exact ru_flat hpt hS hb hdp hRZ 50 J' (xP f e z a) none none none c k1 ⟨V', Z, k2, k3, fun _ _ => rfl, (fun x q => by cases q), (fun x q => by cases q), (fun x q => by cases q), k4⟩ (by omega) (by show m + 0 + 0 + 0 + 1 ≤ _; omega) (by show s + 0 + 0 + 0 ≤ _; omega) hW
theorem pe_all (hS : m_S M K L R) {Q : Option Value → AH → Prop} {b : Int32} : ∀ (s : Nat) (J : Nat → Nat → Int32) (dp : Int32) (V : Nat → Int32), ps M I0 J f fc e a b dp (m + 1) s V Z → (∀ J' dp' s' V', ps M I0 J' f fc e a b dp' (m + 1) s' V' Z → Q none (n, t, K, L, J', R)) → a_does (d + 2) 204 [a_rf M] (n, t, K, L, J, R) Q := by
  intro s
  induction s with
  | zero =>
    intro J dp V h hQ
    exact pe_no hS h (Or.inl rfl) (hQ J dp 0 V h)
  | succ s ih =>
    intro J dp V h hQ
    by_cases c : Z s = 33
    · exact pe_pop hS h c (fun J' h' => ih J' (dp - 1) _ h' hQ)
    · exact pe_no hS h (Or.inr c) (hQ J dp (s + 1) V h)
theorem xC_01 {fc : Nat → Int32} {a : Int32} : (xC f e a).2.2 fc = 0 ∨ (xC f e a).2.2 fc = 1 := by
  have hc : ∀ c x y : Int32, xcmp c x y = 0 ∨ xcmp c x y = 1 := fun c x y => by
    unfold xcmp
    split
    · split
      · exact Or.inr rfl
      · exact Or.inl rfl
    · split
      · split
        · exact Or.inr rfl
        · exact Or.inl rfl
      · split
        · exact Or.inr rfl
        · exact Or.inl rfl
  unfold xC
  split
  · split
    · exact hc _ _ _
    · exact Or.inl rfl
  · exact Or.inl rfl
/-- a part that is a comparison -/
theorem pt_test (hS : m_S M K L R) {z : Nat} (hpart : xP f e z a = xC f e a) {c : Option Value} (h : ps M I0 J f fc e a 0 dp m s V Z) (hm : m ≤ a.toNatClampNeg) (hfail : ∀ J', (xP f e z a).1 = false → xz M I0 J' f fc e (xP f e z a).2.1 1 → P (some (.int 0)) (n, t, K, L, J', R)) (hsucc : ∀ J' V', (xP f e z a).1 = true → ps M I0 J' f fc e (xP f e z a).2.1 0 dp (m + 1) s V' Z → (∀ i, i < m → V' i = V i) → V' m = (xP f e z a).2.2 fc → a_does (d + 4) 204 [a_rf M] (n, t, K, L, J', R) (Qc M d P)) : a_at (d + 4) (a_xm a_m202) 131 [some (a_rf M), some (.int 1), c] [] (n, t, K, L, J, R) P := by
  have ha := ps_a h
  have he := (ps_vw h).2.1
  have hbd := ps_bad h
  have hat := ps_at h
  have h5 := ps_50 h
  have hR := (ps_mC h).1
  have efc : J (M + 32) = fc := funext (ps_fc h)
  have hub := xC_b (f := f) (e := e) ha.2
  rw [hpart] at hfail hsucc
  have ev : (J M 54).toNatClampNeg = m := by rw [ps_vm h, on_t (by omega)]
  have er : 0 ≤ J M 54 ∧ J M 54 < 60 := by rw [ps_vm h]; exact on_r (by omega)
  simp only [q202_131, q202_132, q202_135, q202_136, q202_139, q202_140, m_0 hS, m_K hS, mR_values hS, mK_values hS, mL_values hS, as_nil, as_i, as_r, Nat.reduceAdd, Nat.reduceLeDiff, z_eq0, z_eq1, z_or, z_em, Classical.not_not, not_false_eq_true, not_true_eq_false, true_and, and_true, false_and, and_false, and_self, true_implies, false_implies, implies_true, Option.toList_some, Option.toList_none, List.cons_append, List.nil_append, Nat.add_eq_zero_iff, a_nl_i, a_nl_r, a_nl_n, true_or, or_true, eq_self, ok_4, ok_5, ok_6, ok_7, ok_9, ok_10, ok_20, ok_21, ok_24, ok_30, ok_48, ok_50, ok_60, ok_80, ok_120, ok_180, ok_192, ok_200, ok_900, ok_1000, ok_84000]
  refine xe_readTest hS hR (ps_vw h) (by rw [hat]; exact ha) hbd (fun J1 j1 j2 j3 => ?_)
  rw [hat] at j2 j3 ⊢
  rw [efc]
  have h01 := xC_01 (f := f) (e := e) (fc := fc) (a := a)
  have hand : ∀ x : Int32, (x = 0 ∨ x = 1) → x &&& 1 = x := fun x q => by rcases q with q | q <;> rw [q] <;> rfl
  have e1 := rT_cell j1 (j := 54) (by omega)
  have e2 := rT_cell j1 (j := 56) (by omega)
  have e3 := rT_cell j1 (j := 51) (by omega)
  have e4 := rT_fun j1 (A := (M + 33)) (by omega)
  have e5 := rT_fun j1 (A := (M + 34)) (by omega)
  have e6 := rT_fun j1 (A := (M + 32)) (by omega)
  have ev1 : (J1 M 54).toNatClampNeg = m := by rw [e1, ev]
  have er1 : 0 ≤ J1 M 54 ∧ J1 M 54 < 60 := by rw [e1]; exact er
  have u1 := Int32.le_iff_toInt_le.mp hub.1
  have u2 := Int32.le_iff_toInt_le.mp hub.2.1
  have u3 := Int32.le_iff_toInt_le.mp ha.1
  have u4 := Int32.le_iff_toInt_le.mp ha.2
  have u5 := Int32.le_iff_toInt_le.mp he.2
  have z0 : (0 : Int32).toInt = 0 := rfl
  have z50 : (50 : Int32).toInt = 50 := rfl
  have en : a.toNatClampNeg = a.toInt.toNat := rfl
  -- behind the store
  have hst : ∀ b : Int32, J1 M 50 = b → m + 1 ≤ 51 → ps M I0 (a_ui (a_ui J1 (M + 33) m ((xC f e a).2.2 fc)) M 54 (J1 M 54 + 1)) f fc e (xC f e a).2.1 b dp (m + 1) s (up1 V m ((xC f e a).2.2 fc)) Z := fun b hb m50 => ⟨sC_valueMany (sC_values (mC_T (ps_mC h) j1)), vw_fr (vw_T (ps_vw h) j1) (fun x j p q r => by rw [ui_ap, if_neg (by omega), ui_ap, if_neg (by omega)]), fun j => by rw [ui_ap, if_neg (by omega), ui_ap, if_neg (by omega), e6]; exact ps_fc h j, by rw [ui_ap, if_neg (by omega), ui_ap, if_neg (by omega)]; exact j2, ⟨Int32.le_trans ha.1 hub.1, hub.2.1⟩, by rw [ui_ap, if_neg (by omega), ui_ap, if_neg (by omega)]; exact hb, by rw [ui_ap, if_neg (by omega), ui_ap, if_neg (by omega), e3]; exact ps_dp h, by rw [ui_ap, if_pos ⟨rfl, rfl⟩, e1, ps_vm h, on_a], by rw [ui_ap, if_neg (by omega), ui_ap, if_neg (by omega), e2]; exact ps_sm h, ⟨m50, h5.2⟩, fun i hi => by
      rw [ui_ap, if_neg (by omega), ui_ap]
      by_cases c : i = m
      · subst c; rw [if_pos ⟨rfl, rfl⟩, up1_eq]; exact ⟨rfl, h01⟩
      · rw [if_neg (fun q => c q.2), up1_ne c, e4]; exact ps_V h i (by omega), fun i hi => by
      rw [ui_ap, if_neg (by omega), ui_ap, if_neg (by omega), e5]; exact ps_Z h i hi⟩
  have hgo : a_does (d + 4) 204 [a_rf M] (n, t, K, L, (a_ui (a_ui J1 (M + 33) m ((xC f e a).2.2 fc)) M 54 (J1 M 54 + 1)), R) (Qc M d P) := by
    by_cases ok : (xC f e a).1 = true
    · rw [if_pos ok] at j3
      have hlt := Int32.lt_iff_toInt_lt.mp (hub.2.2 ok)
      exact hsucc _ _ ok (hst 0 j3 (by omega)) (fun i hi => up1_ne (by omega)) up1_eq
    · have ok2 : (xC f e a).1 = false := by cases q : (xC f e a).1; rfl; exact absurd q ok
      rw [if_neg ok] at j3
      refine pe_all hS s _ dp _ (hst 1 j3 (by omega)) (fun J' dp' s' V' h' => ⟨rfl, fun c => ?_⟩)
      exact ru_bad hS (by rw [ps_bad h']; decide) (hfail J' ok2 ⟨ps_mC h', ps_vw h', ps_fc h', ps_at h', ps_bad h'⟩)
  simp only [q202_143, q202_144, q202_145, q202_146, q202_149, q202_150, q202_151, q202_154, q202_155, q202_156, q202_157, m_0 hS, m_K hS, as_nil, as_i, as_r, Nat.reduceAdd, Nat.reduceLeDiff, z_eq0, z_eq1, z_or, z_em, Classical.not_not, not_false_eq_true, not_true_eq_false, true_and, and_true, false_and, and_false, and_self, true_implies, false_implies, implies_true, Option.toList_some, Option.toList_none, List.cons_append, List.nil_append, Nat.add_eq_zero_iff, a_nl_i, a_nl_r, a_nl_n, true_or, or_true, eq_self, ok_4, ok_5, ok_6, ok_7, ok_9, ok_10, ok_20, ok_21, ok_24, ok_30, ok_48, ok_50, ok_60, ok_80, ok_120, ok_180, ok_192, ok_200, ok_900, ok_1000, ok_84000, ui_ap, ne_MM, ne_M0, ne_0M, Nat.reduceEqDiff, reduceIte, if_true, if_false, mK_values hS, mL_values hS, ev, er, hand _ h01]
  refine does_mono hgo (fun r h' q => ?_)
  rw [q.1]
  simp only [q202_160, q202_329, as_nil, as_i, as_r, Nat.reduceAdd, Nat.reduceLeDiff, z_eq0, z_eq1, z_or, z_em, Classical.not_not, not_false_eq_true, not_true_eq_false, true_and, and_true, false_and, and_false, and_self, true_implies, false_implies, implies_true, Option.toList_some, Option.toList_none, List.cons_append, List.nil_append, Nat.add_eq_zero_iff, a_nl_i, a_nl_r, a_nl_n, true_or, or_true, eq_self, ok_4, ok_5, ok_6, ok_7, ok_9, ok_10, ok_20, ok_21, ok_24, ok_30, ok_48, ok_50, ok_60, ok_80, ok_120, ok_180, ok_192, ok_200, ok_900, ok_1000, ok_84000]
  exact q.2 _
theorem ru_246 (hS : m_S M K L R) (hb : s = 0 ∨ Z (s - 1) = 40) {o0 o1 o2 : Option ((Nat → Int32) → Int32)} {cur c : Int32} (h : fl M I0 J f fc e a dp m s V Z o0 o1 o2 cur) (hgo : ∀ J' V', ps M I0 J' f fc e a 0 dp (m + 1) s V' Z → (∀ i, i < m → V' i = V i) → V' m = cbv 47 o0 fc (cbv 124 o1 fc (cbv 38 o2 fc cur)) → a_at (d + 4) (a_xm a_m202) 264 [some (a_rf M), some (.int 0), some (.int c)] [] (n, t, K, L, J', R) P) : a_at (d + 4) (a_xm a_m202) 246 [some (a_rf M), some (.int 0), some (.int c)] [] (n, t, K, L, J, R) P := by
  simp only [q202_246, q202_247, q202_249, m_0 hS, m_K hS, as_nil, as_i, as_r, Nat.reduceAdd, Nat.reduceLeDiff, z_eq0, z_eq1, z_or, z_em, Classical.not_not, not_false_eq_true, not_true_eq_false, true_and, and_true, false_and, and_false, and_self, true_implies, false_implies, implies_true, Option.toList_some, Option.toList_none, List.cons_append, List.nil_append, Nat.add_eq_zero_iff, a_nl_i, a_nl_r, a_nl_n, true_or, or_true, eq_self, ok_4, ok_5, ok_6, ok_7, ok_9, ok_10, ok_20, ok_21, ok_24, ok_30, ok_48, ok_50, ok_60, ok_80, ok_120, ok_180, ok_192, ok_200, ok_900, ok_1000, ok_84000]
  refine f38 (d := d + 2) hS hb h (fun J1 h1 => ?_)
  simp only [q202_252, q202_253, q202_255, m_0 hS, m_K hS, as_nil, as_i, as_r, Nat.reduceAdd, Nat.reduceLeDiff, z_eq0, z_eq1, z_or, z_em, Classical.not_not, not_false_eq_true, not_true_eq_false, true_and, and_true, false_and, and_false, and_self, true_implies, false_implies, implies_true, Option.toList_some, Option.toList_none, List.cons_append, List.nil_append, Nat.add_eq_zero_iff, a_nl_i, a_nl_r, a_nl_n, true_or, or_true, eq_self, ok_4, ok_5, ok_6, ok_7, ok_9, ok_10, ok_20, ok_21, ok_24, ok_30, ok_48, ok_50, ok_60, ok_80, ok_120, ok_180, ok_192, ok_200, ok_900, ok_1000, ok_84000]
  refine f124 (d := d + 2) hS hb h1 (fun J2 h2 => ?_)
  simp only [q202_258, q202_259, q202_261, m_0 hS, m_K hS, as_nil, as_i, as_r, Nat.reduceAdd, Nat.reduceLeDiff, z_eq0, z_eq1, z_or, z_em, Classical.not_not, not_false_eq_true, not_true_eq_false, true_and, and_true, false_and, and_false, and_self, true_implies, false_implies, implies_true, Option.toList_some, Option.toList_none, List.cons_append, List.nil_append, Nat.add_eq_zero_iff, a_nl_i, a_nl_r, a_nl_n, true_or, or_true, eq_self, ok_4, ok_5, ok_6, ok_7, ok_9, ok_10, ok_20, ok_21, ok_24, ok_30, ok_48, ok_50, ok_60, ok_80, ok_120, ok_180, ok_192, ok_200, ok_900, ok_1000, ok_84000]
  refine f47 (d := d + 2) hS hb h2 (fun J3 h3 => ?_)
  obtain ⟨V1, Z1, p1, p2, p3, -, -, -, p7⟩ := h3
  exact hgo J3 V1 (ps_Zc p1 p3) p2 p7
theorem ru_339 (hS : m_S M K L R) (hb : s = 0 ∨ Z (s - 1) = 40) {o0 o1 o2 : Option ((Nat → Int32) → Int32)} {cur : Int32} {w c : Option Value} (h : fl M I0 J f fc e a dp m s V Z o0 o1 o2 cur) (hgo : ∀ J' V', ps M I0 J' f fc e a 0 dp (m + 1) s V' Z → (∀ i, i < m → V' i = V i) → V' m = cbv 47 o0 fc (cbv 124 o1 fc (cbv 38 o2 fc cur)) → a_at (d + 4) (a_xm a_m202) 357 [some (a_rf M), w, c] [] (n, t, K, L, J', R) P) : a_at (d + 4) (a_xm a_m202) 332 [some (a_rf M), w, c] [] (n, t, K, L, J, R) P := by
  obtain ⟨V0, Z0, q0⟩ := fl_ps h
  have hbd := ps_bad q0
  simp only [q202_332, q202_333, q202_336, q202_339, q202_340, q202_342, m_0 hS, m_K hS, as_nil, as_i, as_r, Nat.reduceAdd, Nat.reduceLeDiff, z_eq0, z_eq1, z_or, z_em, Classical.not_not, not_false_eq_true, not_true_eq_false, true_and, and_true, false_and, and_false, and_self, true_implies, false_implies, implies_true, Option.toList_some, Option.toList_none, List.cons_append, List.nil_append, Nat.add_eq_zero_iff, a_nl_i, a_nl_r, a_nl_n, true_or, or_true, eq_self, ok_4, ok_5, ok_6, ok_7, ok_9, ok_10, ok_20, ok_21, ok_24, ok_30, ok_48, ok_50, ok_60, ok_80, ok_120, ok_180, ok_192, ok_200, ok_900, ok_1000, ok_84000, hbd]
  try simp only [true_and, and_true, true_implies, false_implies, implies_true, not_true_eq_false, not_false_eq_true]
  refine f38 (d := d + 2) hS hb h (fun J1 h1 => ?_)
  simp only [q202_345, q202_346, q202_348, m_0 hS, m_K hS, as_nil, as_i, as_r, Nat.reduceAdd, Nat.reduceLeDiff, z_eq0, z_eq1, z_or, z_em, Classical.not_not, not_false_eq_true, not_true_eq_false, true_and, and_true, false_and, and_false, and_self, true_implies, false_implies, implies_true, Option.toList_some, Option.toList_none, List.cons_append, List.nil_append, Nat.add_eq_zero_iff, a_nl_i, a_nl_r, a_nl_n, true_or, or_true, eq_self, ok_4, ok_5, ok_6, ok_7, ok_9, ok_10, ok_20, ok_21, ok_24, ok_30, ok_48, ok_50, ok_60, ok_80, ok_120, ok_180, ok_192, ok_200, ok_900, ok_1000, ok_84000]
  refine f124 (d := d + 2) hS hb h1 (fun J2 h2 => ?_)
  simp only [q202_351, q202_352, q202_354, m_0 hS, m_K hS, as_nil, as_i, as_r, Nat.reduceAdd, Nat.reduceLeDiff, z_eq0, z_eq1, z_or, z_em, Classical.not_not, not_false_eq_true, not_true_eq_false, true_and, and_true, false_and, and_false, and_self, true_implies, false_implies, implies_true, Option.toList_some, Option.toList_none, List.cons_append, List.nil_append, Nat.add_eq_zero_iff, a_nl_i, a_nl_r, a_nl_n, true_or, or_true, eq_self, ok_4, ok_5, ok_6, ok_7, ok_9, ok_10, ok_20, ok_21, ok_24, ok_30, ok_48, ok_50, ok_60, ok_80, ok_120, ok_180, ok_192, ok_200, ok_900, ok_1000, ok_84000]
  refine f47 (d := d + 2) hS hb h2 (fun J3 h3 => ?_)
  obtain ⟨V1, Z1, p1, p2, p3, -, -, -, p7⟩ := h3
  exact hgo J3 V1 (ps_Zc p1 p3) p2 p7
/-- at the loop's head behind a part, what is there -/
theorem ru_head0 (hS : m_S M K L R) {o0 o1 o2 : Option ((Nat → Int32) → Int32)} {cur : Int32} {c : Option Value} (h : fl M I0 J f fc e a dp m s V Z o0 o1 o2 cur) (hch : ¬ (a < e ∧ (f a.toNatClampNeg = 38 ∨ f a.toNatClampNeg = 124 ∨ f a.toNatClampNeg = 47))) (h246 : a < e → a_at (d + 4) (a_xm a_m202) 246 [some (a_rf M), some (.int 0), some (.int (f a.toNatClampNeg))] [] (n, t, K, L, J, R) P) (h332 : a = e → a_at (d + 4) (a_xm a_m202) 332 [some (a_rf M), some (.int 0), c] [] (n, t, K, L, J, R) P) : a_at (d + 4) (a_xm a_m202) 17 [some (a_rf M), some (.int 0), c] [] (n, t, K, L, J, R) P := by
  obtain ⟨V0, Z0, h1⟩ := fl_ps h
  have ha := ps_a h1
  have hbd := ps_bad h1
  have hat := ps_at h1
  have hE := vw_E (ps_vw h1) (by rw [hat]; exact ha)
  have hT := rT_refl (ps_mC h1).1 hE
  have hvJ := hv_x (ps_vw h1) (by rw [hat]; exact ha.1)
  have een : J M 48 = e := (ps_vw h1).1
  rw [q202_17]
  by_cases l : a < e
  · rw [hat, if_pos l] at hvJ
    have h246 := h246 l
    have hlt2 : J M 49 < J M 48 := by rw [hat, een]; exact l
    have hch2 : ¬ (f a.toNatClampNeg = 38 ∨ f a.toNatClampNeg = 124 ∨ f a.toNatClampNeg = 47) := fun q => hch ⟨l, q⟩
    have hle2 := Int32.not_le.mpr hlt2
    simp only [q202_18, q202_21, q202_24, q202_25, q202_28, q202_29, q202_32, q202_33, q202_36, q202_39, q202_40, m_0 hS, m_K hS, as_nil, as_i, as_r, Nat.reduceAdd, Nat.reduceLeDiff, z_eq0, z_eq1, z_or, z_em, Classical.not_not, not_false_eq_true, not_true_eq_false, true_and, and_true, false_and, and_false, and_self, true_implies, false_implies, implies_true, Option.toList_some, Option.toList_none, List.cons_append, List.nil_append, Nat.add_eq_zero_iff, a_nl_i, a_nl_r, a_nl_n, true_or, or_true, eq_self, ok_4, ok_5, ok_6, ok_7, ok_9, ok_10, ok_20, ok_21, ok_24, ok_30, ok_48, ok_50, ok_60, ok_80, ok_120, ok_180, ok_192, ok_200, ok_900, ok_1000, ok_84000, hbd, hlt2, hle2]
    try simp only [true_and, and_true, true_implies, false_implies, implies_true, not_true_eq_false, not_false_eq_true]
    refine ct_here hS hE hT ?_
    rw [hvJ]
    generalize f a.toNatClampNeg = g at hch2 h246 ⊢
    clear h h1 hvJ hT hE hch h332
    simp only [q202_43, q202_44, q202_45, q202_127, q202_128, q202_163, q202_164, q202_166, q202_169, q202_170, q202_172, q202_175, q202_176, q202_178, as_nil, as_i, as_r, Nat.reduceAdd, Nat.reduceLeDiff, z_eq0, z_eq1, z_or, z_em, Classical.not_not, not_false_eq_true, not_true_eq_false, true_and, and_true, false_and, and_false, and_self, true_implies, false_implies, implies_true, Option.toList_some, Option.toList_none, List.cons_append, List.nil_append, Nat.add_eq_zero_iff, a_nl_i, a_nl_r, a_nl_n, true_or, or_true, eq_self, ok_4, ok_5, ok_6, ok_7, ok_9, ok_10, ok_20, ok_21, ok_24, ok_30, ok_48, ok_50, ok_60, ok_80, ok_120, ok_180, ok_192, ok_200, ok_900, ok_1000, ok_84000]
    grind
  · have he : a = e := by clear h h1 hvJ hT hE hch h332 h246; grind
    have h332 := h332 he
    have hge : ¬ J M 49 < J M 48 := by rw [hat, een, he]; exact Int32.lt_irrefl
    simp only [q202_18, q202_21, q202_24, q202_25, q202_28, q202_29, q202_32, q202_33, q202_36, m_0 hS, m_K hS, as_nil, as_i, as_r, Nat.reduceAdd, Nat.reduceLeDiff, z_eq0, z_eq1, z_or, z_em, Classical.not_not, not_false_eq_true, not_true_eq_false, true_and, and_true, false_and, and_false, and_self, true_implies, false_implies, implies_true, Option.toList_some, Option.toList_none, List.cons_append, List.nil_append, Nat.add_eq_zero_iff, a_nl_i, a_nl_r, a_nl_n, true_or, or_true, eq_self, ok_4, ok_5, ok_6, ok_7, ok_9, ok_10, ok_20, ok_21, ok_24, ok_30, ok_48, ok_50, ok_60, ok_80, ok_120, ok_180, ok_192, ok_200, ok_900, ok_1000, ok_84000, hbd, hge]
    try simp only [true_and, and_true, true_implies, false_implies, implies_true, not_true_eq_false, not_false_eq_true]
    first
      | exact h332
      | grind
/-- in brackets -/
theorem pt_rule (hS : m_S M K L R) {z : Nat} (hpt : PT d n t M K L I0 R P f fc e z) {a0 dp0 : Int32} {m s : Nat} {V Z : Nat → Int32} {J : Nat → Nat → Int32} (hdp : (dp0 + 1).toInt + z = 4) (edp : dp0 + 1 - 1 = dp0) (hz1 : Z s = 40) (h : ps M I0 J f fc e (a0 + 1) 0 (dp0 + 1) m (s + 1) V Z) (hm : m ≤ (a0 + 1).toNatClampNeg) (hs : s + 1 ≤ (a0 + 1).toNatClampNeg) (h0 : a0 < e ∧ f a0.toNatClampNeg = 40) {c : Option Value}
 (hfail : ∀ J', (xP f e (z + 1) a0).1 = false → xz M I0 J' f fc e (xP f e (z + 1) a0).2.1 1 → P (some (.int 0)) (n, t, K, L, J', R)) (hsucc : ∀ J' V', (xP f e (z + 1) a0).1 = true → ps M I0 J' f fc e (xP f e (z + 1) a0).2.1 0 dp0 (m + 1) s V' Z → (∀ i, i < m → V' i = V i) → V' m = (xP f e (z + 1) a0).2.2 fc → a_does (d + 4) 204 [a_rf M] (n, t, K, L, J', R) (Qc M d P)) : a_at (d + 4) (a_xm a_m202) 17 [some (a_rf M), some (.int 1), c] [] (n, t, K, L, J, R) P := by
  have hr : ∀ r, r = xjo f e (xP f e z) 3 (a0 + 1) → xP f e (z + 1) a0 = if r.1 = true then (if r.2.1 < e ∧ f r.2.1.toNatClampNeg = 41 then (true, r.2.1 + 1, r.2.2) else (false, r.2.1, fun _ => 0)) else (false, r.2.1, fun _ => 0) := fun r er => by
    subst er
    conv => lhs; unfold xP
    rw [if_pos h0]
  generalize hW : xjo f e (xP f e z) 3 (a0 + 1) = W
  have hr := hr W hW.symm
  refine ru_rule hpt hS (Or.inr (by rw [show s + 1 - 1 = s by omega]; exact hz1)) hdp h hm hs hW ⟨fun J' k1 k2 => ?_, fun J' o0 o1 o2 cur k1 k2 k3 k4 c => ?_⟩
  · have k1' : ¬ W.1 = true := by rw [k1]; decide
    rw [if_neg k1'] at hr
    exact hfail J' (by rw [hr]) (by rw [hr]; exact k2)
  · rw [if_pos k1] at hr
    have hbad : ¬ (W.2.1 < e ∧ f W.2.1.toNatClampNeg = 41) → ∀ J', xz M I0 J' f fc e W.2.1 1 → P (some (.int 0)) (n, t, K, L, J', R) := fun q J' w => by
      rw [if_neg q] at hr
      exact hfail J' (by rw [hr]) (by rw [hr]; exact w)
    have hb : (s + 1) = 0 ∨ Z (s + 1 - 1) = 40 := Or.inr (by rw [show s + 1 - 1 = s by omega]; exact hz1)
    refine ru_head0 hS k2 k4 (fun l => ?_) (fun l => ?_)
    · refine ru_246 hS hb k2 (fun J2 V2 q1 q2 q3 => ?_)
      rw [k3] at q3
      have t := ps_top q1
      have h5 := ps_50 q1
      have hE := vw_E (ps_vw q1) (by rw [ps_at q1]; exact ps_a q1)
      rw [hz1] at t
      obtain ⟨t1, t2, t3⟩ := t
      by_cases c41 : f W.2.1.toNatClampNeg = 41
      · rw [if_pos ⟨l, c41⟩] at hr
        have he := (ps_vw q1).2.1
        have ha := ps_a q1
        have hd := hsucc (a_ui (a_ui (a_ui (a_ui J2 M 50 0) M 56 (J2 M 56 - 1)) M 51 (J2 M 51 - 1)) M 49 (J2 M 49 + 1)) V2 (by rw [hr]) (by
          rw [hr]
          refine ⟨sC_at (sC_deep (sC_signMany (sC_isBad (ps_mC q1)))), vw_fr (ps_vw q1) (fun x j p q r => by simp only [ui_ap]; rw [if_neg (by omega), if_neg (by omega), if_neg (by omega), if_neg (by omega)]), fun j => by rw [ui_ap, if_neg (by omega), ui_ap, if_neg (by omega), ui_ap, if_neg (by omega), ui_ap, if_neg (by omega)]; exact ps_fc q1 j, by rw [ui_ap, if_pos ⟨rfl, rfl⟩, ps_at q1], ⟨by clear hsucc hfail hr k2 q1 hpt h; grind, by clear hsucc hfail hr k2 q1 hpt h; grind⟩, by rw [ui_ap, if_neg (by omega), ui_ap, if_neg (by omega), ui_ap, if_neg (by omega), ui_ap, if_pos ⟨rfl, rfl⟩], by rw [ui_ap, if_neg (by omega), ui_ap, if_pos ⟨rfl, rfl⟩, ps_dp q1, edp], by rw [ui_ap, if_neg (by omega), ui_ap, if_neg (by omega), ui_ap, if_neg (by omega), ui_ap, if_neg (by omega)]; exact ps_vm q1, by rw [ui_ap, if_neg (by omega), ui_ap, if_neg (by omega), ui_ap, if_pos ⟨rfl, rfl⟩, ps_sm q1, on_s], by omega, fun i hi => ?_, fun i hi => ?_⟩
          · rw [ui_ap, if_neg (by omega), ui_ap, if_neg (by omega), ui_ap, if_neg (by omega), ui_ap, if_neg (by omega)]
            exact ps_V q1 i hi
          · rw [ui_ap, if_neg (by omega), ui_ap, if_neg (by omega), ui_ap, if_neg (by omega), ui_ap, if_neg (by omega)]
            exact ps_Z q1 i (by omega)) q2 (by rw [hr, q3])
        rw [c41]
        simp only [q202_264, q202_265, q202_266, q202_268, q202_271, q202_272, q202_275, q202_277, q202_280, q202_281, q202_284, q202_285, q202_288, q202_289, q202_292, q202_295, q202_296, q202_297, q202_300, q202_301, q202_302, q202_305, q202_306, q202_307, q202_310, q202_311, q202_312, q202_315, q202_316, q202_317, q202_320, q202_321, q202_322, q202_325, q202_326, m_0 hS, m_K hS, sp_topSign hS, as_nil, as_i, as_r, Nat.reduceAdd, Nat.reduceLeDiff, z_eq0, z_eq1, z_or, z_em, Classical.not_not, not_false_eq_true, not_true_eq_false, true_and, and_true, false_and, and_false, and_self, true_implies, false_implies, implies_true, Option.toList_some, Option.toList_none, List.cons_append, List.nil_append, Nat.add_eq_zero_iff, a_nl_i, a_nl_r, a_nl_n, true_or, or_true, eq_self, ok_4, ok_5, ok_6, ok_7, ok_9, ok_10, ok_20, ok_21, ok_24, ok_30, ok_48, ok_50, ok_60, ok_80, ok_120, ok_180, ok_192, ok_200, ok_900, ok_1000, ok_84000, ui_ap, ne_MM, ne_M0, ne_0M, Nat.reduceEqDiff, reduceIte, if_true, if_false, t1, t2, t3]
        try simp only [true_and, and_true, true_implies, false_implies, implies_true, not_true_eq_false, not_false_eq_true]
        refine does_mono hd (fun r h' q => ?_)
        rw [q.1]
        simp only [q202_329, as_nil, as_i, as_r, Nat.reduceAdd, Nat.reduceLeDiff, z_eq0, z_eq1, z_or, z_em, Classical.not_not, not_false_eq_true, not_true_eq_false, true_and, and_true, false_and, and_false, and_self, true_implies, false_implies, implies_true, Option.toList_some, Option.toList_none, List.cons_append, List.nil_append, Nat.add_eq_zero_iff, a_nl_i, a_nl_r, a_nl_n, true_or, or_true, eq_self, ok_4, ok_5, ok_6, ok_7, ok_9, ok_10, ok_20, ok_21, ok_24, ok_30, ok_48, ok_50, ok_60, ok_80, ok_120, ok_180, ok_192, ok_200, ok_900, ok_1000, ok_84000]
        exact q.2 _
      · have hp := hbad (fun q => c41 q.2) (a_ui J2 M 50 1) ⟨sC_isBad (ps_mC q1), vw_fr (ps_vw q1) (fun x j p q r => by rw [ui_ap, if_neg (by omega)]), fun j => by rw [ui_ap, if_neg (by omega)]; exact ps_fc q1 j, by rw [ui_ap, if_neg (by omega)]; exact ps_at q1, by rw [ui_ap, if_pos ⟨rfl, rfl⟩]⟩
        have hh := ru_bad (d := d) (J := a_ui J2 M 50 1) (w := some (.int 0)) (c := some (.int (f W.2.1.toNatClampNeg))) hS (by rw [ui_ap, if_pos ⟨rfl, rfl⟩]; decide) hp
        have n1 : ¬ (1 : Int32) = 0 := by decide
        simp only [q202_264, q202_265, q202_266, q202_268, q202_271, q202_272, q202_275, q202_277, q202_280, q202_281, q202_284, q202_285, q202_288, q202_289, q202_292, q202_329, m_0 hS, m_K hS, sp_topSign hS, as_nil, as_i, as_r, Nat.reduceAdd, Nat.reduceLeDiff, z_eq0, z_eq1, z_or, z_em, Classical.not_not, not_false_eq_true, not_true_eq_false, true_and, and_true, false_and, and_false, and_self, true_implies, false_implies, implies_true, Option.toList_some, Option.toList_none, List.cons_append, List.nil_append, Nat.add_eq_zero_iff, a_nl_i, a_nl_r, a_nl_n, true_or, or_true, eq_self, ok_4, ok_5, ok_6, ok_7, ok_9, ok_10, ok_20, ok_21, ok_24, ok_30, ok_48, ok_50, ok_60, ok_80, ok_120, ok_180, ok_192, ok_200, ok_900, ok_1000, ok_84000, ui_ap, ne_MM, ne_M0, ne_0M, Nat.reduceEqDiff, reduceIte, if_true, if_false, c41, t1, t2, t3, n1]
        first
          | exact hh
          | grind
    · refine ru_339 hS hb k2 (fun J2 V2 q1 q2 q3 => ?_)
      have h5 := ps_50 q1
      have hsm : 0 < J2 M 56 := by
        rw [ps_sm q1, Int32.lt_iff_toInt_lt, on_i (by omega)]
        have z0 : (0 : Int32).toInt = 0 := rfl
        omega
      have hp := hbad (fun q => absurd q.1 (by rw [l]; exact Int32.lt_irrefl)) (a_ui J2 M 50 1) ⟨sC_isBad (ps_mC q1), vw_fr (ps_vw q1) (fun x j p q r => by rw [ui_ap, if_neg (by omega)]), fun j => by rw [ui_ap, if_neg (by omega)]; exact ps_fc q1 j, by rw [ui_ap, if_neg (by omega)]; exact ps_at q1, by rw [ui_ap, if_pos ⟨rfl, rfl⟩]⟩
      have n1 : ¬ (1 : Int32) = 0 := by decide
      have hsm2 : ¬ J2 M 56 ≤ 0 := Int32.not_le.mpr hsm
      simp only [q202_357, q202_358, q202_359, q202_362, q202_365, q202_366, q202_369, q202_370, q202_373, q202_374, q202_377, q202_393, q202_394, m_0 hS, m_K hS, as_nil, as_i, as_r, Nat.reduceAdd, Nat.reduceLeDiff, z_eq0, z_eq1, z_or, z_em, Classical.not_not, not_false_eq_true, not_true_eq_false, true_and, and_true, false_and, and_false, and_self, true_implies, false_implies, implies_true, Option.toList_some, Option.toList_none, List.cons_append, List.nil_append, Nat.add_eq_zero_iff, a_nl_i, a_nl_r, a_nl_n, true_or, or_true, eq_self, ok_4, ok_5, ok_6, ok_7, ok_9, ok_10, ok_20, ok_21, ok_24, ok_30, ok_48, ok_50, ok_60, ok_80, ok_120, ok_180, ok_192, ok_200, ok_900, ok_1000, ok_84000, ui_ap, ne_MM, ne_M0, ne_0M, Nat.reduceEqDiff, reduceIte, if_true, if_false, hsm2, n1]
      first
        | exact hp
        | grind
theorem pt_all (hS : m_S M K L R) : ∀ z, PT d n t M K L I0 R P f fc e z := by
  intro z
  induction z with
  | zero =>
    intro J a dp m s V Z c h hm hs hdp hfail hsucc
    have ha := ps_a h
    have he := (ps_vw h).2.1
    have hbd := ps_bad h
    have hat := ps_at h
    have h5 := ps_50 h
    have hE := vw_E (ps_vw h) (by rw [hat]; exact ha)
    have hT := rT_refl (ps_mC h).1 hE
    have hvJ := hv_x (ps_vw h) (by rw [hat]; exact ha.1)
    rw [hat] at hvJ
    have een : J M 48 = e := (ps_vw h).1
    have n10 : ¬ (1 : Int32) = 0 := by decide
    have z4 : (4 : Int32).toInt = 4 := rfl
    rw [q202_17]
    simp only [q202_18, q202_21, q202_24, q202_25, q202_39, q202_40, m_0 hS, m_K hS, as_nil, as_i, as_r, Nat.reduceAdd, Nat.reduceLeDiff, z_eq0, z_eq1, z_or, z_em, Classical.not_not, not_false_eq_true, not_true_eq_false, true_and, and_true, false_and, and_false, and_self, true_implies, false_implies, implies_true, Option.toList_some, Option.toList_none, List.cons_append, List.nil_append, Nat.add_eq_zero_iff, a_nl_i, a_nl_r, a_nl_n, true_or, or_true, eq_self, ok_4, ok_5, ok_6, ok_7, ok_9, ok_10, ok_20, ok_21, ok_24, ok_30, ok_48, ok_50, ok_60, ok_80, ok_120, ok_180, ok_192, ok_200, ok_900, ok_1000, ok_84000, hbd, n10]
    try simp only [true_and, and_true, true_implies, false_implies, implies_true, not_true_eq_false, not_false_eq_true]
    refine ct_here hS hE hT ?_
    by_cases hA : a < e ∧ (f a.toNatClampNeg = 33 ∨ f a.toNatClampNeg = 40)
    · have hr : xP f e 0 a = (false, a, fun _ => 0) := by
        unfold xP
        rw [if_pos hA]
      have d4 : dp = 4 := Int32.toInt_inj.mp (by rw [z4]; omega)
      have hp := hfail (a_ui J M 50 1) (by rw [hr]) (by rw [hr]; exact ⟨sC_isBad (ps_mC h), vw_fr (ps_vw h) (fun x j p q r => by rw [ui_ap, if_neg (by omega)]), fun j => by rw [ui_ap, if_neg (by omega)]; exact ps_fc h j, by rw [ui_ap, if_neg (by omega)]; exact hat, by rw [ui_ap, if_pos ⟨rfl, rfl⟩]⟩)
      have hh := fun c => ru_bad (d := d) (J := a_ui J M 50 1) (w := some (.int 1)) (c := c) hS (by rw [ui_ap, if_pos ⟨rfl, rfl⟩]; decide) hp
      have hdd : J M 51 = 4 := by rw [ps_dp h, d4]
      rw [hvJ, if_pos hA.1]
      have h60 : a_at (d + 4) (a_xm a_m202) 60 [some (a_rf M), some (.int 1), some (.int (f a.toNatClampNeg))] [] (n, t, K, L, J, R) P := by
        have hh := hh (some (.int (f a.toNatClampNeg)))
        simp only [q202_60, q202_61, q202_62, q202_65, q202_66, q202_69, q202_70, q202_73, q202_74, q202_77, q202_78, q202_81, q202_329, m_0 hS, m_K hS, as_nil, as_i, as_r, Nat.reduceAdd, Nat.reduceLeDiff, z_eq0, z_eq1, z_or, z_em, Classical.not_not, not_false_eq_true, not_true_eq_false, true_and, and_true, false_and, and_false, and_self, true_implies, false_implies, implies_true, Option.toList_some, Option.toList_none, List.cons_append, List.nil_append, Nat.add_eq_zero_iff, a_nl_i, a_nl_r, a_nl_n, true_or, or_true, eq_self, ok_4, ok_5, ok_6, ok_7, ok_9, ok_10, ok_20, ok_21, ok_24, ok_30, ok_48, ok_50, ok_60, ok_80, ok_120, ok_180, ok_192, ok_200, ok_900, ok_1000, ok_84000, ui_ap, ne_MM, ne_M0, ne_0M, Nat.reduceEqDiff, reduceIte, if_true, if_false, hdd, n10]
        first
          | exact hh
          | grind
      have hA2 := hA.2
      generalize f a.toNatClampNeg = g at hA2 h60 ⊢
      clear h hfail hsucc hT hE hvJ hh hp hA hr
      simp only [q202_43, q202_44, q202_45, q202_48, q202_49, q202_51, q202_54, q202_55, q202_57, as_nil, as_i, as_r, Nat.reduceAdd, Nat.reduceLeDiff, z_eq0, z_eq1, z_or, z_em, Classical.not_not, not_false_eq_true, not_true_eq_false, true_and, and_true, false_and, and_false, and_self, true_implies, false_implies, implies_true, Option.toList_some, Option.toList_none, List.cons_append, List.nil_append, Nat.add_eq_zero_iff, a_nl_i, a_nl_r, a_nl_n, true_or, or_true, eq_self, ok_4, ok_5, ok_6, ok_7, ok_9, ok_10, ok_20, ok_21, ok_24, ok_30, ok_48, ok_50, ok_60, ok_80, ok_120, ok_180, ok_192, ok_200, ok_900, ok_1000, ok_84000, n10]
      grind
    · have hpart := xP_c (z := 0) hA
      have h131 := fun c => pt_test (c := c) hS hpart h hm hfail hsucc
      rw [hvJ]
      have hg : ¬ ((if a < e then f a.toNatClampNeg else -1) = 33) ∧ ¬ ((if a < e then f a.toNatClampNeg else -1) = 40) := by
        by_cases l : a < e
        · rw [if_pos l]
          exact ⟨fun q => hA ⟨l, Or.inl q⟩, fun q => hA ⟨l, Or.inr q⟩⟩
        · rw [if_neg l]
          decide
      have h131 := h131 (some (.int (if a < e then f a.toNatClampNeg else -1)))
      generalize (if a < e then f a.toNatClampNeg else -1) = g at hg h131 ⊢
      clear h hfail hsucc hT hE hvJ hA hpart
      simp only [q202_43, q202_44, q202_45, q202_48, q202_49, q202_51, q202_54, q202_55, q202_57, q202_127, q202_128, as_nil, as_i, as_r, Nat.reduceAdd, Nat.reduceLeDiff, z_eq0, z_eq1, z_or, z_em, Classical.not_not, not_false_eq_true, not_true_eq_false, true_and, and_true, false_and, and_false, and_self, true_implies, false_implies, implies_true, Option.toList_some, Option.toList_none, List.cons_append, List.nil_append, Nat.add_eq_zero_iff, a_nl_i, a_nl_r, a_nl_n, true_or, or_true, eq_self, ok_4, ok_5, ok_6, ok_7, ok_9, ok_10, ok_20, ok_21, ok_24, ok_30, ok_48, ok_50, ok_60, ok_80, ok_120, ok_180, ok_192, ok_200, ok_900, ok_1000, ok_84000, n10, hg]
      first
        | exact h131
        | grind
  | succ z ih =>
    intro J a dp m s V Z c h hm hs hdp hfail hsucc
    have ha := ps_a h
    have he := (ps_vw h).2.1
    have hbd := ps_bad h
    have hat := ps_at h
    have h5 := ps_50 h
    have hE := vw_E (ps_vw h) (by rw [hat]; exact ha)
    have hT := rT_refl (ps_mC h).1 hE
    have hvJ := hv_x (ps_vw h) (by rw [hat]; exact ha.1)
    rw [hat] at hvJ
    have een : J M 48 = e := (ps_vw h).1
    have n10 : ¬ (1 : Int32) = 0 := by decide
    have z4 : (4 : Int32).toInt = 4 := rfl
    rw [q202_17]
    simp only [q202_18, q202_21, q202_24, q202_25, q202_39, q202_40, m_0 hS, m_K hS, as_nil, as_i, as_r, Nat.reduceAdd, Nat.reduceLeDiff, z_eq0, z_eq1, z_or, z_em, Classical.not_not, not_false_eq_true, not_true_eq_false, true_and, and_true, false_and, and_false, and_self, true_implies, false_implies, implies_true, Option.toList_some, Option.toList_none, List.cons_append, List.nil_append, Nat.add_eq_zero_iff, a_nl_i, a_nl_r, a_nl_n, true_or, or_true, eq_self, ok_4, ok_5, ok_6, ok_7, ok_9, ok_10, ok_20, ok_21, ok_24, ok_30, ok_48, ok_50, ok_60, ok_80, ok_120, ok_180, ok_192, ok_200, ok_900, ok_1000, ok_84000, hbd, n10]
    try simp only [true_and, and_true, true_implies, false_implies, implies_true, not_true_eq_false, not_false_eq_true]
    refine ct_here hS hE hT ?_
    by_cases hA : a < e ∧ (f a.toNatClampNeg = 33 ∨ f a.toNatClampNeg = 40)
    · have ad : a.toNatClampNeg < 50 := by
        have := cl_lt (j := 50) ha.1 (by have := hA.1; clear h hfail hsucc ih hT hE hvJ; grind)
        exact this
      have ea : (a + 1).toNatClampNeg = a.toNatClampNeg + 1 := cl_up ha.1 (by have := hA.1; clear h hfail hsucc ih hT hE hvJ; grind)
      have ddp : (dp + 1).toInt = dp.toInt + 1 := by
        have z1 : (1 : Int32).toInt = 1 := rfl
        have := Int32.le_toInt dp
        rw [ti_add (by omega)]
        omega
      have edp : dp + 1 - 1 = dp := by clear h hfail hsucc ih hT hE hvJ; grind
      have nd4 : ¬ J M 51 = 4 := by
        rw [ps_dp h]
        intro q
        rw [q, z4] at hdp
        omega
      have es : (J M 56).toNatClampNeg = s := by rw [ps_sm h, on_t (by omega)]
      have er : 0 ≤ J M 56 ∧ J M 56 < 60 := by rw [ps_sm h]; exact on_r (by omega)
      have hpu : ∀ g : Int32, ps M I0 (a_ui (a_ui (a_ui (a_ui (a_ui J M 50 0) M 51 (J M 51 + 1)) (M + 34) s g) M 56 (J M 56 + 1)) M 49 (J M 49 + 1)) f fc e (a + 1) 0 (dp + 1) m (s + 1) V (up1 Z s g) := fun g => ⟨sC_at (sC_signMany (sC_signs (sC_deep (sC_isBad (ps_mC h))))), vw_fr (ps_vw h) (fun x j p q r => by rw [ui_ap, if_neg (by omega), ui_ap, if_neg (by omega), ui_ap, if_neg (by omega), ui_ap, if_neg (by omega), ui_ap, if_neg (by omega)]), fun j => by rw [ui_ap, if_neg (by omega), ui_ap, if_neg (by omega), ui_ap, if_neg (by omega), ui_ap, if_neg (by omega), ui_ap, if_neg (by omega)]; exact ps_fc h j, by rw [ui_ap, if_pos ⟨rfl, rfl⟩, hat], ⟨by have := hA.1; clear h hfail hsucc ih hT hE hvJ; grind, by have := hA.1; clear h hfail hsucc ih hT hE hvJ; grind⟩, by rw [ui_ap, if_neg (by omega), ui_ap, if_neg (by omega), ui_ap, if_neg (by omega), ui_ap, if_neg (by omega), ui_ap, if_pos ⟨rfl, rfl⟩], by rw [ui_ap, if_neg (by omega), ui_ap, if_neg (by omega), ui_ap, if_neg (by omega), ui_ap, if_pos ⟨rfl, rfl⟩, ps_dp h], by rw [ui_ap, if_neg (by omega), ui_ap, if_neg (by omega), ui_ap, if_neg (by omega), ui_ap, if_neg (by omega), ui_ap, if_neg (by omega)]; exact ps_vm h, by rw [ui_ap, if_neg (by omega), ui_ap, if_pos ⟨rfl, rfl⟩, ps_sm h, on_a], by omega, fun i hi => by rw [ui_ap, if_neg (by omega), ui_ap, if_neg (by omega), ui_ap, if_neg (by omega), ui_ap, if_neg (by omega), ui_ap, if_neg (by omega)]; exact ps_V h i hi, fun i hi => by
        rw [ui_ap, if_neg (by omega), ui_ap, if_neg (by omega), ui_ap]
        by_cases c : i = s
        · subst c; rw [if_pos ⟨rfl, rfl⟩, up1_eq]
        · rw [if_neg (fun q => c q.2), up1_ne c, ui_ap, if_neg (by omega), ui_ap, if_neg (by omega)]
          exact ps_Z h i (by omega)⟩
      have h60 : a_at (d + 4) (a_xm a_m202) 60 [some (a_rf M), some (.int 1), some (.int (f a.toNatClampNeg))] [] (n, t, K, L, J, R) P := by
        have hgo : a_at (d + 4) (a_xm a_m202) 17 [some (a_rf M), some (.int 1), some (.int (f a.toNatClampNeg))] [] (n, t, K, L, (a_ui (a_ui (a_ui (a_ui (a_ui J M 50 0) M 51 (J M 51 + 1)) (M + 34) s (f a.toNatClampNeg)) M 56 (J M 56 + 1)) M 49 (J M 49 + 1)), R) P := by
          rcases hA.2 with q | q
          · rw [q]
            have hr : xP f e (z + 1) a = ((xP f e z (a + 1)).1, (xP f e z (a + 1)).2.1, fun fc => 1 - (xP f e z (a + 1)).2.2 fc) := by
              conv => lhs; unfold xP
              rw [if_neg (fun w => by rw [q] at w; exact absurd w.2 (by decide)), if_pos ⟨hA.1, q⟩]
            rw [hr] at hfail hsucc
            refine ih _ (a + 1) (dp + 1) m (s + 1) V (up1 Z s 33) _ (hpu 33) (by omega) (by omega) (by omega) hfail (fun J2 V2 k1 k2 k3 k4 => ?_)
            refine pe_pop hS k2 up1_eq (fun J3 k5 => ?_)
            rw [edp] at k5
            refine hsucc J3 (up1 V2 m (1 - V2 m)) k1 (ps_Zc k5 (fun i hi => up1_ne (by omega))) (fun i hi => by rw [up1_ne (by omega)]; exact k3 i hi) ?_
            rw [up1_eq, k4]
          · rw [q]
            exact pt_rule hS ih (by omega) edp up1_eq (hpu 40) (by omega) (by omega) ⟨hA.1, q⟩ hfail (fun J2 V2 k1 k2 k3 k4 => hsucc J2 V2 k1 (ps_Zc k2 (fun i hi => up1_ne (by omega))) k3 k4)
        simp only [q202_60, q202_61, q202_62, q202_65, q202_66, q202_69, q202_70, q202_73, q202_74, q202_77, q202_78, q202_81, q202_84, q202_85, q202_86, q202_89, q202_90, q202_91, q202_94, q202_95, q202_98, q202_99, q202_102, q202_103, q202_104, q202_105, q202_106, q202_109, q202_110, q202_111, q202_114, q202_115, q202_116, q202_119, q202_120, q202_121, q202_124, q202_329, m_0 hS, m_K hS, mR_signs hS, mK_signs hS, mL_signs hS, as_nil, as_i, as_r, Nat.reduceAdd, Nat.reduceLeDiff, z_eq0, z_eq1, z_or, z_em, Classical.not_not, not_false_eq_true, not_true_eq_false, true_and, and_true, false_and, and_false, and_self, true_implies, false_implies, implies_true, Option.toList_some, Option.toList_none, List.cons_append, List.nil_append, Nat.add_eq_zero_iff, a_nl_i, a_nl_r, a_nl_n, true_or, or_true, eq_self, ok_4, ok_5, ok_6, ok_7, ok_9, ok_10, ok_20, ok_21, ok_24, ok_30, ok_48, ok_50, ok_60, ok_80, ok_120, ok_180, ok_192, ok_200, ok_900, ok_1000, ok_84000, ui_ap, ne_MM, ne_M0, ne_0M, Nat.reduceEqDiff, reduceIte, if_true, if_false, es, nd4, er]
        try simp only [true_and, and_true, true_implies, false_implies, implies_true, not_true_eq_false, not_false_eq_true]
        first
          | exact hgo
          | grind
      rw [hvJ, if_pos hA.1]
      have hA2 := hA.2
      generalize f a.toNatClampNeg = g at hA2 h60 ⊢
      clear h hfail hsucc hT hE hvJ hA hpu ih
      simp only [q202_43, q202_44, q202_45, q202_48, q202_49, q202_51, q202_54, q202_55, q202_57, as_nil, as_i, as_r, Nat.reduceAdd, Nat.reduceLeDiff, z_eq0, z_eq1, z_or, z_em, Classical.not_not, not_false_eq_true, not_true_eq_false, true_and, and_true, false_and, and_false, and_self, true_implies, false_implies, implies_true, Option.toList_some, Option.toList_none, List.cons_append, List.nil_append, Nat.add_eq_zero_iff, a_nl_i, a_nl_r, a_nl_n, true_or, or_true, eq_self, ok_4, ok_5, ok_6, ok_7, ok_9, ok_10, ok_20, ok_21, ok_24, ok_30, ok_48, ok_50, ok_60, ok_80, ok_120, ok_180, ok_192, ok_200, ok_900, ok_1000, ok_84000, n10]
      grind
    · have hpart := xP_c (z := z + 1) hA
      have h131 := fun c => pt_test (c := c) hS hpart h hm hfail hsucc
      rw [hvJ]
      have hg : ¬ ((if a < e then f a.toNatClampNeg else -1) = 33) ∧ ¬ ((if a < e then f a.toNatClampNeg else -1) = 40) := by
        by_cases l : a < e
        · rw [if_pos l]
          exact ⟨fun q => hA ⟨l, Or.inl q⟩, fun q => hA ⟨l, Or.inr q⟩⟩
        · rw [if_neg l]
          decide
      have h131 := h131 (some (.int (if a < e then f a.toNatClampNeg else -1)))
      generalize (if a < e then f a.toNatClampNeg else -1) = g at hg h131 ⊢
      clear h hfail hsucc ih hT hE hvJ hA hpart
      simp only [q202_43, q202_44, q202_45, q202_48, q202_49, q202_51, q202_54, q202_55, q202_57, q202_127, q202_128, as_nil, as_i, as_r, Nat.reduceAdd, Nat.reduceLeDiff, z_eq0, z_eq1, z_or, z_em, Classical.not_not, not_false_eq_true, not_true_eq_false, true_and, and_true, false_and, and_false, and_self, true_implies, false_implies, implies_true, Option.toList_some, Option.toList_none, List.cons_append, List.nil_append, Nat.add_eq_zero_iff, a_nl_i, a_nl_r, a_nl_n, true_or, or_true, eq_self, ok_4, ok_5, ok_6, ok_7, ok_9, ok_10, ok_20, ok_21, ok_24, ok_30, ok_48, ok_50, ok_60, ok_80, ok_120, ok_180, ok_192, ok_200, ok_900, ok_1000, ok_84000, n10, hg]
      first
        | exact h131
        | grind
end XD

/-! frames -/
/-- the class's cells that only few calls change, and all that isn't the class's own -/
def eD (C : Nat) (K : Nat → Nat) (x j : Nat) : Prop := x < C ∨ (C + 44 ≤ x ∧ x ≤ C + 96) ∨ x = C + 1 ∨ x = C + 2 ∨ x = C + 3 ∨ x = C + 4 ∨ x = C + 5 ∨ x = C + 6 ∨ (x = C + 14 ∧ (j = 5 ∨ j = 6)) ∨ x = C + 18 ∨ (x = C + 17 ∧ j = 5) ∨ (x = C + 22 ∧ j = 8) ∨ x = C + 43 ∨ (x = C ∧ j = 10) ∨ x = C + 12 ∨ (x = C + 11 ∧ j = 2) ∨ (x = C + 7 ∧ j = 3) ∨ (C + 96 < x ∧ K x = 11)
def dC (C : Nat) (K L : Nat → Nat) (R : Nat → Nat → Nat) (I J : Nat → Nat → Int32) : Prop := cT C K L J R ∧ ∀ x j, ¬ x = C + 9 → ¬ x = C + 10 → J x j = I x j
def dL (C : Nat) (K L : Nat → Nat) (R : Nat → Nat → Nat) (I J : Nat → Nat → Int32) : Prop := cT C K L J R ∧ ∀ x j, ¬ x = C + 9 → ¬ x = C + 10 → ¬ (C + 96 < x ∧ (K x = 20 ∨ (K x = 1 ∧ (j = 13 ∨ j = 14)))) → J x j = I x j
def dG (C : Nat) (K L : Nat → Nat) (R : Nat → Nat → Nat) (I J : Nat → Nat → Int32) : Prop := cT C K L J R ∧ ∀ x j, eD C K x j → J x j = I x j
section K3
variable {C : Nat} {K L : Nat → Nat} {I I0 J J0 : Nat → Nat → Int32} {R : Nat → Nat → Nat}
theorem dC_refl (h : cT C K L I R) : dC C K L R I I := ⟨h, fun _ _ _ _ => rfl⟩
theorem dL_refl (h : cT C K L I R) : dL C K L R I I := ⟨h, fun _ _ _ _ _ => rfl⟩
theorem dG_refl (h : cT C K L I R) : dG C K L R I I := ⟨h, fun _ _ _ => rfl⟩
theorem dC_C (h : dC C K L R I0 I) (h2 : dC C K L R I J) : dC C K L R I0 J := ⟨h2.1, fun x j p q => (h2.2 x j p q).trans (h.2 x j p q)⟩
theorem dL_C (h : dL C K L R I0 I) (h2 : dC C K L R I J) : dL C K L R I0 J := ⟨h2.1, fun x j p q r => (h2.2 x j p q).trans (h.2 x j p q r)⟩
theorem dL_L (h : dL C K L R I0 I) (h2 : dL C K L R I J) : dL C K L R I0 J := ⟨h2.1, fun x j p q r => (h2.2 x j p q r).trans (h.2 x j p q r)⟩
theorem dG_C (h : dG C K L R I0 I) (h2 : dC C K L R I J) : dG C K L R I0 J := ⟨h2.1, fun x j p => (h2.2 x j (by unfold eD at p; omega) (by unfold eD at p; omega)).trans (h.2 x j p)⟩
theorem dG_L (h : dG C K L R I0 I) (h2 : dL C K L R I J) : dG C K L R I0 J := ⟨h2.1, fun x j p => (h2.2 x j (by unfold eD at p; omega) (by unfold eD at p; omega) (by unfold eD at p; omega)).trans (h.2 x j p)⟩
theorem dC_T (h : dC C K L R I J) : cT C K L J R := h.1
theorem dC_9 (h : dC C K L R I J) {k : Nat} {v : Int32} : dC C K L R I (a_ui J (C + 9) k v) := ⟨sT_Rules_facts h.1, fun x j p q => by rw [ui_ap, if_neg (fun e => p e.1)]; exact h.2 x j p q⟩
theorem dC_10 (h : dC C K L R I J) {k : Nat} {v : Int32} : dC C K L R I (a_ui J (C + 10) k v) := ⟨sT_Rules_stack h.1, fun x j p q => by rw [ui_ap, if_neg (fun e => q e.1)]; exact h.2 x j p q⟩
theorem dL_arr (h : dL C K L R I J) {x k : Nat} {v : Int32} (hx : C + 96 < x) (hk : K x = 20) : dL C K L R I (a_ui J x k v) := ⟨sT_arr h.1 hx hk, fun y j p q r => by rw [ui_ap, if_neg (fun e => r ⟨by omega, Or.inl (by rw [e.1]; exact hk)⟩)]; exact h.2 y j p q r⟩
theorem dL_place (h : dL C K L R I J) {x : Nat} {w v : Int32} (hx : C + 96 < x) (hk : K x = 1) (hv : 0 ≤ w → 0 ≤ v ∧ v ≤ 199 ∧ v + J x 2 ≤ 200) : dL C K L R I (a_ui (a_ui J x 13 w) x 14 v) := ⟨sT_place h.1 hx hk hv, fun y j p q r => by rw [ui_ap, if_neg (fun e => r ⟨by omega, Or.inr ⟨by rw [e.1]; exact hk, Or.inr e.2⟩⟩), ui_ap, if_neg (fun e => r ⟨by omega, Or.inr ⟨by rw [e.1]; exact hk, Or.inl e.2⟩⟩)]; exact h.2 y j p q r⟩
theorem dG_ui (h : dG C K L R I J) {x k : Nat} {v : Int32} (hT : cT C K L (a_ui J x k v) R) (hx : ¬ eD C K x k) : dG C K L R I (a_ui J x k v) := ⟨hT, fun y j p => by rw [ui_ap, if_neg (fun e => hx (by rw [← e.1, ← e.2]; exact p))]; exact h.2 y j p⟩

theorem dG_19 (h : dG C K L R I J) {k : Nat} {v : Int32} : dG C K L R I (a_ui J (C + 19) k v) := dG_ui h (sT_Panel_told h.1) (by unfold eD; omega)
theorem dG_20 (h : dG C K L R I J) {k : Nat} {v : Int32} : dG C K L R I (a_ui J (C + 20) k v) := dG_ui h (sT_Panel_marks h.1) (by unfold eD; omega)
theorem dG_21 (h : dG C K L R I J) {k : Nat} {v : Int32} : dG C K L R I (a_ui J (C + 21) k v) := dG_ui h (sT_Panel_habits h.1) (by unfold eD; omega)
theorem dG_24 (h : dG C K L R I J) {k : Nat} {v : Int32} : dG C K L R I (a_ui J (C + 24) k v) := dG_ui h (sT_Planner_passed h.1) (by unfold eD; omega)
theorem dG_25 (h : dG C K L R I J) {k : Nat} {v : Int32} : dG C K L R I (a_ui J (C + 25) k v) := dG_ui h (sT_Planner_oldBench h.1) (by unfold eD; omega)
theorem dG_26 (h : dG C K L R I J) {k : Nat} {v : Int32} : dG C K L R I (a_ui J (C + 26) k v) := dG_ui h (sT_Planner_oldShift h.1) (by unfold eD; omega)
theorem dG_29 (h : dG C K L R I J) {k : Nat} {v : Int32} : dG C K L R I (a_ui J (C + 29) k v) := dG_ui h (sT_Best_spots h.1) (by unfold eD; omega)
theorem dG_30 (h : dG C K L R I J) {k : Nat} {v : Int32} : dG C K L R I (a_ui J (C + 30) k v) := dG_ui h (sT_Best_watches h.1) (by unfold eD; omega)
theorem dG_32 (h : dG C K L R I J) {k : Nat} {v : Int32} : dG C K L R I (a_ui J (C + 32) k v) := dG_ui h (sT_Best_reach h.1) (by unfold eD; omega)
theorem dG_33 (h : dG C K L R I J) {k : Nat} {v : Int32} : dG C K L R I (a_ui J (C + 33) k v) := dG_ui h (sT_Best_tried h.1) (by unfold eD; omega)
theorem dG_36 (h : dG C K L R I J) {k : Nat} {v : Int32} : dG C K L R I (a_ui J (C + 36) k v) := dG_ui h (sT_Circle_wishes h.1) (by unfold eD; omega)
theorem dG_37 (h : dG C K L R I J) {k : Nat} {v : Int32} : dG C K L R I (a_ui J (C + 37) k v) := dG_ui h (sT_Circle_sound h.1) (by unfold eD; omega)
theorem dG_42 (h : dG C K L R I J) {k : Nat} {v : Int32} : dG C K L R I (a_ui J (C + 42) k v) := dG_ui h (sT_BeamHall_refused h.1) (by unfold eD; omega)
theorem dG_31 (h : dG C K L R I J) {k : Nat} {v : Int32} (hv : 0 ≤ v ∧ v ≤ 48) : dG C K L R I (a_ui J (C + 31) k v) := dG_ui h (sT_Best_spotCounts h.1 hv) (by unfold eD; omega)
theorem dG_Planner_orderSize (h : dG C K L R I J) {v : Int32} (hv : 0 ≤ v ∧ v ≤ 30) : dG C K L R I (a_ui J (C + 22) 6 v) := dG_ui h (sT_Planner_orderSize h.1 hv) (by unfold eD; omega)
theorem dG_Planner_passedCount (h : dG C K L R I J) {v : Int32} (hv : 0 ≤ v ∧ v ≤ 30) : dG C K L R I (a_ui J (C + 22) 7 v) := dG_ui h (sT_Planner_passedCount h.1 hv) (by unfold eD; omega)
theorem dG_Best_size (h : dG C K L R I J) {v : Int32} (hv : 0 ≤ v ∧ v ≤ 4) : dG C K L R I (a_ui J (C + 27) 8 v) := dG_ui h (sT_Best_size h.1 hv) (by unfold eD; omega)
theorem dG_Circle_size (h : dG C K L R I J) {v : Int32} (hv : 0 ≤ v ∧ v ≤ 5) : dG C K L R I (a_ui J (C + 35) 7 v) := dG_ui h (sT_Circle_size h.1 hv) (by unfold eD; omega)
theorem dG_Best_sum (h : dG C K L R I J) {v : Int32} : dG C K L R I (a_ui J (C + 27) 9 v) := dG_ui h (sT_Best_sum h.1) (by unfold eD; omega)
theorem dG_askf (h : dG C K L R I J) {x k : Nat} {v : Int32} (hx : C + 96 < x) (hk : K x = 1) (hf : ¬ k = 2 ∧ ¬ k = 4 ∧ ¬ k = 13 ∧ ¬ k = 14) : dG C K L R I (a_ui J x k v) := dG_ui h (sT_askf h.1 hx hk hf) (by unfold eD; omega)
end K3
section K4
variable {d n t C : Nat} {K L : Nat → Nat} {I I0 J J0 J1 J2 : Nat → Nat → Int32} {R : Nat → Nat → Nat} {P : Option Value → AH → Prop}
theorem okI {i : Int32} {n : Nat} (h0 : 0 ≤ i) (h : i.toInt < n) : a_ok i n := by
  unfold a_ok
  rw [not_or, Int32.not_lt, Nat.not_le]
  refine ⟨h0, ?_⟩
  have := Int32.le_iff_toInt_le.mp h0
  simp at this
  show i.toInt.toNat < n
  omega
theorem of_50 : Int32.ofNat 50 = 50 := rfl
theorem of_9 : Int32.ofNat 9 = 9 := rfl
def us (x k : Int32) : Int32 := (x.toUInt32 >>> (k.toUInt32 &&& Int32.toUInt32 31)).toInt32
def bcf (x : Int32) : Int32 :=
  let a := x - (us x 1 &&& 1431655765)
  let b := (a &&& 858993459) + (us a 2 &&& 858993459)
  let c := (b + us b 4) &&& 252645135
  let e := c + us c 8
  (e + us e 16) &&& 63
theorem sp_bitCount {a : Int32} {h : AH} : a_does (d + 1) 57 [.int a] h P ↔ P (some (.int (bcf a))) h := by
  rw [a_enter1 (M := a_m57) rfl (a_cat_int a_cat_nil) (show 1 ≤ 1 by decide)]
  show a_at _ (a_xm a_m57) 0 [some (.int a)] [] _ _ ↔ _
  simp only [q57_0, q57_1, q57_2, q57_3, q57_4, q57_7, q57_8, q57_9, q57_10, q57_11, q57_14, q57_15, q57_16, q57_17, q57_18, q57_21, q57_22, q57_23, q57_24, q57_25, q57_26, q57_27, q57_28, q57_29, q57_32, q57_33, q57_34, q57_35, q57_36, q57_38, q57_39, q57_40, q57_41, q57_42, q57_43, q57_45, q57_46, q57_47, q57_48, q57_49, q57_51, q57_52, as_nil, as_i, as_r, Nat.reduceAdd, Nat.reduceLeDiff, z_eq0, z_eq1, z_or, z_em, Classical.not_not, not_false_eq_true, not_true_eq_false, true_and, and_true, false_and, and_false, and_self, true_implies, false_implies, implies_true, Option.toList_some, Option.toList_none, List.cons_append, List.nil_append, Nat.add_eq_zero_iff, a_nl_i, a_nl_r, a_nl_n, true_or, or_true, eq_self]
  exact Iff.rfl
theorem bcf_8 {x : Int32} (h : 0 ≤ x ∧ x ≤ 255) : 0 ≤ bcf x ∧ bcf x ≤ 8 := by
  have h1 := Int32.le_iff_toInt_le.mp h.1
  have h2 := Int32.le_iff_toInt_le.mp h.2
  have h255 : (255 : Int32).toInt = 255 := rfl
  simp at h1
  have key : ∀ k : Fin 256, 0 ≤ bcf (Int32.ofInt k.val) ∧ bcf (Int32.ofInt k.val) ≤ 8 := by decide +kernel
  have e : x = Int32.ofInt ((⟨x.toInt.toNat, by omega⟩ : Fin 256).val : Nat) := by
    show x = Int32.ofInt (x.toInt.toNat : Nat)
    rw [show ((x.toInt.toNat : Nat) : Int) = x.toInt by omega, Int32.ofInt_toInt]
  rw [e]
  exact key _
def lf (g : Nat → Int32) (e : Int32) : Nat → Int32 → Int32 → Int32
  | 0, _, u => u
  | k + 1, s, u => if s < e ∧ s < 200 then lf g e k (s + 1) (u + bcf (g s.toNatClampNeg)) else u
theorem lf_rng {g : Nat → Int32} (hg : ∀ j, 0 ≤ g j ∧ g j ≤ 255) {e : Int32} : ∀ (k : Nat) (s u m : Int32), 0 ≤ s → s ≤ 300 → 0 ≤ m ∧ m ≤ 4 → e ≤ s + m → 0 ≤ u ∧ u ≤ 32 ∧ u + 8 * m ≤ 32 → 0 ≤ lf g e k s u ∧ lf g e k s u ≤ u + 8 * m := by
  intro k
  induction k with
  | zero => intro s u m h0 h1 h2 h3 h4; unfold lf; grind
  | succ k ih =>
    intro s u m h0 h1 h2 h3 h4
    unfold lf
    by_cases c : s < e ∧ s < 200
    · rw [if_pos c]
      have b := bcf_8 (hg s.toNatClampNeg)
      generalize bcf (g s.toNatClampNeg) = y at b
      have hm : 1 ≤ m := by clear ih hg; grind
      have := ih (s + 1) (u + y) (m - 1) (by clear ih hg; grind) (by clear ih hg; grind) (by clear ih hg; grind) (by clear ih hg; grind) (by clear ih hg; grind)
      generalize lf g e k (s + 1) (u + y) = z at this
      clear ih hg; grind
    · rw [if_neg c]
      clear ih hg; grind
theorem lk_lostFrom_5 (hS : cS C K L R) {f l : Int32} : ∀ k : Nat, ∀ s u : Int32, 0 ≤ s → 200 ≤ s.toInt + k → P (some (.int (lf (I (C + 3)) (f + l) k s u))) (n, t, K, L, I, R) → a_at (d + 1) (a_xm a_m56) 5 [some (a_rf (C + 1)), some (.int f), some (.int l), some (.int u), some (.int s)] [] (n, t, K, L, I, R) P := by
  intro k
  induction k with
  | zero =>
    intro s u h0 h1 hP
    have : ¬ s < 200 := by rw [Int32.not_lt, Int32.le_iff_toInt_le]; simp; omega
    rw [q56_5]
    simp only [q56_7, q56_8, q56_9, q56_10, q56_13, q56_15, q56_18, q56_40, q56_41, as_nil, as_i, as_r, Nat.reduceAdd, Nat.reduceLeDiff, z_eq0, z_eq1, z_or, z_em, Classical.not_not, not_false_eq_true, not_true_eq_false, true_and, and_true, false_and, and_false, and_self, true_implies, false_implies, implies_true, Option.toList_some, Option.toList_none, List.cons_append, List.nil_append, Nat.add_eq_zero_iff, a_nl_i, a_nl_r, a_nl_n, true_or, or_true, eq_self, a_isRA_22, a_isRA_24, a_isRA_32, a_isA_20, ok_4, ok_5, ok_6, ok_7, ok_9, ok_20, ok_21, ok_30, ok_50, ok_180, ok_192, ok_200]
    exact ⟨fun _ => hP, fun _ => ⟨fun _ => hP, fun h => absurd (Int32.not_le.mp h) this⟩⟩
  | succ k ih =>
    intro s u h0 h1 hP
    rw [q56_5]
    simp only [q56_7, q56_8, q56_9, q56_10, q56_13, q56_15, q56_18, q56_21, q56_22, q56_23, q56_26, q56_28, q56_29, q56_32, q56_33, q56_34, q56_37, q56_40, q56_41, k_1 hS, z_1, r_1_1 hS, k_3 hS, l_3 hS, z_3, as_nil, as_i, as_r, Nat.reduceAdd, Nat.reduceLeDiff, z_eq0, z_eq1, z_or, z_em, Classical.not_not, not_false_eq_true, not_true_eq_false, true_and, and_true, false_and, and_false, and_self, true_implies, false_implies, implies_true, Option.toList_some, Option.toList_none, List.cons_append, List.nil_append, Nat.add_eq_zero_iff, a_nl_i, a_nl_r, a_nl_n, true_or, or_true, eq_self, a_isRA_22, a_isRA_24, a_isRA_32, a_isA_20, ok_4, ok_5, ok_6, ok_7, ok_9, ok_20, ok_21, ok_30, ok_50, ok_180, ok_192, ok_200, sp_bitCount]
    unfold lf at hP
    refine ⟨fun h => ?_, fun h => ⟨fun h2 => ?_, fun h2 => ⟨by grind, ?_⟩⟩⟩
    · rw [if_neg (by grind)] at hP; exact hP
    · rw [if_neg (by grind)] at hP; exact hP
    · rw [if_pos (by grind)] at hP
      have h3 := Int32.lt_iff_toInt_lt.mp (Int32.not_le.mp h2)
      have h4 := Int32.le_iff_toInt_le.mp h0
      simp at h3 h4
      have h5 : (s + 1).toInt = s.toInt + 1 := by
        rw [Int32.toInt_add]
        simp [Int.bmod_def]
        omega
      exact ih (s + 1) _ (by grind) (by omega) hP
theorem ck_lostFrom (hS : cS C K L R) {f l : Int32} (h0 : 0 ≤ f) (hP : P (some (.int (lf (I (C + 3)) (f + l) 200 f 0))) (n, t, K, L, I, R)) : a_does (d + 2) 56 [a_rf (C + 1), .int f, .int l] (n, t, K, L, I, R) P := by
  rw [a_enter1 (M := a_m56) rfl (a_cat_rf (a_cat_int (a_cat_int a_cat_nil))) (show 3 ≤ 5 by decide)]
  show a_at _ (a_xm a_m56) 0 [some (a_rf (C + 1)), some (.int f), some (.int l), none, none] [] _ _
  simp only [q56_0, q56_1, q56_2, q56_3, as_nil, as_i, as_r, Nat.reduceAdd, Nat.reduceLeDiff, z_eq0, z_eq1, z_or, z_em, Classical.not_not, not_false_eq_true, not_true_eq_false, true_and, and_true, false_and, and_false, and_self, true_implies, false_implies, implies_true, Option.toList_some, Option.toList_none, List.cons_append, List.nil_append, Nat.add_eq_zero_iff, a_nl_i, a_nl_r, a_nl_n, true_or, or_true, eq_self, a_isRA_22, a_isRA_24, a_isRA_32, a_isA_20, ok_4, ok_5, ok_6, ok_7, ok_9, ok_20, ok_21, ok_30, ok_50, ok_180, ok_192, ok_200]
  have := Int32.le_iff_toInt_le.mp h0
  simp at this
  exact lk_lostFrom_5 hS 200 f 0 h0 (by omega) hP
def jn (g a b : Int32) : Int32 := if g.toInt = 2000 then a + b else if g.toInt = 2001 then a - b else if g.toInt = 2002 then a * b else if g.toInt = 2003 then (if a < b then 1 else 0) else if g.toInt = 2004 then (if a = b then 1 else 0) else if g.toInt = 2005 then (if b < a then 1 else 0) else if g.toInt = 2006 then a &&& b else if g.toInt = 2007 then a ||| b else if g.toInt = 2008 then a &&& (1 - b) else 0
theorem sp_joined {g a b : Int32} {h : AH} : a_does (d + 1) 65 [.int g, .int a, .int b] h P ↔ P (some (.int (jn g a b))) h := by
  rw [a_enter1 (M := a_m65) rfl (a_cat_int (a_cat_int (a_cat_int a_cat_nil))) (show 3 ≤ 3 by decide)]
  show a_at _ (a_xm a_m65) 0 [some (.int g), some (.int a), some (.int b)] [] _ _ ↔ _
  simp only [q65_0, q65_1, q65_52, q65_53, q65_54, q65_55, q65_56, q65_57, q65_58, q65_59, q65_60, q65_61, q65_62, q65_63, q65_64, q65_65, q65_66, q65_69, q65_70, q65_73, q65_74, q65_75, q65_76, q65_77, q65_80, q65_81, q65_84, q65_85, q65_86, q65_87, q65_88, q65_91, q65_92, q65_95, q65_96, q65_97, q65_98, q65_99, q65_100, q65_101, q65_102, q65_103, q65_104, q65_105, q65_106, q65_107, q65_108, q65_109, q65_110, q65_111, q65_112, a_sw, as_nil, as_i, as_r, Nat.reduceAdd, Nat.reduceLeDiff, z_eq0, z_eq1, z_or, z_em, Classical.not_not, not_false_eq_true, not_true_eq_false, true_and, and_true, false_and, and_false, and_self, true_implies, false_implies, implies_true, Option.toList_some, Option.toList_none, List.cons_append, List.nil_append, Nat.add_eq_zero_iff, a_nl_i, a_nl_r, a_nl_n, true_or, or_true, eq_self]
  unfold jn
  by_cases c0 : g.toInt = 2000
  · simp only [c0, if_true, if_false, true_implies, false_implies, true_and, and_true, not_true_eq_false, not_false_eq_true, Int.reduceEq]
    try grind
  · skip
    by_cases c1 : g.toInt = 2001
    · simp only [c0, c1, if_true, if_false, true_implies, false_implies, true_and, and_true, not_true_eq_false, not_false_eq_true, Int.reduceEq]
      try grind
    · skip
      by_cases c2 : g.toInt = 2002
      · simp only [c0, c1, c2, if_true, if_false, true_implies, false_implies, true_and, and_true, not_true_eq_false, not_false_eq_true, Int.reduceEq]
        try grind
      · skip
        by_cases c3 : g.toInt = 2003
        · simp only [c0, c1, c2, c3, if_true, if_false, true_implies, false_implies, true_and, and_true, not_true_eq_false, not_false_eq_true, Int.reduceEq]
          try grind
        · skip
          by_cases c4 : g.toInt = 2004
          · simp only [c0, c1, c2, c3, c4, if_true, if_false, true_implies, false_implies, true_and, and_true, not_true_eq_false, not_false_eq_true, Int.reduceEq]
            try grind
          · skip
            by_cases c5 : g.toInt = 2005
            · simp only [c0, c1, c2, c3, c4, c5, if_true, if_false, true_implies, false_implies, true_and, and_true, not_true_eq_false, not_false_eq_true, Int.reduceEq]
              try grind
            · skip
              by_cases c6 : g.toInt = 2006
              · simp only [c0, c1, c2, c3, c4, c5, c6, if_true, if_false, true_implies, false_implies, true_and, and_true, not_true_eq_false, not_false_eq_true, Int.reduceEq]
                try grind
              · skip
                by_cases c7 : g.toInt = 2007
                · simp only [c0, c1, c2, c3, c4, c5, c6, c7, if_true, if_false, true_implies, false_implies, true_and, and_true, not_true_eq_false, not_false_eq_true, Int.reduceEq]
                  try grind
                · skip
                  by_cases c8 : g.toInt = 2008
                  · simp only [c0, c1, c2, c3, c4, c5, c6, c7, c8, if_true, if_false, true_implies, false_implies, true_and, and_true, not_true_eq_false, not_false_eq_true, Int.reduceEq]
                    try grind
                  · simp only [c0, c1, c2, c3, c4, c5, c6, c7, c8, if_true, if_false, true_implies, false_implies, true_and, and_true, not_true_eq_false, not_false_eq_true]
def up1 (s : Nat → Int32) (k : Nat) (v : Int32) : Nat → Int32 := fun j => if j = k then v else s j
theorem up1_ui {a k : Nat} {v : Int32} : (a_ui J a k v) a = up1 (J a) k v := by funext j; simp [ui_ap, up1]
/-- what a text's signs come to: signs, facts, length; fuel, place, height, stack -/
def vs (cd fc : Nat → Int32) (ln : Int32) : Nat → Int32 → Int32 → (Nat → Int32) → Int32
  | 0, _, _, _ => 0
  | k + 1, i, o, s => if ln ≤ i then (if o ≤ 0 then 0 else s 0) else
    if cd i.toNatClampNeg = 2009 then (if o ≤ 0 then vs cd fc ln k (i + 1) o s else vs cd fc ln k (i + 1) o (up1 s (o - 1).toNatClampNeg (1 - s (o - 1).toNatClampNeg)))
    else if cd i.toNatClampNeg < 2000 then (if 50 ≤ o then vs cd fc ln k (i + 1) o s else vs cd fc ln k (i + 1) (o + 1) (up1 s o.toNatClampNeg (if 0 ≤ cd i.toNatClampNeg - 1000 ∧ cd i.toNatClampNeg - 1000 < 9 then fc (cd i.toNatClampNeg - 1000).toNatClampNeg else cd i.toNatClampNeg)))
    else if o ≤ 1 then vs cd fc ln k (i + 1) o s else vs cd fc ln k (i + 1) (o + (-1)) (up1 s (o + (-1) - 1).toNatClampNeg (jn (cd i.toNatClampNeg) (s (o + (-1) - 1).toNatClampNeg) (s (o + (-1)).toNatClampNeg)))
theorem cl_ne {i j : Int32} (h0 : 0 ≤ i) (h : i < j) : ¬ i.toNatClampNeg = j.toNatClampNeg := Nat.ne_of_lt (cl_lt h0 h)
/-- what lies above doesn't count -/
theorem vs_eq {cd fc : Nat → Int32} {ln : Int32} : ∀ (k : Nat) (i o : Int32) (s s' : Nat → Int32), 0 ≤ o → o ≤ 50 → (∀ j : Int32, 0 ≤ j → j < o → s j.toNatClampNeg = s' j.toNatClampNeg) → vs cd fc ln k i o s = vs cd fc ln k i o s' := by
  intro k
  induction k with
  | zero => intro i o s s' _ _ _; rfl
  | succ k ih =>
    intro i o s s' h0 h50 h
    unfold vs
    have hup : ∀ (p v : Int32), 0 ≤ p → ∀ j : Int32, 0 ≤ j → (¬ j = p → j < o) → up1 s p.toNatClampNeg v j.toNatClampNeg = up1 s' p.toNatClampNeg v j.toNatClampNeg := by
      intro p v hp j hj hjo
      unfold up1
      by_cases hjp : j = p
      · subst hjp; rw [if_pos rfl, if_pos rfl]
      · rw [if_neg (fun e => hjp (cl_inj hj hp e)), if_neg (fun e => hjp (cl_inj hj hp e))]
        exact h j hj (hjo hjp)
    by_cases c1 : ln ≤ i
    · rw [if_pos c1, if_pos c1]
      by_cases c2 : o ≤ 0
      · rw [if_pos c2, if_pos c2]
      · rw [if_neg c2, if_neg c2]
        exact h 0 (by decide) (by grind)
    · rw [if_neg c1, if_neg c1]
      by_cases c3 : cd i.toNatClampNeg = 2009
      · rw [if_pos c3, if_pos c3]
        by_cases c2 : o ≤ 0
        · rw [if_pos c2, if_pos c2]; exact ih _ _ _ _ h0 h50 h
        · rw [if_neg c2, if_neg c2, h (o - 1) (by grind) (by grind)]
          exact ih _ _ _ _ h0 h50 (fun j p q => hup (o - 1) _ (by grind) j p (fun _ => q))
      · rw [if_neg c3, if_neg c3]
        by_cases c4 : cd i.toNatClampNeg < 2000
        · rw [if_pos c4, if_pos c4]
          by_cases c5 : 50 ≤ o
          · rw [if_pos c5, if_pos c5]; exact ih _ _ _ _ h0 h50 h
          · rw [if_neg c5, if_neg c5]
            exact ih _ _ _ _ (by grind) (by grind) (fun j p q => hup o _ h0 j p (fun r => by grind))
        · rw [if_neg c4, if_neg c4]
          by_cases c6 : o ≤ 1
          · rw [if_pos c6, if_pos c6]; exact ih _ _ _ _ h0 h50 h
          · rw [if_neg c6, if_neg c6, h (o + (-1) - 1) (by grind) (by grind), h (o + (-1)) (by grind) (by grind)]
            exact ih _ _ _ _ (by grind) (by grind) (fun j p q => hup (o + (-1) - 1) _ (by grind) j p (fun _ => by grind))

theorem vs_fc {cd fc fc' : Nat → Int32} {ln : Int32} (h : ∀ j, j < 9 → fc j = fc' j) : ∀ (k : Nat) (i o : Int32) (s : Nat → Int32), vs cd fc ln k i o s = vs cd fc' ln k i o s := by
  intro k
  induction k with
  | zero => intro i o s; rfl
  | succ k ih =>
    intro i o s
    unfold vs
    have e : ∀ g : Int32, (if 0 ≤ g - 1000 ∧ g - 1000 < 9 then fc (g - 1000).toNatClampNeg else g) = (if 0 ≤ g - 1000 ∧ g - 1000 < 9 then fc' (g - 1000).toNatClampNeg else g) := by
      intro g
      by_cases c : 0 ≤ g - 1000 ∧ g - 1000 < 9
      · rw [if_pos c, if_pos c]
        exact h _ (show (g - 1000).toNatClampNeg < (9 : Int32).toNatClampNeg from cl_lt c.1 c.2)
      · rw [if_neg c, if_neg c]
    simp only [ih, e]
theorem lk_value_5 {x : Nat} (hx : K x = 11) (hT : cT C K L I R) {V : Int32} (hP : ∀ J, dC C K L R I J → J (C + 9) = I (C + 9) → P (some (.int V)) (n, t, K, L, J, R)) : ∀ (k : Nat) (i o : Int32) (J : Nat → Nat → Int32) (u v : Option Value), (L (R x 2) : Int) < i.toInt + k → 0 ≤ i ∧ i.toInt ≤ L (R x 2) → 0 ≤ o ∧ o ≤ 50 → dC C K L R I J → J (C + 9) = I (C + 9) → vs (I (R x 2)) (I (C + 9)) (Int32.ofNat (L (R x 2))) k i o (J (C + 10)) = V → a_at (d + 1) (a_xm a_m64) 5 [some (a_rf x), some (a_rf (C + 9)), some (a_rf (C + 10)), some (.int o), some (.int i), u, v] [] (n, t, K, L, J, R) P := by
  have hS := hT.s
  obtain ⟨x1, x2, x3, x4⟩ := hT.g_txt x hx
  have hlen : (Int32.ofNat (L (R x 2))).toInt = L (R x 2) := by
    rw [Int32.toInt_ofNat']
    simp [Int.bmod_def]
    omega
  have x0 : (x = 0) = False := eq_false (by omega)
  have y0 : (R x 2 = 0) = False := eq_false (by omega)
  intro k
  induction k with
  | zero =>
    intro i o J u v h1 h2 h3 h4 h5 h6
    omega
  | succ k ih =>
    intro i o J u v h1 h2 h3 h4 h5 h6
    have hc : ∀ j, J (R x 2) j = I (R x 2) j := fun j => h4.2 _ _ (by omega) (by omega)
    have hf : ∀ j, J (C + 9) j = I (C + 9) j := fun j => by rw [h5]
    have hi : ¬ Int32.ofNat (L (R x 2)) ≤ i → a_ok i (L (R x 2)) ∧ (L (R x 2) : Int) < (i + 1).toInt + k ∧ 0 ≤ i + 1 ∧ (i + 1).toInt ≤ L (R x 2) := by
      intro h
      have h7 := Int32.lt_iff_toInt_lt.mp (Int32.not_le.mp h)
      have h8 := Int32.le_iff_toInt_le.mp h2.1
      simp at h8
      rw [hlen] at h7
      have h9 : (i + 1).toInt = i.toInt + 1 := by
        rw [Int32.toInt_add]
        simp [Int.bmod_def]
        omega
      exact ⟨okI h2.1 (by omega), by omega, by rw [Int32.le_iff_toInt_le, h9]; simp; omega, by omega⟩
    rw [q64_5]
    simp only [q64_7, q64_8, q64_11, q64_12, q64_15, q64_16, q64_19, q64_21, q64_22, q64_24, q64_26, q64_29, q64_32, q64_33, q64_36, q64_37, q64_38, q64_39, q64_40, q64_41, q64_42, q64_43, q64_44, q64_45, q64_46, q64_47, q64_48, q64_51, q64_53, q64_56, q64_59, q64_60, q64_61, q64_64, q64_67, q64_68, q64_69, q64_70, q64_71, q64_73, q64_74, q64_75, q64_76, q64_77, q64_78, q64_79, q64_80, q64_81, q64_84, q64_85, q64_88, q64_89, q64_90, q64_91, q64_94, q64_96, q64_99, q64_100, q64_102, q64_103, q64_104, q64_106, q64_109, q64_111, q64_112, q64_113, q64_116, q64_117, q64_119, q64_120, q64_123, q64_125, q64_126, q64_129, q64_132, q64_135, q64_136, q64_139, q64_140, q64_141, q64_142, q64_145, q64_146, as_nil, as_i, as_r, Nat.reduceAdd, Nat.reduceLeDiff, z_eq0, z_eq1, z_or, z_em, Classical.not_not, not_false_eq_true, not_true_eq_false, true_and, and_true, false_and, and_false, and_self, true_implies, false_implies, implies_true, Option.toList_some, Option.toList_none, List.cons_append, List.nil_append, Nat.add_eq_zero_iff, a_nl_i, a_nl_r, a_nl_n, true_or, or_true, eq_self, a_isRA_22, a_isRA_24, a_isRA_32, a_isA_20, ok_4, ok_5, ok_6, ok_7, ok_9, ok_20, ok_21, ok_30, ok_50, ok_180, ok_192, ok_200, k_9 hS, l_9 hS, z_9, k_10 hS, l_10 hS, z_10, of_50, of_9, sp_joined, hx, x0, x3, y0, hc, hf]
    unfold vs at h6
    refine ⟨fun c1 => ?_, fun c1 => ?_⟩
    · rw [if_pos c1] at h6
      refine ⟨fun c2 => ?_, fun c2 => ⟨by decide, ?_⟩⟩
      · rw [if_pos c2] at h6; subst h6; exact hP J h4 h5
      · rw [if_neg c2] at h6; subst h6; exact hP J h4 h5
    · obtain ⟨e1, e2, e3⟩ := hi c1
      rw [if_neg c1] at h6
      have hput : ∀ (o2 p w : Int32) (u v : Option Value), 0 ≤ o2 ∧ o2 ≤ 50 → vs (I (R x 2)) (I (C + 9)) (Int32.ofNat (L (R x 2))) k (i + 1) o2 (up1 (J (C + 10)) p.toNatClampNeg w) = V → a_at (d + 1) (a_xm a_m64) 5 [some (a_rf x), some (a_rf (C + 9)), some (a_rf (C + 10)), some (.int o2), some (.int (i + 1)), u, v] [] (n, t, K, L, (a_ui J (C + 10) p.toNatClampNeg w), R) P := fun o2 p w u v q1 q2 => ih (i + 1) o2 _ u v e2 e3 q1 (dC_10 h4) (by rw [← h5]; funext j; simp [ui_ap]) (by rw [up1_ui]; exact q2)
      refine ⟨e1, fun c3 => ?_, fun c3 => ?_⟩
      · rw [if_neg c3] at h6
        refine ⟨fun c4 => ?_, fun c4 => ?_⟩
        · rw [if_pos c4] at h6
          refine ⟨fun c5 => ?_, fun c5 => ?_⟩
          · rw [if_pos c5] at h6
            exact ih _ _ _ _ _ e2 e3 h3 h4 h5 h6
          · rw [if_neg c5] at h6
            repeat' first
              | with_reducible apply And.intro
              | with_reducible intro _
              | with_reducible apply hput
            all_goals (clear ih hput hP hi; grind)
        · rw [if_neg c4] at h6
          refine ⟨fun c6 => ?_, fun c6 => ?_⟩
          · rw [if_pos c6] at h6
            exact ih _ _ _ _ _ e2 e3 h3 h4 h5 h6
          · rw [if_neg c6] at h6
            repeat' first
              | with_reducible apply And.intro
              | with_reducible intro _
              | with_reducible apply hput
            all_goals (clear ih hput hP hi; grind)
      · rw [if_pos c3] at h6
        refine ⟨fun c2 => ?_, fun c2 => ?_⟩
        · rw [if_pos c2] at h6
          exact ih _ _ _ _ _ e2 e3 h3 h4 h5 h6
        · rw [if_neg c2] at h6
          repeat' first
            | with_reducible apply And.intro
            | with_reducible intro _
            | with_reducible apply hput
          all_goals (clear ih hput hP hi; grind)
theorem ck_value {x : Nat} (hx : K x = 11) (hT : cT C K L I R) (hP : ∀ J, dC C K L R I J → J (C + 9) = I (C + 9) → P (some (.int (vs (I (R x 2)) (I (C + 9)) (Int32.ofNat (L (R x 2))) 60 0 0 (fun _ => 0)))) (n, t, K, L, J, R)) : a_does (d + 2) 64 [a_rf x, a_rf (C + 9), a_rf (C + 10)] (n, t, K, L, I, R) P := by
  have hS := hT.s
  have x4 := (hT.g_txt x hx).2.2.2
  have e := vs_eq (cd := I (R x 2)) (fc := I (C + 9)) (ln := Int32.ofNat (L (R x 2))) 60 0 0 (I (C + 10)) (fun _ => 0) (by decide) (by decide) (fun j p q => by grind)
  rw [a_enter1 (M := a_m64) rfl (a_cat_rf (a_cat_rf (a_cat_rf a_cat_nil))) (show 3 ≤ 7 by decide)]
  show a_at _ (a_xm a_m64) 0 [some (a_rf x), some (a_rf (C + 9)), some (a_rf (C + 10)), none, none, none, none] [] _ _
  simp only [q64_0, q64_1, q64_2, q64_3, as_nil, as_i, as_r, Nat.reduceAdd, Nat.reduceLeDiff, z_eq0, z_eq1, z_or, z_em, Classical.not_not, not_false_eq_true, not_true_eq_false, true_and, and_true, false_and, and_false, and_self, true_implies, false_implies, implies_true, Option.toList_some, Option.toList_none, List.cons_append, List.nil_append, Nat.add_eq_zero_iff, a_nl_i, a_nl_r, a_nl_n, true_or, or_true, eq_self, a_isRA_22, a_isRA_24, a_isRA_32, a_isA_20, ok_4, ok_5, ok_6, ok_7, ok_9, ok_20, ok_21, ok_30, ok_50, ok_180, ok_192, ok_200]
  exact lk_value_5 hx hT hP 60 0 0 I _ _ (by simp; omega) ⟨by decide, by simp⟩ (by decide) (dC_refl hT) rfl e
theorem cn_0 : Int32.toNatClampNeg 0 = 0 := rfl
theorem cn_1 : Int32.toNatClampNeg 1 = 1 := rfl
theorem cn_2 : Int32.toNatClampNeg 2 = 2 := rfl
theorem cn_3 : Int32.toNatClampNeg 3 = 3 := rfl
theorem cn_4 : Int32.toNatClampNeg 4 = 4 := rfl
theorem cn_5 : Int32.toNatClampNeg 5 = 5 := rfl
theorem cn_6 : Int32.toNatClampNeg 6 = 6 := rfl
theorem cn_7 : Int32.toNatClampNeg 7 = 7 := rfl
theorem cn_8 : Int32.toNatClampNeg 8 = 8 := rfl
/-- what a text is told of an ask -/
def lq (J : Nat → Nat → Int32) (a : Nat) (b s w : Int32) (j : Nat) : Int32 := if j = 8 then w else if j = 7 then b else if j = 6 then s else if j = 5 then (if 0 < J a 12 then J a 12 else 0) else if j = 4 then J a 9 else if j = 3 then J a 2 else if j = 2 then J a 1 else if j = 1 then J a 0 else if j = 0 then J a 5 else 0
theorem ck_learn {a : Nat} (ha : K a = 1) (hT : cT C K L I R) {b s w : Int32} (hP : ∀ J, dC C K L R I J → (∀ j, j < 9 → J (C + 9) j = lq I a b s w j) → P none (n, t, K, L, J, R)) : a_does (d + 2) 63 [a_rf (C + 7), a_rf a, .int b, .int s, .int w] (n, t, K, L, I, R) P := by
  have hS := hT.s
  have a1 := (hT.g_ask a ha).1
  have a0 : (a = 0) = False := eq_false (by omega)
  have a9 : (a = C + 9) = False := eq_false (by omega)
  rw [a_enter1 (M := a_m63) rfl (a_cat_rf (a_cat_rf (a_cat_int (a_cat_int (a_cat_int a_cat_nil))))) (show 5 ≤ 5 by decide)]
  show a_at _ (a_xm a_m63) 0 [some (a_rf (C + 7)), some (a_rf a), some (.int b), some (.int s), some (.int w)] [] _ _
  simp only [q63_0, q63_1, q63_4, q63_5, q63_6, q63_9, q63_10, q63_11, q63_14, q63_15, q63_16, q63_19, q63_20, q63_21, q63_24, q63_25, q63_26, q63_29, q63_30, q63_31, q63_34, q63_35, q63_36, q63_39, q63_40, q63_41, q63_44, q63_45, q63_46, q63_49, q63_50, q63_51, q63_54, q63_55, q63_56, q63_57, q63_60, q63_63, q63_64, q63_65, q63_68, q63_70, q63_71, q63_72, q63_73, q63_76, q63_78, q63_79, q63_80, q63_81, q63_84, q63_86, q63_88, q63_89, k_7 hS, z_7, r_7_1 hS, k_9 hS, l_9 hS, z_9, sp_max, as_nil, as_i, as_r, Nat.reduceAdd, Nat.reduceLeDiff, z_eq0, z_eq1, z_or, z_em, Classical.not_not, not_false_eq_true, not_true_eq_false, true_and, and_true, false_and, and_false, and_self, true_implies, false_implies, implies_true, Option.toList_some, Option.toList_none, List.cons_append, List.nil_append, Nat.add_eq_zero_iff, a_nl_i, a_nl_r, a_nl_n, true_or, or_true, eq_self, a_isRA_22, a_isRA_24, a_isRA_32, a_isA_20, ok_4, ok_5, ok_6, ok_7, ok_9, ok_20, ok_21, ok_30, ok_50, ok_180, ok_192, ok_200, ui_ap, cc_ne, cc_n0, cc_0n, Nat.reduceEqDiff, reduceIte, if_true, if_false, ha, a0, a9]
  repeat' first
    | with_reducible apply And.intro
    | with_reducible intro _
    | with_reducible apply hP
    | with_reducible apply dC_9
  all_goals first
    | exact dC_refl hT
    | decide
    | (simp only [ui_ap, true_and, lq, cn_0, cn_1, cn_2, cn_3, cn_4, cn_5, cn_6, cn_7, cn_8]; grind)
/-- the text that counts -/
def cf (C : Nat) (R : Nat → Nat → Nat) (I : Nat → Nat → Int32) (s : Int32) : Nat → Int32 → Nat → Nat
  | 0, _, f => f
  | k + 1, i, f => if I (C + 7) 3 ≤ i then f else cf C R I s k (i + 1) (if ¬ R (C + 8) i.toNatClampNeg = 0 ∧ I (R (C + 8) i.toNatClampNeg) 0 = 79 ∧ (I (R (C + 8) i.toNatClampNeg) 1 ≤ s ∧ s < I (R (C + 8) i.toNatClampNeg) 3) ∧ (f = 0 ∨ I f 1 ≤ I (R (C + 8) i.toNatClampNeg) 1) then R (C + 8) i.toNatClampNeg else f)
theorem lk_counting_4 (hT : cT C K L I R) {s : Int32} {V : Nat} (hP : (V = 0 ∨ K V = 11) → P (some (a_rf V)) (n, t, K, L, I, R)) : ∀ (k : Nat) (i : Int32) (f : Nat) (u : Option Value), (20 : Int) < i.toInt + k → 0 ≤ i ∧ i ≤ 20 → (f = 0 ∨ K f = 11) → cf C R I s k i f = V → a_at (d + 1) (a_xm a_m60) 4 [some (a_rf (C + 7)), some (.int s), some (a_rf f), some (.int i), u] [] (n, t, K, L, I, R) P := by
  have hS := hT.s
  have gX := hT.g_textsR
  have gc := hT.g_texts
  intro k
  induction k with
  | zero =>
    intro i f u h1 h2 hf h3
    have := Int32.le_iff_toInt_le.mp h2.2
    have h20 : (20 : Int32).toInt = 20 := rfl
    omega
  | succ k ih =>
    intro i f u h1 h2 hf h3
    have hi : i < 20 → (20 : Int) < (i + 1).toInt + k ∧ (0 ≤ i + 1 ∧ i + 1 ≤ 20) := by
      intro h
      have h7 := Int32.lt_iff_toInt_lt.mp h
      have h8 := Int32.le_iff_toInt_le.mp h2.1
      simp at h7 h8
      have h9 : (i + 1).toInt = i.toInt + 1 := by
        rw [Int32.toInt_add]
        simp [Int.bmod_def]
        omega
      exact ⟨by omega, by grind⟩
    have gx := gX i.toNatClampNeg
    unfold cf at h3
    rw [q60_4]
    simp only [q60_5, q60_6, q60_9, q60_12, q60_13, q60_14, k_7 hS, z_7, sp_textAt hS gX, as_nil, as_i, as_r, Nat.reduceAdd, Nat.reduceLeDiff, z_eq0, z_eq1, z_or, z_em, Classical.not_not, not_false_eq_true, not_true_eq_false, true_and, and_true, false_and, and_false, and_self, true_implies, false_implies, implies_true, Option.toList_some, Option.toList_none, List.cons_append, List.nil_append, Nat.add_eq_zero_iff, a_nl_i, a_nl_r, a_nl_n, true_or, or_true, eq_self, a_isRA_22, a_isRA_24, a_isRA_32, a_isA_20, ok_4, ok_5, ok_6, ok_7, ok_9, ok_20, ok_21, ok_30, ok_50, ok_180, ok_192, ok_200]
    refine ⟨fun c1 => ?_, fun c1 => ?_⟩
    · rw [if_pos c1] at h3
      subst h3
      simp only [q60_68, q60_69, as_nil, as_i, as_r, Nat.reduceAdd, Nat.reduceLeDiff, z_eq0, z_eq1, z_or, z_em, Classical.not_not, not_false_eq_true, not_true_eq_false, true_and, and_true, false_and, and_false, and_self, true_implies, false_implies, implies_true, Option.toList_some, Option.toList_none, List.cons_append, List.nil_append, Nat.add_eq_zero_iff, a_nl_i, a_nl_r, a_nl_n, true_or, or_true, eq_self, a_isRA_22, a_isRA_24, a_isRA_32, a_isA_20, ok_4, ok_5, ok_6, ok_7, ok_9, ok_20, ok_21, ok_30, ok_50, ok_180, ok_192, ok_200]
      exact hP hf
    · rw [if_neg c1] at h3
      have hlt : i < 20 := by clear ih hP hi gX; grind
      obtain ⟨e1, e2⟩ := hi hlt
      have hn : ∀ f2 u, (f2 = 0 ∨ K f2 = 11) → cf C R I s k (i + 1) f2 = V → a_at (d + 1) (a_xm a_m60) 62 [some (a_rf (C + 7)), some (.int s), some (a_rf f2), some (.int i), u] [] (n, t, K, L, I, R) P := fun f2 u q1 q2 => by
        simp only [q60_62, q60_65, as_nil, as_i, as_r, Nat.reduceAdd, Nat.reduceLeDiff, z_eq0, z_eq1, z_or, z_em, Classical.not_not, not_false_eq_true, not_true_eq_false, true_and, and_true, false_and, and_false, and_self, true_implies, false_implies, implies_true, Option.toList_some, Option.toList_none, List.cons_append, List.nil_append, Nat.add_eq_zero_iff, a_nl_i, a_nl_r, a_nl_n, true_or, or_true, eq_self, a_isRA_22, a_isRA_24, a_isRA_32, a_isA_20, ok_4, ok_5, ok_6, ok_7, ok_9, ok_20, ok_21, ok_30, ok_50, ok_180, ok_192, ok_200]
        exact ih (i + 1) f2 u e1 e2 q1 q2
      repeat' first
        | with_reducible apply And.intro
        | with_reducible intro _
        | with_reducible apply hn
        | simp only [q60_17, q60_19, q60_21, q60_24, q60_26, q60_29, q60_31, q60_34, q60_36, q60_37, q60_40, q60_43, q60_44, q60_47, q60_49, q60_52, q60_53, q60_56, q60_59, q60_61, k_7 hS, z_7, sp_inForce, as_nil, as_i, as_r, Nat.reduceAdd, Nat.reduceLeDiff, z_eq0, z_eq1, z_or, z_em, Classical.not_not, not_false_eq_true, not_true_eq_false, true_and, and_true, false_and, and_false, and_self, true_implies, false_implies, implies_true, Option.toList_some, Option.toList_none, List.cons_append, List.nil_append, Nat.add_eq_zero_iff, a_nl_i, a_nl_r, a_nl_n, true_or, or_true, eq_self, a_isRA_22, a_isRA_24, a_isRA_32, a_isA_20, ok_4, ok_5, ok_6, ok_7, ok_9, ok_20, ok_21, ok_30, ok_50, ok_180, ok_192, ok_200]
      all_goals (clear ih hn hP hi gX; grind)
theorem ck_counting (hT : cT C K L I R) {s : Int32} (hP : (cf C R I s 30 0 0 = 0 ∨ K (cf C R I s 30 0 0) = 11) → P (some (a_rf (cf C R I s 30 0 0))) (n, t, K, L, I, R)) : a_does (d + 2) 60 [a_rf (C + 7), .int s] (n, t, K, L, I, R) P := by
  have hS := hT.s
  rw [a_enter1 (M := a_m60) rfl (a_cat_rf (a_cat_int a_cat_nil)) (show 2 ≤ 5 by decide)]
  show a_at _ (a_xm a_m60) 0 [some (a_rf (C + 7)), some (.int s), none, none, none] [] _ _
  simp only [q60_0, q60_1, q60_2, q60_3, as_nil, as_i, as_r, Nat.reduceAdd, Nat.reduceLeDiff, z_eq0, z_eq1, z_or, z_em, Classical.not_not, not_false_eq_true, not_true_eq_false, true_and, and_true, false_and, and_false, and_self, true_implies, false_implies, implies_true, Option.toList_some, Option.toList_none, List.cons_append, List.nil_append, Nat.add_eq_zero_iff, a_nl_i, a_nl_r, a_nl_n, true_or, or_true, eq_self, a_isRA_22, a_isRA_24, a_isRA_32, a_isA_20, ok_4, ok_5, ok_6, ok_7, ok_9, ok_20, ok_21, ok_30, ok_50, ok_180, ok_192, ok_200]
  exact lk_counting_4 hT hP 30 0 0 _ (by decide) (by decide) (Or.inl rfl) rfl
/-- what rules say is owed for an ask that lost w hours -/
def ow (C : Nat) (L : Nat → Nat) (R : Nat → Nat → Nat) (I : Nat → Nat → Int32) (a : Nat) (w : Int32) : Int32 :=
  let x := cf C R I (I a 14) 30 0 0
  if x = 0 then w / 8 else
    let v := vs (I (R x 2)) (lq I a (I a 13) (I a 14) w) (Int32.ofNat (L (R x 2))) 60 0 0 (fun _ => 0)
    let y := if v < I a 2 then v else I a 2
    if 0 < y then y else 0
theorem ow_pos {a : Nat} {w : Int32} (h : ¬ cf C R I (I a 14) 30 0 0 = 0) : ow C L R I a w = (if 0 < (if vs (I (R (cf C R I (I a 14) 30 0 0) 2)) (lq I a (I a 13) (I a 14) w) (Int32.ofNat (L (R (cf C R I (I a 14) 30 0 0) 2))) 60 0 0 (fun _ => 0) < I a 2 then vs (I (R (cf C R I (I a 14) 30 0 0) 2)) (lq I a (I a 13) (I a 14) w) (Int32.ofNat (L (R (cf C R I (I a 14) 30 0 0) 2))) 60 0 0 (fun _ => 0) else I a 2) then (if vs (I (R (cf C R I (I a 14) 30 0 0) 2)) (lq I a (I a 13) (I a 14) w) (Int32.ofNat (L (R (cf C R I (I a 14) 30 0 0) 2))) 60 0 0 (fun _ => 0) < I a 2 then vs (I (R (cf C R I (I a 14) 30 0 0) 2)) (lq I a (I a 13) (I a 14) w) (Int32.ofNat (L (R (cf C R I (I a 14) 30 0 0) 2))) 60 0 0 (fun _ => 0) else I a 2) else 0) := by
  unfold ow
  simp only [h, if_false]
theorem ow_zero {a : Nat} {w : Int32} (h : cf C R I (I a 14) 30 0 0 = 0) : ow C L R I a w = w / 8 := by
  unfold ow
  simp only [h, if_true]
theorem ck_owed {a : Nat} (ha : K a = 1) (hT : cT C K L I R) {w : Int32} (hP : ∀ J, dC C K L R I J → P (some (.int (ow C L R I a w))) (n, t, K, L, J, R)) : a_does (d + 3) 59 [a_rf (C + 7), a_rf a, .int w] (n, t, K, L, I, R) P := by
  have hS := hT.s
  have ga := hT.g_ask a ha
  have a0 : (a = 0) = False := eq_false (by omega)
  rw [a_enter1 (M := a_m59) rfl (a_cat_rf (a_cat_rf (a_cat_int a_cat_nil))) (show 3 ≤ 4 by decide)]
  show a_at _ (a_xm a_m59) 0 [some (a_rf (C + 7)), some (a_rf a), some (.int w), none] [] _ _
  simp only [q59_0, q59_1, q59_2, q59_5, k_7 hS, z_7, as_nil, as_i, as_r, Nat.reduceAdd, Nat.reduceLeDiff, z_eq0, z_eq1, z_or, z_em, Classical.not_not, not_false_eq_true, not_true_eq_false, true_and, and_true, false_and, and_false, and_self, true_implies, false_implies, implies_true, Option.toList_some, Option.toList_none, List.cons_append, List.nil_append, Nat.add_eq_zero_iff, a_nl_i, a_nl_r, a_nl_n, true_or, or_true, eq_self, a_isRA_22, a_isRA_24, a_isRA_32, a_isA_20, ok_4, ok_5, ok_6, ok_7, ok_9, ok_20, ok_21, ok_30, ok_50, ok_180, ok_192, ok_200, ha, a0]
  refine ck_counting hT (fun hx => ?_)
  simp only [q59_8, q59_9, q59_10, q59_13, q59_14, q59_16, q59_17, as_nil, as_i, as_r, Nat.reduceAdd, Nat.reduceLeDiff, z_eq0, z_eq1, z_or, z_em, Classical.not_not, not_false_eq_true, not_true_eq_false, true_and, and_true, false_and, and_false, and_self, true_implies, false_implies, implies_true, Option.toList_some, Option.toList_none, List.cons_append, List.nil_append, Nat.add_eq_zero_iff, a_nl_i, a_nl_r, a_nl_n, true_or, or_true, eq_self, a_isRA_22, a_isRA_24, a_isRA_32, a_isA_20, ok_4, ok_5, ok_6, ok_7, ok_9, ok_20, ok_21, ok_30, ok_50, ok_180, ok_192, ok_200, ha, a0]
  have hz : cf C R I (I a 14) 30 0 0 = 0 → ow C L R I a w = w / 8 := fun h => by unfold ow; simp only [h, if_true]
  refine ⟨fun h => ?_, fun h => ?_⟩
  · have := hP I (dC_refl hT)
    rw [hz h] at this
    first
      | exact this
      | exact ⟨by decide, this⟩
  · simp only [q59_18, q59_19, q59_20, q59_21, q59_24, q59_25, q59_28, q59_29, k_7 hS, z_7, as_nil, as_i, as_r, Nat.reduceAdd, Nat.reduceLeDiff, z_eq0, z_eq1, z_or, z_em, Classical.not_not, not_false_eq_true, not_true_eq_false, true_and, and_true, false_and, and_false, and_self, true_implies, false_implies, implies_true, Option.toList_some, Option.toList_none, List.cons_append, List.nil_append, Nat.add_eq_zero_iff, a_nl_i, a_nl_r, a_nl_n, true_or, or_true, eq_self, a_isRA_22, a_isRA_24, a_isRA_32, a_isA_20, ok_4, ok_5, ok_6, ok_7, ok_9, ok_20, ok_21, ok_30, ok_50, ok_180, ok_192, ok_200, ha, a0]
    refine ck_learn ha hT (fun J c1 e1 => ?_)
    have e2 : J a 2 = I a 2 := c1.2 _ _ (by omega) (by omega)
    have hk := hx.resolve_left h
    have gx := hT.g_txt _ hk
    have hcode : J (R (cf C R I (I a 14) 30 0 0) 2) = I (R (cf C R I (I a 14) 30 0 0) 2) := by
      funext j
      exact c1.2 _ _ (by omega) (by omega)
    simp only [q59_32, q59_33, q59_34, q59_37, q59_38, q59_39, q59_42, q59_43, q59_46, k_7 hS, z_7, r_7_1 hS, k_9 hS, l_9 hS, z_9, r_7_2 hS, k_10 hS, l_10 hS, z_10, as_nil, as_i, as_r, Nat.reduceAdd, Nat.reduceLeDiff, z_eq0, z_eq1, z_or, z_em, Classical.not_not, not_false_eq_true, not_true_eq_false, true_and, and_true, false_and, and_false, and_self, true_implies, false_implies, implies_true, Option.toList_some, Option.toList_none, List.cons_append, List.nil_append, Nat.add_eq_zero_iff, a_nl_i, a_nl_r, a_nl_n, true_or, or_true, eq_self, a_isRA_22, a_isRA_24, a_isRA_32, a_isA_20, ok_4, ok_5, ok_6, ok_7, ok_9, ok_20, ok_21, ok_30, ok_50, ok_180, ok_192, ok_200, ha, a0, e2]
    refine ⟨⟨h, hk⟩, ck_value hk c1.1 (fun J2 c2 e3 => ?_)⟩
    simp only [q59_49, q59_52, q59_55, sp_min, sp_max, as_nil, as_i, as_r, Nat.reduceAdd, Nat.reduceLeDiff, z_eq0, z_eq1, z_or, z_em, Classical.not_not, not_false_eq_true, not_true_eq_false, true_and, and_true, false_and, and_false, and_self, true_implies, false_implies, implies_true, Option.toList_some, Option.toList_none, List.cons_append, List.nil_append, Nat.add_eq_zero_iff, a_nl_i, a_nl_r, a_nl_n, true_or, or_true, eq_self, a_isRA_22, a_isRA_24, a_isRA_32, a_isA_20, ok_4, ok_5, ok_6, ok_7, ok_9, ok_20, ok_21, ok_30, ok_50, ok_180, ok_192, ok_200]
    rw [hcode, vs_fc e1]
    have := hP J2 (dC_C c1 c2)
    rw [ow_pos h] at this
    revert this
    generalize vs (I (R (cf C R I (I a 14) 30 0 0) 2)) (lq I a (I a 13) (I a 14) w) (Int32.ofNat (L (R (cf C R I (I a 14) 30 0 0) 2))) 60 0 0 (fun _ => 0) = y
    intro this
    repeat' first
      | with_reducible apply And.intro
      | with_reducible intro _
    all_goals (clear hP hz; grind)
theorem cf_C (h : dC C K L R I J) (hT : cT C K L I R) {s : Int32} : ∀ (k : Nat) (i : Int32) (f : Nat), (f = 0 ∨ K f = 11) → cf C R J s k i f = cf C R I s k i f := by
  have hS := hT.s
  have e1 : J (C + 7) 3 = I (C + 7) 3 := h.2 _ _ (by omega) (by omega)
  have e2 : ∀ x j, K x = 11 → J x j = I x j := fun x j hx => by
    have := (hT.g_txt x hx).1
    exact h.2 _ _ (by omega) (by omega)
  intro k
  induction k with
  | zero => intro i f _; rfl
  | succ k ih =>
    intro i f hf
    unfold cf
    rw [e1]
    have hX := hT.g_textsR i.toNatClampNeg
    generalize R (C + 8) i.toNatClampNeg = x at hX
    have ec : (¬ x = 0 ∧ J x 0 = 79 ∧ (J x 1 ≤ s ∧ s < J x 3) ∧ (f = 0 ∨ J f 1 ≤ J x 1)) = (¬ x = 0 ∧ I x 0 = 79 ∧ (I x 1 ≤ s ∧ s < I x 3) ∧ (f = 0 ∨ I f 1 ≤ I x 1)) := by
      rcases hX with hX | hX
      · simp [hX]
      · rw [e2 x 0 hX, e2 x 1 hX, e2 x 3 hX]
        rcases hf with hf | hf
        · simp [hf]
        · rw [e2 f 1 hf]
    simp only [ec]
    rw [ih _ _ (by split; rename_i q; exact Or.inr (hX.resolve_left q.1); exact hf)]
theorem cf_11 (hT : cT C K L I R) {s : Int32} : ∀ (k : Nat) (i : Int32) (f : Nat), (f = 0 ∨ K f = 11) → cf C R I s k i f = 0 ∨ K (cf C R I s k i f) = 11 := by
  have hS := hT.s
  intro k
  induction k with
  | zero => intro i f hf; exact hf
  | succ k ih =>
    intro i f hf
    unfold cf
    split
    · exact hf
    · refine ih _ _ ?_
      split
      · rename_i q
        exact Or.inr ((hT.g_textsR i.toNatClampNeg).resolve_left q.1)
      · exact hf
theorem ow_C (h : dC C K L R I J) {a : Nat} (ha : K a = 1) {w : Int32} (hT : cT C K L I R) : ow C L R J a w = ow C L R I a w := by
  have hS := hT.s
  have a1 := (hT.g_ask a ha).1
  have e : ∀ j, J a j = I a j := fun j => h.2 _ _ (by omega) (by omega)
  have e2 : ∀ b s w, lq J a b s w = lq I a b s w := fun b s w => by
    funext j
    simp only [lq, e]
  have e3 := cf_C h hT (s := I a 14) 30 0 0 (Or.inl rfl)
  have e4 := cf_11 hT (s := I a 14) 30 0 0 (Or.inl rfl)
  simp only [ow, e, e3, e2]
  generalize cf C R I (I a 14) 30 0 0 = x at e4
  rcases e4 with e4 | e4
  · simp [e4]
  · have x1 := hT.g_txt x e4
    have : J (R x 2) = I (R x 2) := by funext j; exact h.2 _ _ (by omega) (by omega)
    rw [this]
/-- hours lost of an ask's place -/
def lw (C : Nat) (I : Nat → Nat → Int32) (a : Nat) : Int32 := if 0 ≤ I a 13 then lf (I (C + 3)) (I a 14 + I a 2) 200 (I a 14) 0 else 0
def hw (C : Nat) (L : Nat → Nat) (R : Nat → Nat → Nat) (I : Nat → Nat → Int32) (a : Nat) : Int32 := if 0 ≤ I a 13 then ow C L R I a (lw C I a) else 0
theorem ck_loss {a : Nat} (ha : K a = 1) (hT : cT C K L I R) (hP : P (some (.int (lw C I a))) (n, t, K, L, I, R)) : a_does (d + 3) 54 [a_rf (C + 14), a_rf a] (n, t, K, L, I, R) P := by
  have hS := hT.s
  have ga := hT.g_ask a ha
  have a0 : (a = 0) = False := eq_false (by omega)
  rw [a_enter1 (M := a_m54) rfl (a_cat_rf (a_cat_rf a_cat_nil)) (show 2 ≤ 2 by decide)]
  show a_at _ (a_xm a_m54) 0 [some (a_rf (C + 14)), some (a_rf a)] [] _ _
  simp only [q54_0, q54_1, q54_4, q54_7, q54_8, q54_11, q54_12, q54_15, q54_16, q54_19, q54_22, q54_25, q54_26, k_14 hS, z_14, r_14_0 hS, k_1 hS, z_1, sp_isPlaced, as_nil, as_i, as_r, Nat.reduceAdd, Nat.reduceLeDiff, z_eq0, z_eq1, z_or, z_em, Classical.not_not, not_false_eq_true, not_true_eq_false, true_and, and_true, false_and, and_false, and_self, true_implies, false_implies, implies_true, Option.toList_some, Option.toList_none, List.cons_append, List.nil_append, Nat.add_eq_zero_iff, a_nl_i, a_nl_r, a_nl_n, true_or, or_true, eq_self, a_isRA_22, a_isRA_24, a_isRA_32, a_isA_20, ok_4, ok_5, ok_6, ok_7, ok_9, ok_20, ok_21, ok_30, ok_50, ok_180, ok_192, ok_200, ha, a0]
  unfold lw at hP
  refine ⟨fun h => ?_, fun h => ?_⟩
  · first
      | (rw [if_neg h] at hP; exact hP)
      | (rw [if_pos h] at hP; refine ck_lostFrom hS (ga.2.2.2 h).1 ?_; simp only [q54_0, q54_1, q54_4, q54_7, q54_8, q54_11, q54_12, q54_15, q54_16, q54_19, q54_22, q54_25, q54_26, k_14 hS, z_14, r_14_0 hS, k_1 hS, z_1, sp_isPlaced, as_nil, as_i, as_r, Nat.reduceAdd, Nat.reduceLeDiff, z_eq0, z_eq1, z_or, z_em, Classical.not_not, not_false_eq_true, not_true_eq_false, true_and, and_true, false_and, and_false, and_self, true_implies, false_implies, implies_true, Option.toList_some, Option.toList_none, List.cons_append, List.nil_append, Nat.add_eq_zero_iff, a_nl_i, a_nl_r, a_nl_n, true_or, or_true, eq_self, a_isRA_22, a_isRA_24, a_isRA_32, a_isA_20, ok_4, ok_5, ok_6, ok_7, ok_9, ok_20, ok_21, ok_30, ok_50, ok_180, ok_192, ok_200]; exact hP)
  · first
      | (rw [if_neg h] at hP; exact hP)
      | (rw [if_pos h] at hP; refine ck_lostFrom hS (ga.2.2.2 h).1 ?_; simp only [q54_0, q54_1, q54_4, q54_7, q54_8, q54_11, q54_12, q54_15, q54_16, q54_19, q54_22, q54_25, q54_26, k_14 hS, z_14, r_14_0 hS, k_1 hS, z_1, sp_isPlaced, as_nil, as_i, as_r, Nat.reduceAdd, Nat.reduceLeDiff, z_eq0, z_eq1, z_or, z_em, Classical.not_not, not_false_eq_true, not_true_eq_false, true_and, and_true, false_and, and_false, and_self, true_implies, false_implies, implies_true, Option.toList_some, Option.toList_none, List.cons_append, List.nil_append, Nat.add_eq_zero_iff, a_nl_i, a_nl_r, a_nl_n, true_or, or_true, eq_self, a_isRA_22, a_isRA_24, a_isRA_32, a_isA_20, ok_4, ok_5, ok_6, ok_7, ok_9, ok_20, ok_21, ok_30, ok_50, ok_180, ok_192, ok_200]; exact hP)
theorem ck_hallOwed {a : Nat} (ha : K a = 1) (hT : cT C K L I R) (hP : ∀ J, dC C K L R I J → P (some (.int (hw C L R I a))) (n, t, K, L, J, R)) : a_does (d + 4) 58 [a_rf (C + 14), a_rf a] (n, t, K, L, I, R) P := by
  have hS := hT.s
  have ga := hT.g_ask a ha
  have a0 : (a = 0) = False := eq_false (by omega)
  rw [a_enter1 (M := a_m58) rfl (a_cat_rf (a_cat_rf a_cat_nil)) (show 2 ≤ 2 by decide)]
  show a_at _ (a_xm a_m58) 0 [some (a_rf (C + 14)), some (a_rf a)] [] _ _
  simp only [q58_0, q58_1, q58_4, k_14 hS, z_14, sp_isPlaced, as_nil, as_i, as_r, Nat.reduceAdd, Nat.reduceLeDiff, z_eq0, z_eq1, z_or, z_em, Classical.not_not, not_false_eq_true, not_true_eq_false, true_and, and_true, false_and, and_false, and_self, true_implies, false_implies, implies_true, Option.toList_some, Option.toList_none, List.cons_append, List.nil_append, Nat.add_eq_zero_iff, a_nl_i, a_nl_r, a_nl_n, true_or, or_true, eq_self, a_isRA_22, a_isRA_24, a_isRA_32, a_isA_20, ok_4, ok_5, ok_6, ok_7, ok_9, ok_20, ok_21, ok_30, ok_50, ok_180, ok_192, ok_200, ha, a0]
  unfold hw at hP
  refine ⟨fun h => ?_, fun h => ?_⟩
  · rw [if_neg h] at hP
    simp only [q58_20, q58_23, q58_24, as_nil, as_i, as_r, Nat.reduceAdd, Nat.reduceLeDiff, z_eq0, z_eq1, z_or, z_em, Classical.not_not, not_false_eq_true, not_true_eq_false, true_and, and_true, false_and, and_false, and_self, true_implies, false_implies, implies_true, Option.toList_some, Option.toList_none, List.cons_append, List.nil_append, Nat.add_eq_zero_iff, a_nl_i, a_nl_r, a_nl_n, true_or, or_true, eq_self, a_isRA_22, a_isRA_24, a_isRA_32, a_isA_20, ok_4, ok_5, ok_6, ok_7, ok_9, ok_20, ok_21, ok_30, ok_50, ok_180, ok_192, ok_200]
    exact hP I (dC_refl hT)
  · have h : 0 ≤ I a 13 := by grind
    rw [if_pos h] at hP
    simp only [q58_7, q58_8, q58_11, q58_12, q58_13, q58_14, k_14 hS, z_14, r_14_1 hS, k_7 hS, z_7, as_nil, as_i, as_r, Nat.reduceAdd, Nat.reduceLeDiff, z_eq0, z_eq1, z_or, z_em, Classical.not_not, not_false_eq_true, not_true_eq_false, true_and, and_true, false_and, and_false, and_self, true_implies, false_implies, implies_true, Option.toList_some, Option.toList_none, List.cons_append, List.nil_append, Nat.add_eq_zero_iff, a_nl_i, a_nl_r, a_nl_n, true_or, or_true, eq_self, a_isRA_22, a_isRA_24, a_isRA_32, a_isA_20, ok_4, ok_5, ok_6, ok_7, ok_9, ok_20, ok_21, ok_30, ok_50, ok_180, ok_192, ok_200, ha, a0]
    refine ck_loss ha hT ?_
    simp only [q58_0, q58_1, q58_4, q58_7, q58_8, q58_11, q58_12, q58_13, q58_14, q58_17, q58_20, q58_23, q58_24, k_14 hS, z_14, r_14_1 hS, k_7 hS, z_7, sp_isPlaced, as_nil, as_i, as_r, Nat.reduceAdd, Nat.reduceLeDiff, z_eq0, z_eq1, z_or, z_em, Classical.not_not, not_false_eq_true, not_true_eq_false, true_and, and_true, false_and, and_false, and_self, true_implies, false_implies, implies_true, Option.toList_some, Option.toList_none, List.cons_append, List.nil_append, Nat.add_eq_zero_iff, a_nl_i, a_nl_r, a_nl_n, true_or, or_true, eq_self, a_isRA_22, a_isRA_24, a_isRA_32, a_isA_20, ok_4, ok_5, ok_6, ok_7, ok_9, ok_20, ok_21, ok_30, ok_50, ok_180, ok_192, ok_200, ha, a0]
    refine ck_owed ha hT (fun J h2 => ?_)
    simp only [q58_0, q58_1, q58_4, q58_7, q58_8, q58_11, q58_12, q58_13, q58_14, q58_17, q58_20, q58_23, q58_24, k_14 hS, z_14, r_14_1 hS, k_7 hS, z_7, sp_isPlaced, as_nil, as_i, as_r, Nat.reduceAdd, Nat.reduceLeDiff, z_eq0, z_eq1, z_or, z_em, Classical.not_not, not_false_eq_true, not_true_eq_false, true_and, and_true, false_and, and_false, and_self, true_implies, false_implies, implies_true, Option.toList_some, Option.toList_none, List.cons_append, List.nil_append, Nat.add_eq_zero_iff, a_nl_i, a_nl_r, a_nl_n, true_or, or_true, eq_self, a_isRA_22, a_isRA_24, a_isRA_32, a_isA_20, ok_4, ok_5, ok_6, ok_7, ok_9, ok_20, ok_21, ok_30, ok_50, ok_180, ok_192, ok_200, ha, a0]
    exact hP J h2
theorem div8 {w : Int32} (h : 0 ≤ w ∧ w ≤ 32) : 0 ≤ w / 8 ∧ w / 8 ≤ 4 := by
  have h1 := Int32.le_iff_toInt_le.mp h.1
  have h2 := Int32.le_iff_toInt_le.mp h.2
  have h32 : (32 : Int32).toInt = 32 := rfl
  have h8 : (8 : Int32).toInt = 8 := rfl
  have h4 : (4 : Int32).toInt = 4 := rfl
  simp at h1
  rw [Int32.le_iff_toInt_le, Int32.le_iff_toInt_le, ti_div h.1 (by decide), h8, h4]
  simp
  omega
theorem hw_rng {a : Nat} (ha : K a = 1) (hT : cT C K L I R) : 0 ≤ hw C L R I a ∧ hw C L R I a ≤ 4 := by
  have hS := hT.s
  have ga := hT.g_ask a ha
  unfold hw
  split
  · rename_i hb
    have hl : 0 ≤ lw C I a ∧ lw C I a ≤ 32 := by
      unfold lw
      rw [if_pos hb]
      have := lf_rng hT.g_lost (e := I a 14 + I a 2) 200 (I a 14) 0 (I a 2) (ga.2.2.2 hb).1 (by clear hT; grind) (by clear hT; grind) (Int32.le_refl _) (by clear hT; grind)
      generalize lf (I (C + 3)) (I a 14 + I a 2) 200 (I a 14) 0 = z at this
      clear hT; grind
    by_cases h : cf C R I (I a 14) 30 0 0 = 0
    · rw [ow_zero h]
      exact div8 hl
    · rw [ow_pos h]
      generalize vs (I (R (cf C R I (I a 14) 30 0 0) 2)) (lq I a (I a 13) (I a 14) (lw C I a)) (Int32.ofNat (L (R (cf C R I (I a 14) 30 0 0) 2))) 60 0 0 (fun _ => 0) = y
      clear hT; grind
  · decide
theorem hw_C (h : dC C K L R I J) {a : Nat} (ha : K a = 1) (hT : cT C K L I R) : hw C L R J a = hw C L R I a := by
  have hS := hT.s
  have a1 := (hT.g_ask a ha).1
  have e : ∀ j, J a j = I a j := fun j => h.2 _ _ (by omega) (by omega)
  have e1 : J (C + 3) = I (C + 3) := by funext j; exact h.2 _ _ (by omega) (by omega)
  have e2 : lw C J a = lw C I a := by unfold lw; rw [e 13, e 14, e 2, e1]
  unfold hw
  rw [e 13, e2, ow_C h ha hT]
end K4

section
/-! hours lost, what is owed -/
/-- whether an hour is lost, hours lost of a SHIFT, of a place -/
def lkY (Y : Nat → Nat → Int32) (h : Int32) : Int32 := lhu (Y 2) (fun j => Y 2 j + Y 3 j - 1) (Y 4) (Y 0 0) h (Y 0 2).toNatClampNeg 0
def liY (Y : Nat → Nat → Int32) (s : Int32) : Int32 := lsu (lkY Y) (8 * s) 8 0 0
def loI (Y : Nat → Nat → Int32) (s : Int32) : Nat → Int32 → Int32 → Int32
  | 0, _, p => p
  | k + 1, i, p => loI Y s k (i + 1) (p + liY Y (s + i))
def loY (Y : Nat → Nat → Int32) (a : Int32) : Int32 := if 0 ≤ Y 20 a.toNatClampNeg then loI Y (Y 21 a.toNatClampNeg) (Y 10 a.toNatClampNeg).toNatClampNeg 0 0 else 0
/-- the text that counts -/
def coI (Y : Nat → Nat → Int32) (s : Int32) : Nat → Int32 → Int32 → Int32
  | 0, _, b => b
  | k + 1, i, b => coI Y s k (i + 1) (if (wtY Y i.toNatClampNeg 0 = 79 ∧ Y 30 i.toNatClampNeg ≤ s ∧ s < Y 31 i.toNatClampNeg) ∧ (b < 0 ∨ Y 30 b.toNatClampNeg ≤ Y 30 i.toNatClampNeg) then i else b)
def coY (Y : Nat → Nat → Int32) (s : Int32) : Int32 := coI Y s (Y 0 41).toNatClampNeg 0 (-1)
/-- the facts of an ASK at a place -/
def fcA (Y : Nat → Nat → Int32) (a b s l : Int32) : Nat → Int32 := fcY Y a.toNatClampNeg (mkY (cmY Y) (hsY Y) a) b s l
def owC (v n : Int32) : Int32 := if v < 0 then 0 else if n < v then n else v
def owY (Y : Nat → Nat → Int32) (a l : Int32) : Int32 := if coY Y (Y 21 a.toNatClampNeg) < 0 then l / 8 else owC (wvY Y (coY Y (Y 21 a.toNatClampNeg)).toNatClampNeg (fcA Y a (Y 20 a.toNatClampNeg) (Y 21 a.toNatClampNeg) l)) (Y 10 a.toNatClampNeg)
def ohY (Y : Nat → Nat → Int32) (a : Int32) : Int32 := if 0 ≤ Y 20 a.toNatClampNeg then owY Y a (loY Y a) else 0
/-- places are inside the ring -/
def inP (Y : Nat → Nat → Int32) : Prop := ∀ a : Nat, a < 30 → 0 ≤ Y 20 a → (0 ≤ Y 21 a ∧ Y 21 a ≤ 200 ∧ Y 21 a + Y 10 a ≤ 200) ∧ Y 20 a ≤ 5
/-- cells that no place hangs in and that what bars looks at -/
def sb (k j : Nat) : Prop := (k = 0 ∧ (j = 0 ∨ j = 2 ∨ j = 6 ∨ j = 9 ∨ j = 11 ∨ j = 17 ∨ j = 41)) ∨ (1 ≤ k ∧ k ≤ 19) ∨ (28 ≤ k ∧ k ≤ 31) ∨ (35 ≤ k ∧ k ≤ 38)
def sbE (Y Z : Nat → Nat → Int32) : Prop := ∀ k j, sb k j → Z k j = Y k j
section YPB
variable {Y Z : Nat → Nat → Int32}
theorem sbE_r (h : sbE Y Z) {k : Nat} (hk : (1 ≤ k ∧ k ≤ 19) ∨ (28 ≤ k ∧ k ≤ 31) ∨ (35 ≤ k ∧ k ≤ 38)) : Z k = Y k := funext (fun j => h k j (by unfold sb; omega))
theorem cmY_b (h : sbE Y Z) : cmY Z = cmY Y := cmY_eq (fun k => by rw [sbE_r h (k := 38) (by omega)]) (fun k => by rw [sbE_r h (k := 36) (by omega)])
theorem hsY_b (h : sbE Y Z) : hsY Z = hsY Y := by
  funext r
  unfold hsY
  rw [h 0 11 (by unfold sb; omega), h 0 17 (by unfold sb; omega), cmY_b h]
theorem wt_b (h : sbE Y Z) (x : Nat) : wtY Z x = wtY Y x := by
  unfold wtY
  rw [sbE_r h (k := 28) (by omega)]
theorem wv_b (h : sbE Y Z) {x : Nat} {fc : Nat → Int32} : wvY Z x fc = wvY Y x fc := by
  unfold wvY
  rw [wt_b h, sbE_r h (k := 29) (by omega)]
theorem hgY_b (h : sbE Y Z) {g s : Int32} {fc : Nat → Int32} : ∀ (k : Nat) (i : Int32), hgY Z g s fc k i = hgY Y g s fc k i := by
  intro k
  induction k with
  | zero => intro i; rfl
  | succ k ih =>
    intro i
    unfold hgY
    rw [wt_b h, wv_b h, sbE_r h (k := 30) (by omega), sbE_r h (k := 31) (by omega), ih]
theorem fcA_b (h : sbE Y Z) {a b s l : Int32} : fcA Z a b s l = fcA Y a b s l := by
  unfold fcA fcY
  rw [cmY_b h, hsY_b h, sbE_r h (k := 7) (by omega), sbE_r h (k := 8) (by omega), sbE_r h (k := 9) (by omega), sbE_r h (k := 10) (by omega), sbE_r h (k := 15) (by omega)]
theorem lkY_b (h : sbE Y Z) : lkY Z = lkY Y := by
  funext x
  unfold lkY
  rw [sbE_r h (k := 2) (by omega), sbE_r h (k := 3) (by omega), sbE_r h (k := 4) (by omega), h 0 0 (by unfold sb; omega), h 0 2 (by unfold sb; omega)]
theorem liY_b (h : sbE Y Z) : liY Z = liY Y := by
  funext s
  unfold liY
  rw [lkY_b h]
theorem lt4 {i : Int32} (h : 0 ≤ i ∧ i < 4) : i.toNatClampNeg < 4 := show _ < (4 : Int32).toNatClampNeg from cl_lt h.1 h.2
theorem fbI_c {s o m : Int32} (hm : m ≤ 4) (h9 : Z 0 9 = Y 0 9) (h21 : Z 21 o.toNatClampNeg = Y 21 o.toNatClampNeg) (h22 : ∀ i : Int32, 0 ≤ i → i < m → Z 22 (4 * o + i).toNatClampNeg = Y 22 (4 * o + i).toNatClampNeg) : ∀ (k : Nat) (i p : Int32), 0 ≤ i → i ≤ m → i.toNatClampNeg + k ≤ m.toNatClampNeg → fbI Z s o k i p = fbI Y s o k i p := by
  intro k
  induction k with
  | zero => intro i p _ _ _; rfl
  | succ k ih =>
    intro i p h0 h4 h1
    have w : i < m := cl_lt2 h0 (Int32.le_trans h0 h4) (by omega)
    obtain ⟨s1, s2, s3, s4⟩ := lp_st h0 w
    unfold fbI
    rw [h9, h21, h22 i h0 w, ih _ _ s2 s3 (by omega)]
theorem fbO_c {a s : Int32} (hl : ∀ j, 0 ≤ Y 10 j ∧ Y 10 j ≤ 4) (h9 : Z 0 9 = Y 0 9) (hq : ∀ o : Int32, 0 ≤ o → o < 30 → ¬ o = a → Z 20 o.toNatClampNeg = Y 20 o.toNatClampNeg ∧ Z 21 o.toNatClampNeg = Y 21 o.toNatClampNeg ∧ Z 10 o.toNatClampNeg = Y 10 o.toNatClampNeg ∧ (0 ≤ Y 20 o.toNatClampNeg → ∀ i : Int32, 0 ≤ i → i < Y 10 o.toNatClampNeg → Z 22 (4 * o + i).toNatClampNeg = Y 22 (4 * o + i).toNatClampNeg)) : ∀ (k : Nat) (o p : Int32), 0 ≤ o → o ≤ 30 → o.toNatClampNeg + k ≤ 30 → fbO Z a s k o p = fbO Y a s k o p := by
  intro k
  induction k with
  | zero => intro o p _ _ _; rfl
  | succ k ih =>
    intro o p h0 h30 h1
    have w : o < 30 := cl_lt2 h0 (by decide) (by rw [show (30 : Int32).toNatClampNeg = 30 from rfl]; omega)
    obtain ⟨s1, s2, s3, s4⟩ := lp_st h0 w
    unfold fbO
    by_cases e : o = a
    · rw [if_neg (fun z => z.2 e), if_neg (fun z => z.2 e), ih _ _ s2 s3 (by omega)]
    · obtain ⟨q1, q2, q10, q3⟩ := hq o h0 w e
      by_cases c : 0 ≤ Y 20 o.toNatClampNeg
      · rw [q1, q10, fbI_c (hl o.toNatClampNeg).2 h9 q2 (q3 c) _ 0 _ (by decide) (hl o.toNatClampNeg).1 (by rw [show (0 : Int32).toNatClampNeg = 0 from rfl]; omega), ih _ _ s2 s3 (by omega)]
      · rw [q1, if_neg (fun z => c z.1), if_neg (fun z => c z.1), ih _ _ s2 s3 (by omega)]
theorem fhY_c {a b s : Int32} (hn : 0 ≤ Y 0 17 ∧ Y 0 17 ≤ 30) (hl : ∀ j, 0 ≤ Y 10 j ∧ Y 10 j ≤ 4) (h6 : Z 6 = Y 6) (h17 : Z 0 17 = Y 0 17) (h9 : Z 0 9 = Y 0 9) (hq : ∀ o : Int32, 0 ≤ o → o < 30 → ¬ o = a → Z 20 o.toNatClampNeg = Y 20 o.toNatClampNeg ∧ Z 21 o.toNatClampNeg = Y 21 o.toNatClampNeg ∧ Z 10 o.toNatClampNeg = Y 10 o.toNatClampNeg ∧ (0 ≤ Y 20 o.toNatClampNeg → ∀ i : Int32, 0 ≤ i → i < Y 10 o.toNatClampNeg → Z 22 (4 * o + i).toNatClampNeg = Y 22 (4 * o + i).toNatClampNeg)) : fhY Z a b s = fhY Y a b s := by
  have h30 := cl_le0 hn.1 hn.2
  rw [show (30 : Int32).toNatClampNeg = 30 from rfl] at h30
  unfold fhY
  rw [h17, h6, fbO_c hl h9 hq _ 0 0 (by decide) (by decide) (by rw [show (0 : Int32).toNatClampNeg = 0 from rfl]; omega)]
theorem loI_c (h : liY Z = liY Y) {s : Int32} : ∀ (k : Nat) (i p : Int32), loI Z s k i p = loI Y s k i p := by
  intro k
  induction k with
  | zero => intro i p; rfl
  | succ k ih =>
    intro i p
    unfold loI
    rw [h, ih]
theorem loY_c (h : sbE Y Z) (h20 : Z 20 = Y 20) (h21 : Z 21 = Y 21) {a : Int32} : loY Z a = loY Y a := by
  unfold loY
  rw [h20, h21, sbE_r h (k := 10) (by omega), loI_c (liY_b h)]
end YPB
section YP
variable {d n t M : Nat} {K L : Nat → Nat} {I I0 J J0 J1 J2 : Nat → Nat → Int32} {R : Nat → Nat → Nat} {P : Option Value → AH → Prop} {f : Nat → Int32} {e : Int32}
theorem mC_sb (hC : mC M I0 I) : sbE (yv M I0) (yv M I) := fun k j p => hC.2 _ _ (by unfold sb at p; unfold sC; omega)
theorem mC_row (hC : mC M I0 I) {k : Nat} (hk : 20 ≤ k ∧ k ≤ 22) : yv M I k = yv M I0 k := funext (fun j => hC.2 _ _ (by unfold sC; omega))
theorem a_lt30 {a : Int32} (h : 0 ≤ a ∧ a < 30) : a.toNatClampNeg < 30 := show _ < (30 : Int32).toNatClampNeg from cl_lt h.1 h.2
theorem xT_two {f : Nat → Int32} {e : Int32} (hs : (xT f e).1 = true) : (2 : Int32) ≤ e := by
  refine Classical.byContradiction (fun w => ?_)
  unfold xT at hs
  by_cases c0 : 0 < e ∧ (f 0 = 66 ∨ f 0 = 87 ∨ f 0 = 79)
  · rw [if_pos c0] at hs
    by_cases c1 : 1 < e ∧ f 1 = 58
    · have := c1.1
      clear hs c0 c1
      grind
    · rw [if_neg c1] at hs
      exact absurd hs Bool.false_ne_true
  · rw [if_neg c0] at hs
    exact absurd hs Bool.false_ne_true
theorem xt_lossOf_4 (hS : m_S M K L R) (hR : mR M I) (hp : tpP M I) (hi : inP (yv M I)) {a : Int32} (ha : 0 ≤ a ∧ a < 30) (hb : 0 ≤ I (M + 20) a.toNatClampNeg) {V : Int32} (hP : P (some (.int V)) (n, t, K, L, I, R)) : ∀ i : Int32, i ≤ 4 → ∀ v, 0 ≤ i → i ≤ I (M + 10) a.toNatClampNeg → loI (yv M I) (I (M + 21) a.toNatClampNeg) ((I (M + 10) a.toNatClampNeg).toNatClampNeg - i.toNatClampNeg) i v = V → a_at (d + 1) (a_xm a_m189) 4 [some (a_rf M), some (.int a), some (.int v), some (.int i)] [] (n, t, K, L, I, R) P := by
  have gl := rg_length hR a.toNatClampNeg
  have gs := (hi _ (a_lt30 ha) hb).1
  replace gs : 0 ≤ I (M + 21) a.toNatClampNeg ∧ I (M + 21) a.toNatClampNeg ≤ 200 ∧ I (M + 21) a.toNatClampNeg + I (M + 10) a.toNatClampNeg ≤ 200 := gs
  refine up_ind 4 (fun i i4 ih => ?_)
  intro v h0 h1 hV
  have hexit : ¬ i < I (M + 10) a.toNatClampNeg → P (some (.int v)) (n, t, K, L, I, R) := fun w => by
    rw [(lp_end h1 w).1] at hV
    rw [show v = V from hV]
    exact hP
  have hgo : i < I (M + 10) a.toNatClampNeg → a_at (d + 1) (a_xm a_m189) 4 [some (a_rf M), some (.int a), some (.int (v + liY (yv M I) (I (M + 21) a.toNatClampNeg + i))), some (.int (i + 1))] [] (n, t, K, L, I, R) P := fun w => by
    obtain ⟨s1, s2, s3, s4⟩ := lp_st h0 w
    rw [s1] at hV
    exact ih (by clear ih hV hexit hP; grind) _ s2 s3 hV
  have hs : i < I (M + 10) a.toNatClampNeg → 0 ≤ I (M + 21) a.toNatClampNeg + i ∧ I (M + 21) a.toNatClampNeg + i ≤ 199 := fun w => by
    clear ih hV hexit hgo hP
    grind
  have hcall : i < I (M + 10) a.toNatClampNeg → a_does (d + 1) 177 [a_rf M, .int (I (M + 21) a.toNatClampNeg + i), .int (I M 0)] (n, t, K, L, I, R) (fun r h' => a_at (d + 1) (a_xm a_m189) 39 [some (a_rf M), some (.int a), some (.int v), some (.int i)] (r.toList ++ [.int v]) h' P) := fun w => by
    refine ce_lostIn hS hR hp (hs w) ?_
    have hgo := hgo w
    clear ih hV hexit hP
    simp only [q189_39, q189_40, q189_41, q189_44, as_nil, as_i, as_r, Nat.reduceAdd, Nat.reduceLeDiff, z_eq0, z_eq1, z_or, z_em, Classical.not_not, not_false_eq_true, not_true_eq_false, true_and, and_true, false_and, and_false, and_self, true_implies, false_implies, implies_true, Option.toList_some, Option.toList_none, List.cons_append, List.nil_append, Nat.add_eq_zero_iff, a_nl_i, a_nl_r, a_nl_n, true_or, or_true, eq_self, ok_4, ok_5, ok_6, ok_7, ok_9, ok_10, ok_20, ok_21, ok_24, ok_30, ok_48, ok_50, ok_60, ok_80, ok_120, ok_180, ok_192, ok_200, ok_900, ok_1000, ok_84000]
    exact hgo
  clear ih hV hP hgo hp hi
  rw [q189_4]
  repeat' first
    | with_reducible apply And.intro
    | with_reducible assumption
    | with_reducible intro _
    | refine hexit ?_
    | refine hcall ?_
    | simp only [q189_5, q189_6, q189_9, q189_10, q189_11, q189_14, q189_15, q189_16, q189_19, q189_22, q189_23, q189_24, q189_25, q189_28, q189_29, q189_30, q189_31, q189_32, q189_33, q189_36, q189_47, q189_48, m_0 hS, m_K hS, mR_length hS, mK_length hS, mL_length hS, mR_atShift hS, mK_atShift hS, mL_atShift hS, sp_hasPlace hS, as_nil, as_i, as_r, Nat.reduceAdd, Nat.reduceLeDiff, z_eq0, z_eq1, z_or, z_em, Classical.not_not, not_false_eq_true, not_true_eq_false, true_and, and_true, false_and, and_false, and_self, true_implies, false_implies, implies_true, Option.toList_some, Option.toList_none, List.cons_append, List.nil_append, Nat.add_eq_zero_iff, a_nl_i, a_nl_r, a_nl_n, true_or, or_true, eq_self, ok_4, ok_5, ok_6, ok_7, ok_9, ok_10, ok_20, ok_21, ok_24, ok_30, ok_48, ok_50, ok_60, ok_80, ok_120, ok_180, ok_192, ok_200, ok_900, ok_1000, ok_84000]
  all_goals ((try clear hS); (try clear hR); grind [ui_ap])
theorem xt_lossOf (hS : m_S M K L R) (hR : mR M I) (hp : tpP M I) (hi : inP (yv M I)) {a : Int32} (ha : 0 ≤ a ∧ a < 30) (hP : P (some (.int (loY (yv M I) a))) (n, t, K, L, I, R)) : a_does (d + 2) 189 [a_rf M, .int a] (n, t, K, L, I, R) P := by
  have gl := rg_length hR a.toNatClampNeg
  unfold loY at hP
  by_cases c : 0 ≤ I (M + 20) a.toNatClampNeg
  · rw [if_pos (show 0 ≤ (yv M I) 20 a.toNatClampNeg from c)] at hP
    have hl := xt_lossOf_4 (d := d) hS hR hp hi ha c hP 0 (by decide) 0 (by decide) gl.1 (by rw [lp_0]; rfl)
    rw [a_enter1 (M := a_m189) rfl (a_cat_rf (a_cat_int a_cat_nil)) (show 2 ≤ 4 by decide)]
    show a_at _ (a_xm a_m189) 0 [some (a_rf M), some (.int a), none, none] [] _ _
    simp only [q189_0, q189_1, q189_2, q189_3, as_nil, as_i, as_r, Nat.reduceAdd, Nat.reduceLeDiff, z_eq0, z_eq1, z_or, z_em, Classical.not_not, not_false_eq_true, not_true_eq_false, true_and, and_true, false_and, and_false, and_self, true_implies, false_implies, implies_true, Option.toList_some, Option.toList_none, List.cons_append, List.nil_append, Nat.add_eq_zero_iff, a_nl_i, a_nl_r, a_nl_n, true_or, or_true, eq_self, ok_4, ok_5, ok_6, ok_7, ok_9, ok_10, ok_20, ok_21, ok_24, ok_30, ok_48, ok_50, ok_60, ok_80, ok_120, ok_180, ok_192, ok_200, ok_900, ok_1000, ok_84000]
    exact hl
  · rw [if_neg (show ¬ 0 ≤ (yv M I) 20 a.toNatClampNeg from c)] at hP
    rw [a_enter1 (M := a_m189) rfl (a_cat_rf (a_cat_int a_cat_nil)) (show 2 ≤ 4 by decide)]
    show a_at _ (a_xm a_m189) 0 [some (a_rf M), some (.int a), none, none] [] _ _
    simp only [q189_0, q189_1, q189_2, q189_3, as_nil, as_i, as_r, Nat.reduceAdd, Nat.reduceLeDiff, z_eq0, z_eq1, z_or, z_em, Classical.not_not, not_false_eq_true, not_true_eq_false, true_and, and_true, false_and, and_false, and_self, true_implies, false_implies, implies_true, Option.toList_some, Option.toList_none, List.cons_append, List.nil_append, Nat.add_eq_zero_iff, a_nl_i, a_nl_r, a_nl_n, true_or, or_true, eq_self, ok_4, ok_5, ok_6, ok_7, ok_9, ok_10, ok_20, ok_21, ok_24, ok_30, ok_48, ok_50, ok_60, ok_80, ok_120, ok_180, ok_192, ok_200, ok_900, ok_1000, ok_84000]
    rw [q189_4]
    simp only [q189_5, q189_6, q189_9, q189_10, q189_11, q189_14, q189_15, q189_16, q189_19, q189_47, q189_48, m_0 hS, m_K hS, mR_length hS, mK_length hS, mL_length hS, sp_hasPlace hS, as_nil, as_i, as_r, Nat.reduceAdd, Nat.reduceLeDiff, z_eq0, z_eq1, z_or, z_em, Classical.not_not, not_false_eq_true, not_true_eq_false, true_and, and_true, false_and, and_false, and_self, true_implies, false_implies, implies_true, Option.toList_some, Option.toList_none, List.cons_append, List.nil_append, Nat.add_eq_zero_iff, a_nl_i, a_nl_r, a_nl_n, true_or, or_true, eq_self, ok_4, ok_5, ok_6, ok_7, ok_9, ok_10, ok_20, ok_21, ok_24, ok_30, ok_48, ok_50, ok_60, ok_80, ok_120, ok_180, ok_192, ok_200, ok_900, ok_1000, ok_84000, c]
    clear hp hi hR
    grind
theorem xt_owedOf_21 (hS : m_S M K L R) (hC : mC M I0 I) {a l s : Int32} (ha : 0 ≤ a ∧ a < 30) (hs : (yv M I0) 21 a.toNatClampNeg = s) {V : Int32} (hP : ∀ i, a_at (d + 6) (a_xm a_m190) 80 [some (a_rf M), some (.int a), some (.int l), some (.int V), some (.int i)] [] (n, t, K, L, I, R) P) : ∀ i : Int32, i ≤ 20 → ∀ b, 0 ≤ i → i ≤ (yv M I0) 0 41 → b < (yv M I0) 0 41 → coI (yv M I0) s (((yv M I0) 0 41).toNatClampNeg - i.toNatClampNeg) i b = V → a_at (d + 6) (a_xm a_m190) 21 [some (a_rf M), some (.int a), some (.int l), some (.int b), some (.int i)] [] (n, t, K, L, I, R) P := by
  have et : I M 41 = (yv M I0) 0 41 := hC.2 _ _ (by unfold sC; omega)
  have ew : ∀ j, I (M + 28) j = (yv M I0) 28 j := fun j => hC.2 _ _ (by unfold sC; omega)
  have e30 : ∀ j, I (M + 30) j = (yv M I0) 30 j := fun j => hC.2 _ _ (by unfold sC; omega)
  have e31 : ∀ j, I (M + 31) j = (yv M I0) 31 j := fun j => hC.2 _ _ (by unfold sC; omega)
  have e21 : I (M + 21) a.toNatClampNeg = s := (hC.2 _ _ (by unfold sC; omega)).trans hs
  have gt := rg_texts hC.1
  rw [et] at gt
  generalize ez : (yv M I0) 0 41 = z at et gt
  refine up_ind 20 (fun i i20 ih => ?_)
  intro b h0 h1 hb hV
  have hexit : ¬ i < z → a_at (d + 6) (a_xm a_m190) 80 [some (a_rf M), some (.int a), some (.int l), some (.int b), some (.int i)] [] (n, t, K, L, I, R) P := fun w => by
    rw [(lp_end h1 w).1] at hV
    rw [show b = V from hV]
    exact hP i
  have hgo : i < z → ∀ b2, b2 = (if (wtY (yv M I0) i.toNatClampNeg 0 = 79 ∧ (yv M I0) 30 i.toNatClampNeg ≤ s ∧ s < (yv M I0) 31 i.toNatClampNeg) ∧ (b < 0 ∨ (yv M I0) 30 b.toNatClampNeg ≤ (yv M I0) 30 i.toNatClampNeg) then i else b) → a_at (d + 6) (a_xm a_m190) 21 [some (a_rf M), some (.int a), some (.int l), some (.int b2), some (.int (i + 1))] [] (n, t, K, L, I, R) P := fun w b2 e2 => by
    obtain ⟨s1, s2, s3, s4⟩ := lp_st h0 w
    rw [s1] at hV
    have hb2 : b2 < z := by
      rw [e2]
      split
      · exact w
      · exact hb
    subst e2
    exact ih (by clear ih hV hexit hP; grind) _ s2 s3 hb2 hV
  have h30 : i < z → a_at (d + 6) (a_xm a_m190) 30 [some (a_rf M), some (.int a), some (.int l), some (.int b), some (.int i)] [] (n, t, K, L, I, R) P := fun w => by
    have i2 : 0 ≤ i ∧ i < 20 := ⟨h0, by clear ih hV hexit hgo hP; grind⟩
    have hgo := hgo w
    obtain ⟨n1, n2, n3, n4⟩ := n50 i2 (i := 0) ⟨by decide, by decide⟩
    have e0 : I (M + 28) (50 * i).toNatClampNeg = wtY (yv M I0) i.toNatClampNeg 0 := by
      rw [n2, ew]
      rfl
    have n4' : 50 * i < 1000 := by
      clear ih hV hexit hgo hP e0 ew e30 e31
      grind
    have b20 : ¬ b < 0 → 0 ≤ b ∧ b < 20 := fun q => ⟨Int32.not_lt.mp q, by clear ih hV hexit hgo hP e0 ew e30 e31; grind⟩
    have n10 : ¬ (1 : Int32) = 0 := by decide
    clear ih hV hexit hP
    simp only [q190_30, q190_31, q190_33, q190_35, q190_36, q190_39, q190_40, q190_41, m_0 hS, m_K hS, mR_atShift hS, mK_atShift hS, mL_atShift hS, sp_isInForce hS, as_nil, as_i, as_r, Nat.reduceAdd, Nat.reduceLeDiff, z_eq0, z_eq1, z_or, z_em, Classical.not_not, not_false_eq_true, not_true_eq_false, true_and, and_true, false_and, and_false, and_self, true_implies, false_implies, implies_true, Option.toList_some, Option.toList_none, List.cons_append, List.nil_append, Nat.add_eq_zero_iff, a_nl_i, a_nl_r, a_nl_n, true_or, or_true, eq_self, ok_4, ok_5, ok_6, ok_7, ok_9, ok_10, ok_20, ok_21, ok_24, ok_30, ok_48, ok_50, ok_60, ok_80, ok_120, ok_180, ok_192, ok_200, ok_900, ok_1000, ok_84000, e0, e30, e31, e21]
    refine ⟨ha, ⟨n3, n4'⟩, fun _ => i2, ?_⟩
    by_cases c : wtY (yv M I0) i.toNatClampNeg 0 = 79 ∧ (yv M I0) 30 i.toNatClampNeg ≤ s ∧ s < (yv M I0) 31 i.toNatClampNeg
    · rw [if_pos c]
      by_cases c2 : b < 0
      · have hg := hgo i (by rw [if_pos ⟨c, Or.inl c2⟩])
        clear hgo
        simp only [q190_44, q190_47, q190_48, q190_51, q190_52, q190_55, q190_57, q190_58, q190_59, q190_62, q190_63, q190_64, q190_67, q190_69, q190_72, q190_73, q190_74, q190_77, m_0 hS, m_K hS, mR_textFrom hS, mK_textFrom hS, mL_textFrom hS, as_nil, as_i, as_r, Nat.reduceAdd, Nat.reduceLeDiff, z_eq0, z_eq1, z_or, z_em, Classical.not_not, not_false_eq_true, not_true_eq_false, true_and, and_true, false_and, and_false, and_self, true_implies, false_implies, implies_true, Option.toList_some, Option.toList_none, List.cons_append, List.nil_append, Nat.add_eq_zero_iff, a_nl_i, a_nl_r, a_nl_n, true_or, or_true, eq_self, ok_4, ok_5, ok_6, ok_7, ok_9, ok_10, ok_20, ok_21, ok_24, ok_30, ok_48, ok_50, ok_60, ok_80, ok_120, ok_180, ok_192, ok_200, ok_900, ok_1000, ok_84000, n10, c2]
        first
          | exact hg
          | grind
      · have hg := hgo
        have b2 := b20 c2
        simp only [q190_44, q190_47, q190_48, q190_51, q190_52, q190_55, q190_57, q190_58, q190_59, q190_62, q190_63, q190_64, q190_67, q190_69, q190_72, q190_73, q190_74, q190_77, m_0 hS, m_K hS, mR_textFrom hS, mK_textFrom hS, mL_textFrom hS, as_nil, as_i, as_r, Nat.reduceAdd, Nat.reduceLeDiff, z_eq0, z_eq1, z_or, z_em, Classical.not_not, not_false_eq_true, not_true_eq_false, true_and, and_true, false_and, and_false, and_self, true_implies, false_implies, implies_true, Option.toList_some, Option.toList_none, List.cons_append, List.nil_append, Nat.add_eq_zero_iff, a_nl_i, a_nl_r, a_nl_n, true_or, or_true, eq_self, ok_4, ok_5, ok_6, ok_7, ok_9, ok_10, ok_20, ok_21, ok_24, ok_30, ok_48, ok_50, ok_60, ok_80, ok_120, ok_180, ok_192, ok_200, ok_900, ok_1000, ok_84000, n10, c2, e30]
        clear hgo
        grind
    · have hg := hgo b (by rw [if_neg (fun q => c q.1)])
      rw [if_neg c]
      clear hgo
      simp only [q190_44, q190_72, q190_73, q190_74, q190_77, as_nil, as_i, as_r, Nat.reduceAdd, Nat.reduceLeDiff, z_eq0, z_eq1, z_or, z_em, Classical.not_not, not_false_eq_true, not_true_eq_false, true_and, and_true, false_and, and_false, and_self, true_implies, false_implies, implies_true, Option.toList_some, Option.toList_none, List.cons_append, List.nil_append, Nat.add_eq_zero_iff, a_nl_i, a_nl_r, a_nl_n, true_or, or_true, eq_self, ok_4, ok_5, ok_6, ok_7, ok_9, ok_10, ok_20, ok_21, ok_24, ok_30, ok_48, ok_50, ok_60, ok_80, ok_120, ok_180, ok_192, ok_200, ok_900, ok_1000, ok_84000]
      first
        | exact hg
        | grind
  clear ih hV hP hgo ew e30 e31
  rw [q190_21]
  simp only [q190_23, q190_24, q190_27, m_0 hS, m_K hS, as_nil, as_i, as_r, Nat.reduceAdd, Nat.reduceLeDiff, z_eq0, z_eq1, z_or, z_em, Classical.not_not, not_false_eq_true, not_true_eq_false, true_and, and_true, false_and, and_false, and_self, true_implies, false_implies, implies_true, Option.toList_some, Option.toList_none, List.cons_append, List.nil_append, Nat.add_eq_zero_iff, a_nl_i, a_nl_r, a_nl_n, true_or, or_true, eq_self, ok_4, ok_5, ok_6, ok_7, ok_9, ok_10, ok_20, ok_21, ok_24, ok_30, ok_48, ok_50, ok_60, ok_80, ok_120, ok_180, ok_192, ok_200, ok_900, ok_1000, ok_84000, et]
  clear hC
  grind
theorem coI_lo {Y : Nat → Nat → Int32} {s : Int32} : ∀ (k : Nat) (i b : Int32), 0 ≤ i → i.toNatClampNeg + k ≤ 20 → -1 ≤ b → b < i → -1 ≤ coI Y s k i b ∧ coI Y s k i b < i + Int32.ofNat k := by
  intro k
  induction k with
  | zero =>
    intro i b h0 h1 h2 h3
    refine ⟨h2, ?_⟩
    show b < i + 0
    rw [Int32.add_zero]
    exact h3
  | succ k ih =>
    intro i b h0 h1 h2 h3
    unfold coI
    have ei : i < 20 := by
      rw [Int32.lt_iff_toInt_lt]
      have e1 : i.toNatClampNeg = i.toInt.toNat := rfl
      have e2 : (20 : Int32).toInt = 20 := rfl
      omega
    have e1 : (i + 1).toNatClampNeg = i.toNatClampNeg + 1 := (lp_st h0 ei).2.2.2
    have e2 : i + 1 + Int32.ofNat k = i + Int32.ofNat (k + 1) := by
      rw [Int32.add_assoc, show (1 : Int32) + Int32.ofNat k = Int32.ofNat (k + 1) by rw [Int32.ofNat_add]; exact Int32.add_comm _ _]
    have i1 : i < i + 1 := by
      clear ih h1 e1 e2
      grind
    split
    · have := ih (i + 1) i (lp_st h0 ei).2.1 (by omega) (by clear ih e1 e2 h1; grind) i1
      rw [e2] at this
      exact this
    · have := ih (i + 1) b (lp_st h0 ei).2.1 (by omega) h2 (Int32.lt_trans h3 i1)
      rw [e2] at this
      exact this
theorem coY_lo {Y : Nat → Nat → Int32} (ht : 0 ≤ Y 0 41 ∧ Y 0 41 ≤ 20) {s : Int32} : -1 ≤ coY Y s ∧ coY Y s < Y 0 41 := by
  have h20 : (Y 0 41).toNatClampNeg ≤ 20 := cl_le0 ht.1 ht.2
  have := coI_lo (Y := Y) (s := s) (Y 0 41).toNatClampNeg 0 (-1) (by decide) (by show 0 + _ ≤ 20; omega) (by decide) (by decide)
  rw [Int32.zero_add, ← on_cl ht.1] at this
  exact this
theorem coI_is {Y : Nat → Nat → Int32} {s : Int32} : ∀ (k : Nat) (i b : Int32), (0 ≤ b → wtY Y b.toNatClampNeg 0 = 79) → 0 ≤ coI Y s k i b → wtY Y (coI Y s k i b).toNatClampNeg 0 = 79 := by
  intro k
  induction k with
  | zero => intro i b h h0; exact h h0
  | succ k ih =>
    intro i b h h0
    unfold coI at h0 ⊢
    refine ih _ _ (fun q => ?_) h0
    split
    · rename_i c
      exact c.1.1
    · rename_i c
      rw [if_neg c] at q
      exact h q
theorem rT_C (h : mC M I0 J) (h2 : rT M J J2) : mC M I0 J2 := ⟨h2.1, fun x j p => (h2.2.1 x j (by unfold sC at p; omega)).trans (h.2 x j p)⟩
theorem xt_owedOf (hS : m_S M K L R) (hC : mC M I0 I) (hm : mkP (yv M I0)) (hts : tsY (yv M I0)) (hp : tpP M I0) (hi : inP (yv M I0)) {a : Int32} (ha : 0 ≤ a ∧ a < 30) (hP : ∀ J, mC M I0 J → P (some (.int (ohY (yv M I0) a))) (n, t, K, L, J, R)) : a_does (d + 7) 190 [a_rf M, .int a] (n, t, K, L, I, R) P := by
  have hR := hC.1
  have e20 : I (M + 20) a.toNatClampNeg = (yv M I0) 20 a.toNatClampNeg := hC.2 _ _ (by unfold sC; omega)
  have e21 : I (M + 21) a.toNatClampNeg = (yv M I0) 21 a.toNatClampNeg := hC.2 _ _ (by unfold sC; omega)
  have e10 : I (M + 10) a.toNatClampNeg = (yv M I0) 10 a.toNatClampNeg := hC.2 _ _ (by unfold sC; omega)
  have et : I M 41 = (yv M I0) 0 41 := hC.2 _ _ (by unfold sC; omega)
  have gt := rg_texts hR
  rw [et] at gt
  unfold ohY at hP
  by_cases c : 0 ≤ (yv M I0) 20 a.toNatClampNeg
  · rw [if_pos c] at hP
    have el : loY (yv M I) a = loY (yv M I0) a := by
      exact loY_c (mC_sb hC) (mC_row hC (by omega)) (mC_row hC (by omega))
    have hpI : tpP M I := fun j hj => by
      have e0 : I M 2 = I0 M 2 := hC.2 _ _ (by unfold sC; omega)
      have e1 : I (M + 2) j = I0 (M + 2) j := hC.2 _ _ (by unfold sC; omega)
      have e2 : I (M + 3) j = I0 (M + 3) j := hC.2 _ _ (by unfold sC; omega)
      rw [e0] at hj
      rw [e1, e2]
      exact hp j hj
    have hiI : inP (yv M I) := fun j hj => by
      have e0 : (yv M I) 20 j = (yv M I0) 20 j := hC.2 _ _ (by unfold sC; omega)
      have e1 : (yv M I) 21 j = (yv M I0) 21 j := hC.2 _ _ (by unfold sC; omega)
      have e2 : (yv M I) 10 j = (yv M I0) 10 j := hC.2 _ _ (by unfold sC; omega)
      rw [e0, e1, e2]
      exact hi j hj
    obtain ⟨c1, c2⟩ := coY_lo gt (s := (yv M I0) 21 a.toNatClampNeg)
    have c3 := coI_is (Y := (yv M I0)) (s := (yv M I0) 21 a.toNatClampNeg) ((yv M I0) 0 41).toNatClampNeg 0 (-1) (fun q => absurd q (by decide))
    unfold owY at hP
    have h89 : ∀ i, ¬ coY (yv M I0) ((yv M I0) 21 a.toNatClampNeg) < 0 → a_at (d + 6) (a_xm a_m190) 89 [some (a_rf M), some (.int a), some (.int (loY (yv M I0) a)), some (.int (coY (yv M I0) ((yv M I0) 21 a.toNatClampNeg))), some (.int i)] [] (n, t, K, L, I, R) P := fun i w => by
      rw [if_neg w] at hP
      have w0 := Int32.not_lt.mp w
      have hx : 0 ≤ coY (yv M I0) ((yv M I0) 21 a.toNatClampNeg) ∧ coY (yv M I0) ((yv M I0) 21 a.toNatClampNeg) < 20 := ⟨w0, by clear hP hpI hiI hC hm hts hp hi c3; grind⟩
      have hl79 : wtY (yv M I0) (coY (yv M I0) ((yv M I0) 21 a.toNatClampNeg)).toNatClampNeg 0 = 79 := c3 w0
      have hts1 := hts _ (cl_lt w0 c2)
      obtain ⟨r1, r2, r3⟩ := xT_sum hts1.1 hl79
      clear c3 hpI hiI hp hi
      simp only [q190_89, q190_90, q190_91, q190_92, q190_95, q190_96, q190_97, q190_98, q190_101, q190_102, q190_103, q190_104, m_0 hS, m_K hS, mR_atBench hS, mK_atBench hS, mL_atBench hS, mR_atShift hS, mK_atShift hS, mL_atShift hS, as_nil, as_i, as_r, Nat.reduceAdd, Nat.reduceLeDiff, z_eq0, z_eq1, z_or, z_em, Classical.not_not, not_false_eq_true, not_true_eq_false, true_and, and_true, false_and, and_false, and_self, true_implies, false_implies, implies_true, Option.toList_some, Option.toList_none, List.cons_append, List.nil_append, Nat.add_eq_zero_iff, a_nl_i, a_nl_r, a_nl_n, true_or, or_true, eq_self, ok_4, ok_5, ok_6, ok_7, ok_9, ok_10, ok_20, ok_21, ok_24, ok_30, ok_48, ok_50, ok_60, ok_80, ok_120, ok_180, ok_192, ok_200, ok_900, ok_1000, ok_84000, e20, e21]
      refine ⟨ha, ha, xt_findFacts (d := d + 3) hS hC hm ha (fun J m1 m2 => ?_)⟩
      simp only [q190_107, q190_108, q190_109, m_0 hS, m_K hS, as_nil, as_i, as_r, Nat.reduceAdd, Nat.reduceLeDiff, z_eq0, z_eq1, z_or, z_em, Classical.not_not, not_false_eq_true, not_true_eq_false, true_and, and_true, false_and, and_false, and_self, true_implies, false_implies, implies_true, Option.toList_some, Option.toList_none, List.cons_append, List.nil_append, Nat.add_eq_zero_iff, a_nl_i, a_nl_r, a_nl_n, true_or, or_true, eq_self, ok_4, ok_5, ok_6, ok_7, ok_9, ok_10, ok_20, ok_21, ok_24, ok_30, ok_48, ok_50, ok_60, ok_80, ok_120, ok_180, ok_192, ok_200, ok_900, ok_1000, ok_84000]
      refine xt_open (d := d + 5) hS m1 hx (fun J2 m3 m4 m5 m6 m7 => ?_)
      have h2e : (2 : Int32) ≤ (yv M I0) 29 (coY (yv M I0) ((yv M I0) 21 a.toNatClampNeg)).toNatClampNeg := xT_two hts1.1
      simp only [q190_112, q190_113, m_0 hS, m_K hS, as_nil, as_i, as_r, Nat.reduceAdd, Nat.reduceLeDiff, z_eq0, z_eq1, z_or, z_em, Classical.not_not, not_false_eq_true, not_true_eq_false, true_and, and_true, false_and, and_false, and_self, true_implies, false_implies, implies_true, Option.toList_some, Option.toList_none, List.cons_append, List.nil_append, Nat.add_eq_zero_iff, a_nl_i, a_nl_r, a_nl_n, true_or, or_true, eq_self, ok_4, ok_5, ok_6, ok_7, ok_9, ok_10, ok_20, ok_21, ok_24, ok_30, ok_48, ok_50, ok_60, ok_80, ok_120, ok_180, ok_192, ok_200, ok_900, ok_1000, ok_84000]
      refine xe_readSum (d := d + 3) hS m3.1 m4 (by rw [m6]; exact ⟨by decide, h2e⟩) m7 (fun J3 m8 _ _ => ?_)
      rw [m6, ← r3]
      have hf3 : mC M I0 J3 := rT_C m3 m8
      have ev : (xT (wtY (yv M I0) (coY (yv M I0) ((yv M I0) 21 a.toNatClampNeg)).toNatClampNeg) ((yv M I0) 29 (coY (yv M I0) ((yv M I0) 21 a.toNatClampNeg)).toNatClampNeg)).2.2 (J2 (M + 32)) = wvY (yv M I0) (coY (yv M I0) ((yv M I0) 21 a.toNatClampNeg)).toNatClampNeg (fcA (yv M I0) a ((yv M I0) 20 a.toNatClampNeg) ((yv M I0) 21 a.toNatClampNeg) (loY (yv M I0) a)) := xT_q _ _ (fun j hj => by rw [m5, m2 j hj]; rfl)
      have e10' : J3 (M + 10) a.toNatClampNeg = (yv M I0) 10 a.toNatClampNeg := hf3.2 _ _ (by unfold sC; omega)
      rw [ev]
      have hp3 := hP J3 hf3
      unfold owC at hp3
      generalize wvY (yv M I0) (coY (yv M I0) ((yv M I0) 21 a.toNatClampNeg)).toNatClampNeg (fcA (yv M I0) a ((yv M I0) 20 a.toNatClampNeg) ((yv M I0) 21 a.toNatClampNeg) (loY (yv M I0) a)) = v at hp3 ⊢
      clear hP hC hm hts m1 m2 m3 m4 m5 m8 hf3 ev r1 r2 r3
      simp only [q190_116, q190_118, q190_120, q190_123, q190_124, q190_127, q190_129, q190_130, q190_133, q190_134, q190_135, q190_138, q190_139, q190_142, q190_143, q190_144, q190_147, q190_149, m_0 hS, m_K hS, mR_length hS, mK_length hS, mL_length hS, as_nil, as_i, as_r, Nat.reduceAdd, Nat.reduceLeDiff, z_eq0, z_eq1, z_or, z_em, Classical.not_not, not_false_eq_true, not_true_eq_false, true_and, and_true, false_and, and_false, and_self, true_implies, false_implies, implies_true, Option.toList_some, Option.toList_none, List.cons_append, List.nil_append, Nat.add_eq_zero_iff, a_nl_i, a_nl_r, a_nl_n, true_or, or_true, eq_self, ok_4, ok_5, ok_6, ok_7, ok_9, ok_10, ok_20, ok_21, ok_24, ok_30, ok_48, ok_50, ok_60, ok_80, ok_120, ok_180, ok_192, ok_200, ok_900, ok_1000, ok_84000, e10']
      grind
    have hl := xt_owedOf_21 (d := d) (n := n) (t := t) (P := P) (l := loY (yv M I0) a) hS hC ha rfl (V := coY (yv M I0) ((yv M I0) 21 a.toNatClampNeg)) (fun i => by
      have h89 := h89 i
      by_cases w : coY (yv M I0) ((yv M I0) 21 a.toNatClampNeg) < 0
      · have hp2 := hP I hC
        rw [if_pos w] at hp2
        clear h89 hP hpI hiI hC hm hts hp hi c3
        simp only [q190_80, q190_81, q190_84, q190_85, q190_87, q190_88, as_nil, as_i, as_r, Nat.reduceAdd, Nat.reduceLeDiff, z_eq0, z_eq1, z_or, z_em, Classical.not_not, not_false_eq_true, not_true_eq_false, true_and, and_true, false_and, and_false, and_self, true_implies, false_implies, implies_true, Option.toList_some, Option.toList_none, List.cons_append, List.nil_append, Nat.add_eq_zero_iff, a_nl_i, a_nl_r, a_nl_n, true_or, or_true, eq_self, ok_4, ok_5, ok_6, ok_7, ok_9, ok_10, ok_20, ok_21, ok_24, ok_30, ok_48, ok_50, ok_60, ok_80, ok_120, ok_180, ok_192, ok_200, ok_900, ok_1000, ok_84000, w]
        first
          | exact hp2
          | grind
      · have h89 := h89 w
        clear hP hpI hiI hC hm hts hp hi c3
        simp only [q190_80, q190_81, as_nil, as_i, as_r, Nat.reduceAdd, Nat.reduceLeDiff, z_eq0, z_eq1, z_or, z_em, Classical.not_not, not_false_eq_true, not_true_eq_false, true_and, and_true, false_and, and_false, and_self, true_implies, false_implies, implies_true, Option.toList_some, Option.toList_none, List.cons_append, List.nil_append, Nat.add_eq_zero_iff, a_nl_i, a_nl_r, a_nl_n, true_or, or_true, eq_self, ok_4, ok_5, ok_6, ok_7, ok_9, ok_10, ok_20, ok_21, ok_24, ok_30, ok_48, ok_50, ok_60, ok_80, ok_120, ok_180, ok_192, ok_200, ok_900, ok_1000, ok_84000, w]
        first
          | exact h89
          | grind) 0 (by decide) (-1) (by decide) gt.1 (by clear hP h89 hpI hiI hC hm hts hp hi c3; grind) (by rw [lp_0]; rfl)
    clear h89 hP
    rw [a_enter1 (M := a_m190) rfl (a_cat_rf (a_cat_int a_cat_nil)) (show 2 ≤ 5 by decide)]
    show a_at _ (a_xm a_m190) 0 [some (a_rf M), some (.int a), none, none, none] [] _ _
    simp only [q190_0, q190_1, q190_2, q190_5, q190_8, q190_9, q190_10, q190_11, q190_12, m_0 hS, m_K hS, sp_hasPlace hS, as_nil, as_i, as_r, Nat.reduceAdd, Nat.reduceLeDiff, z_eq0, z_eq1, z_or, z_em, Classical.not_not, not_false_eq_true, not_true_eq_false, true_and, and_true, false_and, and_false, and_self, true_implies, false_implies, implies_true, Option.toList_some, Option.toList_none, List.cons_append, List.nil_append, Nat.add_eq_zero_iff, a_nl_i, a_nl_r, a_nl_n, true_or, or_true, eq_self, ok_4, ok_5, ok_6, ok_7, ok_9, ok_10, ok_20, ok_21, ok_24, ok_30, ok_48, ok_50, ok_60, ok_80, ok_120, ok_180, ok_192, ok_200, ok_900, ok_1000, ok_84000, e20, c]
    try simp only [true_and, and_true, true_implies, false_implies, implies_true, not_true_eq_false, not_false_eq_true]
    refine ⟨ha, xt_lossOf (d := d + 4) hS hR hpI hiI ha ?_⟩
    rw [el]
    clear hpI hiI hC hm hts hp hi c3
    simp only [q190_15, q190_16, q190_17, q190_18, q190_19, as_nil, as_i, as_r, Nat.reduceAdd, Nat.reduceLeDiff, z_eq0, z_eq1, z_or, z_em, Classical.not_not, not_false_eq_true, not_true_eq_false, true_and, and_true, false_and, and_false, and_self, true_implies, false_implies, implies_true, Option.toList_some, Option.toList_none, List.cons_append, List.nil_append, Nat.add_eq_zero_iff, a_nl_i, a_nl_r, a_nl_n, true_or, or_true, eq_self, ok_4, ok_5, ok_6, ok_7, ok_9, ok_10, ok_20, ok_21, ok_24, ok_30, ok_48, ok_50, ok_60, ok_80, ok_120, ok_180, ok_192, ok_200, ok_900, ok_1000, ok_84000]
    exact hl
  · rw [if_neg c] at hP
    have hp2 := hP I hC
    clear hP hm hts hp hi hC
    rw [a_enter1 (M := a_m190) rfl (a_cat_rf (a_cat_int a_cat_nil)) (show 2 ≤ 5 by decide)]
    show a_at _ (a_xm a_m190) 0 [some (a_rf M), some (.int a), none, none, none] [] _ _
    simp only [q190_0, q190_1, q190_2, q190_5, q190_8, q190_9, m_0 hS, m_K hS, sp_hasPlace hS, as_nil, as_i, as_r, Nat.reduceAdd, Nat.reduceLeDiff, z_eq0, z_eq1, z_or, z_em, Classical.not_not, not_false_eq_true, not_true_eq_false, true_and, and_true, false_and, and_false, and_self, true_implies, false_implies, implies_true, Option.toList_some, Option.toList_none, List.cons_append, List.nil_append, Nat.add_eq_zero_iff, a_nl_i, a_nl_r, a_nl_n, true_or, or_true, eq_self, ok_4, ok_5, ok_6, ok_7, ok_9, ok_10, ok_20, ok_21, ok_24, ok_30, ok_48, ok_50, ok_60, ok_80, ok_120, ok_180, ok_192, ok_200, ok_900, ok_1000, ok_84000, e20, c]
    first
      | exact ⟨ha, hp2⟩
      | grind
end YP
end
section
/-! the class's asks are the model's -/
section YQ
variable {d n t C : Nat} {K L : Nat → Nat} {I I0 J J0 J1 J2 : Nat → Nat → Int32} {R : Nat → Nat → Nat} {P : Option Value → AH → Prop}
variable {Y : Nat → Nat → Int32}
/-- one ASK's fields -/
def alP (I Y : Nat → Nat → Int32) (i : Int32) (a : Nat) : Prop := (I a 0 = Y 8 i.toNatClampNeg ∧ I a 1 = Y 9 i.toNatClampNeg ∧ I a 2 = Y 10 i.toNatClampNeg ∧ I a 3 = Y 11 i.toNatClampNeg ∧ I a 5 = Y 7 i.toNatClampNeg) ∧ (I a 6 = Y 12 i.toNatClampNeg ∧ I a 7 = Y 13 i.toNatClampNeg ∧ I a 8 = Y 14 i.toNatClampNeg ∧ I a 9 = Y 15 i.toNatClampNeg) ∧ ((Y 7 i.toNatClampNeg = 1 ∨ Y 7 i.toNatClampNeg = 2) → I a 10 = Y 16 i.toNatClampNeg ∧ I a 11 = Y 17 i.toNatClampNeg) ∧ (I a 13 = Y 20 i.toNatClampNeg ∧ I a 14 = Y 21 i.toNatClampNeg) ∧ (I a 15 = 0 ↔ Y 18 i.toNatClampNeg = 0) ∧ (I a 16 = 0 ↔ Y 19 i.toNatClampNeg = 0)
def asP (C : Nat) (K : Nat → Nat) (I : Nat → Nat → Int32) (R : Nat → Nat → Nat) (Y : Nat → Nat → Int32) : Prop := I (C + 14) 4 = Y 0 17 ∧ akP C K I R Y ∧ mrP C I R Y ∧ ∀ i : Int32, 0 ≤ i → i < Y 0 17 → alP I Y i (R (C + 15) i.toNatClampNeg)
/-- hours lost are kept bit by bit -/
def lsP (C : Nat) (I Y : Nat → Nat → Int32) : Prop := ∀ s : Int32, 0 ≤ s → s < 200 → bcf (I (C + 3) s.toNatClampNeg) = liY Y s
theorem lq_fc {a : Nat} {i b s w : Int32} (h : alP I Y i a) (hm : I a 12 = mkY (cmY Y) (hsY Y) i) : eq9 (lq I a b s w) (fcA Y i b s w) := by
  obtain ⟨⟨h0, h1, h2, h3, h5⟩, ⟨h6, h7, h8, h9⟩, -⟩ := h
  intro j hj
  unfold lq fcA fcY
  rw [h0, h1, h2, h5, h9, hm]
  generalize mkY (cmY Y) (hsY Y) i = m
  have hm2 : (if 0 < m then m else 0) = (if m < 0 then 0 else m) := by
    clear h0 h1 h2 h3 h5 h6 h7 h8 h9 hm
    grind
  rw [hm2]
  have hc : j = 0 ∨ j = 1 ∨ j = 2 ∨ j = 3 ∨ j = 4 ∨ j = 5 ∨ j = 6 ∨ j = 7 ∨ j = 8 := by omega
  rcases hc with rfl | rfl | rfl | rfl | rfl | rfl | rfl | rfl | rfl <;> simp
theorem lf_lo {g : Nat → Int32} {s0 n : Int32} (hg : ∀ s : Int32, 0 ≤ s → s < 200 → bcf (g s.toNatClampNeg) = liY Y s) (h0 : 0 ≤ s0) (h4 : n ≤ 4) (h1 : s0 + n ≤ 200) (hs : s0 ≤ 200) : ∀ (k f : Nat) (i u : Int32), 0 ≤ i → i ≤ n → n.toNatClampNeg = i.toNatClampNeg + k → k ≤ f → lf g (s0 + n) f (s0 + i) u = loI Y s0 k i u := by
  intro k
  induction k with
  | zero =>
    intro f i u q0 q1 q2 q3
    have e : i = n := cl_inj q0 (Int32.le_trans q0 q1) (by omega)
    subst e
    cases f with
    | zero => rfl
    | succ f =>
      unfold lf loI
      rw [if_neg (show ¬ (s0 + i < s0 + i ∧ s0 + i < 200) from fun w => Int32.lt_irrefl w.1)]
  | succ k ih =>
    intro f i u q0 q1 q2 q3
    cases f with
    | zero => omega
    | succ f =>
      have w : i < n := cl_lt2 q0 (Int32.le_trans q0 q1) (by omega)
      obtain ⟨s1, s2, s3, s4⟩ := lp_st q0 w
      have c : s0 + i < s0 + n ∧ s0 + i < 200 := by
        clear ih hg s1 s4 q2 q3
        grind
      have c0 : 0 ≤ s0 + i := by
        clear ih hg s1 s4 q2 q3 c
        grind
      unfold lf loI
      rw [if_pos c, hg _ c0 c.2, Int32.add_assoc s0 i 1]
      exact ih f (i + 1) _ s2 s3 (by omega) (by omega)
theorem lw_lo {a : Nat} {i : Int32} (hi : 0 ≤ i ∧ i < 30) (h : alP I Y i a) (hl : lsP C I Y) (hin : inP Y) (hn : 0 ≤ Y 10 i.toNatClampNeg ∧ Y 10 i.toNatClampNeg ≤ 4) : lw C I a = loY Y i := by
  obtain ⟨⟨h0, h1, h2, h3, h5⟩, -, -, ⟨h13, h14⟩, -⟩ := h
  unfold lw loY
  rw [h13, h14, h2]
  by_cases c : 0 ≤ Y 20 i.toNatClampNeg
  · rw [if_pos c, if_pos c]
    obtain ⟨⟨g1, gs, g2⟩, -⟩ := hin _ (a_lt30 hi) c
    have := lf_lo (Y := Y) (g := I (C + 3)) (s0 := Y 21 i.toNatClampNeg) (n := Y 10 i.toNatClampNeg) hl g1 hn.2 g2 gs (Y 10 i.toNatClampNeg).toNatClampNeg 200 0 0 (by decide) hn.1 (by rw [show (0 : Int32).toNatClampNeg = 0 from rfl, Nat.zero_add]) (by have := cl_le0 hn.1 hn.2; rw [show (4 : Int32).toNatClampNeg = 4 from rfl] at this; omega)
    rw [Int32.add_zero] at this
    exact this
  · rw [if_neg c, if_neg c]
theorem cf_co (hT : cT C K L I R) (hX : txP C K L I R Y) (ht : 0 ≤ Y 0 41 ∧ Y 0 41 ≤ 20) {s : Int32} (hs : 0 ≤ s ∧ s ≤ 199) : ∀ (k f : Nat) (i b : Int32) (x : Nat), 0 ≤ i → i ≤ Y 0 41 → (Y 0 41).toNatClampNeg = i.toNatClampNeg + k → k < f → -1 ≤ b → b < Y 0 41 → ((b < 0 ∧ x = 0) ∨ (0 ≤ b ∧ x = R (C + 8) b.toNatClampNeg)) → (coI Y s k i b < 0 ∧ cf C R I s f i x = 0) ∨ (0 ≤ coI Y s k i b ∧ cf C R I s f i x = R (C + 8) (coI Y s k i b).toNatClampNeg) := by
  intro k
  induction k with
  | zero =>
    intro f i b x q0 q1 q2 q3 b0 b1 hb
    have e : i = Y 0 41 := cl_inj q0 (Int32.le_trans q0 q1) (by omega)
    cases f with
    | zero => omega
    | succ f =>
      unfold cf coI
      rw [if_pos (show I (C + 7) 3 ≤ i from by rw [hX.1, e]; exact Int32.le_refl _)]
      exact hb
  | succ k ih =>
    intro f i b x q0 q1 q2 q3 b0 b1 hb
    cases f with
    | zero => omega
    | succ f =>
      have w : i < Y 0 41 := cl_lt2 q0 (Int32.le_trans q0 q1) (by omega)
      obtain ⟨s1, s2, s3, s4⟩ := lp_st q0 w
      obtain ⟨k1, k2, k3, k4, k5, k6⟩ := hX.2 i q0 w
      have k5 := k5 s hs.1 hs.2
      have ec : (¬ R (C + 8) i.toNatClampNeg = 0 ∧ I (R (C + 8) i.toNatClampNeg) 0 = 79 ∧ (I (R (C + 8) i.toNatClampNeg) 1 ≤ s ∧ s < I (R (C + 8) i.toNatClampNeg) 3) ∧ (x = 0 ∨ I x 1 ≤ I (R (C + 8) i.toNatClampNeg) 1)) ↔ ((wtY Y i.toNatClampNeg 0 = 79 ∧ Y 30 i.toNatClampNeg ≤ s ∧ s < Y 31 i.toNatClampNeg) ∧ (b < 0 ∨ Y 30 b.toNatClampNeg ≤ Y 30 i.toNatClampNeg)) := by
        rw [k3, k4, k5]
        rcases hb with ⟨r1, r2⟩ | ⟨r1, r2⟩
        · simp [k2, r1, r2, and_assoc]
        · obtain ⟨l1, l2, l3, l4, -⟩ := hX.2 b r1 b1
          rw [r2, l4]
          simp [k2, l2, Int32.not_lt.mpr r1, and_assoc]
      unfold cf coI
      rw [if_neg (show ¬ I (C + 7) 3 ≤ i from by rw [hX.1]; exact Int32.not_le.mpr w)]
      by_cases c : (wtY Y i.toNatClampNeg 0 = 79 ∧ Y 30 i.toNatClampNeg ≤ s ∧ s < Y 31 i.toNatClampNeg) ∧ (b < 0 ∨ Y 30 b.toNatClampNeg ≤ Y 30 i.toNatClampNeg)
      · rw [if_pos c, if_pos (ec.mpr c)]
        exact ih f (i + 1) i _ s2 s3 (by omega) (by omega) (Int32.le_trans (by decide) q0) w (Or.inr ⟨q0, rfl⟩)
      · rw [if_neg c, if_neg (fun q => c (ec.mp q))]
        exact ih f (i + 1) b x s2 s3 (by omega) (by omega) b0 b1 hb
theorem hw_oh (hT : cT C K L I R) (hX : txP C K L I R Y) (ht : 0 ≤ Y 0 41 ∧ Y 0 41 ≤ 20) {a : Nat} {i : Int32} (hi : 0 ≤ i ∧ i < 30) (h : alP I Y i a) (hm : I a 12 = mkY (cmY Y) (hsY Y) i) (hl : lsP C I Y) (hin : inP Y) (hn : 1 ≤ Y 10 i.toNatClampNeg ∧ Y 10 i.toNatClampNeg ≤ 4) : hw C L R I a = ohY Y i := by
  have hn0 : 0 ≤ Y 10 i.toNatClampNeg ∧ Y 10 i.toNatClampNeg ≤ 4 := ⟨Int32.le_trans (by decide) hn.1, hn.2⟩
  have e1 := lw_lo hi h hl hin hn0
  have e2 := fun w => lq_fc (I := I) (b := Y 20 i.toNatClampNeg) (s := Y 21 i.toNatClampNeg) (w := w) h hm
  obtain ⟨⟨h0, h1, h2, h3, h5⟩, -, -, ⟨h13, h14⟩, -⟩ := h
  unfold hw ohY
  rw [h13, e1]
  by_cases c : 0 ≤ Y 20 i.toNatClampNeg
  · rw [if_pos c, if_pos c]
    obtain ⟨⟨g1, gs, g2⟩, -⟩ := hin _ (a_lt30 hi) c
    have gs : 0 ≤ Y 21 i.toNatClampNeg ∧ Y 21 i.toNatClampNeg ≤ 199 := by
      clear hT hX hl hin e1 e2 hm h0 h1 h2 h3 h5 h13 h14
      grind
    have gk := cl_le0 ht.1 ht.2
    rw [show (20 : Int32).toNatClampNeg = 20 from rfl] at gk
    have hc := cf_co hT hX ht gs (Y 0 41).toNatClampNeg 30 0 (-1) 0 (by decide) ht.1 (by rw [show (0 : Int32).toNatClampNeg = 0 from rfl, Nat.zero_add]) (by omega) (by decide) (by clear hT hX hl hin e1 e2; grind) (Or.inl ⟨by decide, rfl⟩)
    unfold owY
    rw [← h14] at hc
    rcases hc with ⟨r1, r2⟩ | ⟨r1, r2⟩
    · rw [ow_zero r2, if_pos (by rw [← h14]; exact r1)]
    · have r1' : 0 ≤ coY Y (I a 14) := r1
      have hx := hX.2 _ r1' (coY_lo ht).2
      obtain ⟨k1, k2, k3, k4, k5, k6⟩ := hx
      rw [ow_pos (by rw [r2]; exact k2), r2]
      rw [show coI Y (I a 14) (Y 0 41).toNatClampNeg 0 (-1) = coY Y (I a 14) from rfl, k6, h13, h14, h2]
      rw [h14] at r1'
      rw [if_neg (Int32.not_lt.mpr r1')]
      have ev : wvY Y (coY Y (Y 21 i.toNatClampNeg)).toNatClampNeg (lq I a (Y 20 i.toNatClampNeg) (Y 21 i.toNatClampNeg) (loY Y i)) = wvY Y (coY Y (Y 21 i.toNatClampNeg)).toNatClampNeg (fcA Y i (Y 20 i.toNatClampNeg) (Y 21 i.toNatClampNeg) (loY Y i)) := xT_q _ _ (e2 _)
      rw [ev]
      unfold owC
      generalize wvY Y (coY Y (Y 21 i.toNatClampNeg)).toNatClampNeg (fcA Y i (Y 20 i.toNatClampNeg) (Y 21 i.toNatClampNeg) (loY Y i)) = v
      clear hT hX hl hin e1 e2 ev k6 k5
      grind
  · rw [if_neg c, if_neg c]
end YQ
end
section
/-! hosts as bits -/
/-- the least free ones -/
def sdI (f : Int32) : Nat → Int32 → Int32 → Int32 → Int32
  | 0, _, p, _ => p
  | k + 1, h, p, m => if 0 < m then (if (f >>> (h &&& 31)) &&& 1 = 1 then sdI f k (h + 1) (p ||| (1 <<< (h &&& 31))) (m - 1) else sdI f k (h + 1) p m) else p
/-- who stands: the least, or the two least -/
def sfB (f m : Int32) : Int32 := sdI f 8 0 0 m
section YR
variable {d n t M : Nat} {K L : Nat → Nat} {I I0 J J0 J1 J2 : Nat → Nat → Int32} {R : Nat → Nat → Nat} {P : Option Value → AH → Prop} {f : Nat → Int32} {e : Int32}
theorem nn255 (z : Int32) : 0 ≤ z &&& 255 ∧ z &&& 255 ≤ 255 := by
  have h : (z &&& 255).toBitVec.toNat ≤ 255 := by
    rw [Int32.toBitVec_and, BitVec.toNat_and]
    exact Nat.and_le_right
  have h2 : (z &&& 255).toInt = ((z &&& 255).toBitVec.toNat : Int) := BitVec.toInt_eq_toNat_of_lt (by omega)
  have c0 : (0 : Int32).toInt = 0 := rfl
  have c255 : (255 : Int32).toInt = 255 := rfl
  exact ⟨by rw [Int32.le_iff_toInt_le, h2, c0]; omega, by rw [Int32.le_iff_toInt_le, h2, c255]; omega⟩
theorem fin256 {x : Int32} (h : 0 ≤ x ∧ x ≤ 255) : ∃ k : Fin 256, x = Int32.ofNat k.val := by
  have a := Int32.le_iff_toInt_le.mp h.1
  have b := Int32.le_iff_toInt_le.mp h.2
  have c0 : (0 : Int32).toInt = 0 := rfl
  have c255 : (255 : Int32).toInt = 255 := rfl
  have e : x.toNatClampNeg = x.toInt.toNat := rfl
  exact ⟨⟨x.toNatClampNeg, by omega⟩, on_cl h.1⟩
theorem and_255 {x : Int32} (h : 0 ≤ x ∧ x ≤ 255) : x &&& 255 = x := by
  obtain ⟨k, rfl⟩ := fin256 h
  have key : ∀ k : Fin 256, Int32.ofNat k.val &&& 255 = Int32.ofNat k.val := by decide +kernel
  exact key k
theorem and_8 {x y : Int32} (h : 0 ≤ x ∧ x ≤ 255) : 0 ≤ x &&& y ∧ x &&& y ≤ 255 := by
  have e : x &&& y = (x &&& y) &&& 255 := by
    conv => lhs; rw [← and_255 h]
    rw [Int32.and_assoc, Int32.and_assoc, Int32.and_comm 255 y]
  rw [e]
  exact nn255 _
theorem sf_1 {f : Int32} (h : 0 ≤ f ∧ f ≤ 255) : sfB f 1 = f &&& -f := by
  obtain ⟨k, rfl⟩ := fin256 h
  have key : ∀ k : Fin 256, sfB (Int32.ofNat k.val) 1 = Int32.ofNat k.val &&& -(Int32.ofNat k.val) := by decide +kernel
  exact key k
theorem sf_2 {f : Int32} (h : 0 ≤ f ∧ f ≤ 255) : sfB f 2 = (f &&& -f) ||| ((f &&& ((f &&& -f) ^^^ -1)) &&& -(f &&& ((f &&& -f) ^^^ -1))) := by
  obtain ⟨k, rfl⟩ := fin256 h
  have key : ∀ k : Fin 256, sfB (Int32.ofNat k.val) 2 = (Int32.ofNat k.val &&& -(Int32.ofNat k.val)) ||| ((Int32.ofNat k.val &&& ((Int32.ofNat k.val &&& -(Int32.ofNat k.val)) ^^^ -1)) &&& -(Int32.ofNat k.val &&& ((Int32.ofNat k.val &&& -(Int32.ofNat k.val)) ^^^ -1))) := by decide +kernel
  exact key k
theorem bc_st : ∀ k : Fin 256, 0 < k.val → bcf (Int32.ofNat k.val) = (Int32.ofNat k.val - Int32.ofNat (k.val / 2) * 2) + bcf (Int32.ofNat (k.val / 2)) ∧ Int32.ofNat k.val / 2 = Int32.ofNat (k.val / 2) ∧ ¬ Int32.ofNat k.val ≤ 0 := by decide +kernel
theorem xt_ones_4 {v V : Int32} {h : AH} (hP : P (some (.int V)) h) : ∀ (b : Nat) (q : Int32), b < 256 → q + bcf (Int32.ofNat b) = V → a_at d (a_xm a_m226) 4 [some (.int v), some (.int q), some (.int (Int32.ofNat b))] [] h P := by
  intro b
  induction b using Nat.strongRecOn with
  | ind b ih =>
    intro q hb hV
    rw [q226_4]
    by_cases c : b = 0
    · subst c
      have hq : q = V := by
        rw [← hV, show bcf (Int32.ofNat 0) = 0 from rfl, Int32.add_zero]
      have c0 : Int32.ofNat 0 ≤ 0 := by decide
      subst hq
      clear ih hV
      simp only [q226_5, q226_21, q226_22, as_nil, as_i, as_r, Nat.reduceAdd, Nat.reduceLeDiff, z_eq0, z_eq1, z_or, z_em, Classical.not_not, not_false_eq_true, not_true_eq_false, true_and, and_true, false_and, and_false, and_self, true_implies, false_implies, implies_true, Option.toList_some, Option.toList_none, List.cons_append, List.nil_append, Nat.add_eq_zero_iff, a_nl_i, a_nl_r, a_nl_n, true_or, or_true, eq_self, ok_4, ok_5, ok_6, ok_7, ok_9, ok_10, ok_20, ok_21, ok_24, ok_30, ok_48, ok_50, ok_60, ok_80, ok_120, ok_180, ok_192, ok_200, ok_900, ok_1000, ok_84000, c0]
      first
        | exact hP
        | exact ⟨fun _ => hP, fun w => absurd c0 w⟩
        | grind
    · obtain ⟨s1, s2, s3⟩ := bc_st ⟨b, hb⟩ (Nat.pos_of_ne_zero c)
      have s1 : bcf (Int32.ofNat b) = (Int32.ofNat b - Int32.ofNat (b / 2) * 2) + bcf (Int32.ofNat (b / 2)) := s1
      have s2 : Int32.ofNat b / 2 = Int32.ofNat (b / 2) := s2
      have s3 : ¬ Int32.ofNat b ≤ 0 := s3
      have hg := ih (b / 2) (by omega) (q + (Int32.ofNat b - Int32.ofNat (b / 2) * 2)) (by omega) (by rw [← hV, s1, Int32.add_assoc])
      clear ih hV hP
      simp only [q226_5, q226_8, q226_9, q226_10, q226_11, q226_12, q226_13, q226_14, q226_15, q226_16, q226_17, q226_18, as_nil, as_i, as_r, Nat.reduceAdd, Nat.reduceLeDiff, z_eq0, z_eq1, z_or, z_em, Classical.not_not, not_false_eq_true, not_true_eq_false, true_and, and_true, false_and, and_false, and_self, true_implies, false_implies, implies_true, Option.toList_some, Option.toList_none, List.cons_append, List.nil_append, Nat.add_eq_zero_iff, a_nl_i, a_nl_r, a_nl_n, true_or, or_true, eq_self, ok_4, ok_5, ok_6, ok_7, ok_9, ok_10, ok_20, ok_21, ok_24, ok_30, ok_48, ok_50, ok_60, ok_80, ok_120, ok_180, ok_192, ok_200, ok_900, ok_1000, ok_84000, s2, s3]
      first
        | exact hg
        | exact ⟨fun w => absurd w s3, fun _ => hg⟩
        | grind
theorem xt_ones {v : Int32} {h : AH} (hv : 0 ≤ v ∧ v ≤ 255) (hP : P (some (.int (bcf v))) h) : a_does (d + 1) 226 [.int v] h P := by
  obtain ⟨⟨b, hb⟩, e⟩ := fin256 hv
  have e : v = Int32.ofNat b := e
  have hl := xt_ones_4 (d := d) (v := v) (V := bcf v) (h := h) (P := P) hP b 0 hb (by rw [Int32.zero_add, e])
  rw [← e] at hl
  rw [a_enter1 (M := a_m226) rfl (a_cat_int a_cat_nil) (show 1 ≤ 3 by decide)]
  show a_at _ (a_xm a_m226) 0 [some (.int v), none, none] [] _ _
  simp only [q226_0, q226_1, q226_2, q226_3, as_nil, as_i, as_r, Nat.reduceAdd, Nat.reduceLeDiff, z_eq0, z_eq1, z_or, z_em, Classical.not_not, not_false_eq_true, not_true_eq_false, true_and, and_true, false_and, and_false, and_self, true_implies, false_implies, implies_true, Option.toList_some, Option.toList_none, List.cons_append, List.nil_append, Nat.add_eq_zero_iff, a_nl_i, a_nl_r, a_nl_n, true_or, or_true, eq_self, ok_4, ok_5, ok_6, ok_7, ok_9, ok_10, ok_20, ok_21, ok_24, ok_30, ok_48, ok_50, ok_60, ok_80, ok_120, ok_180, ok_192, ok_200, ok_900, ok_1000, ok_84000]
  exact hl
theorem xt_standFor_32 {a b s f : Int32} {h : AH} {V : Int32} (hP : P (some (.int V)) h) : ∀ i : Int32, i ≤ 8 → ∀ m p, 0 ≤ i → 0 ≤ m → m ≤ 2 → sdI f ((8 : Int32).toNatClampNeg - i.toNatClampNeg) i p m = V → a_at (d + 1) (a_xm a_m232) 32 [some (a_rf M), some (.int a), some (.int b), some (.int s), some (.int f), some (.int m), some (.int p), some (.int i)] [] h P := by
  refine up_ind 8 (fun i i8 ih => ?_)
  intro m p h0 m0 m2 hV
  have hexit : ¬ i < 8 → P (some (.int p)) h := fun w => by
    rw [(lp_end i8 w).1] at hV
    rw [show p = V from hV]
    exact hP
  have hV2 : i < 8 → (if 0 < m then (if (f >>> (i &&& 31)) &&& 1 = 1 then sdI f ((8 : Int32).toNatClampNeg - (i + 1).toNatClampNeg) (i + 1) (p ||| (1 <<< (i &&& 31))) (m - 1) else sdI f ((8 : Int32).toNatClampNeg - (i + 1).toNatClampNeg) (i + 1) p m) else p) = V := fun w => by
    rw [(lp_st h0 w).1] at hV
    exact hV
  have h0' : i < 8 → ¬ 0 < m → P (some (.int p)) h := fun w w2 => by
    have hV := hV2 w
    rw [if_neg w2] at hV
    rw [hV]
    exact hP
  have h1' : i < 8 → 0 < m → (f >>> (i &&& 31)) &&& 1 = 1 → ∀ m2 p2, m2 = m - 1 → p2 = (p ||| (1 <<< (i &&& 31))) → a_at (d + 1) (a_xm a_m232) 32 [some (a_rf M), some (.int a), some (.int b), some (.int s), some (.int f), some (.int m2), some (.int p2), some (.int (i + 1))] [] h P := fun w w2 w3 m2' p2' em ep => by
    have hV := hV2 w
    rw [if_pos w2, if_pos w3] at hV
    obtain ⟨s1, s2, s3, s4⟩ := lp_st h0 w
    rw [em, ep]
    exact ih w _ _ s2 (by clear ih hV hV2 hP h0' hexit em; grind) (by clear ih hV hV2 hP h0' hexit em; grind) hV
  have h2' : i < 8 → 0 < m → ¬ (f >>> (i &&& 31)) &&& 1 = 1 → a_at (d + 1) (a_xm a_m232) 32 [some (a_rf M), some (.int a), some (.int b), some (.int s), some (.int f), some (.int m), some (.int p), some (.int (i + 1))] [] h P := fun w w2 w3 => by
    have hV := hV2 w
    rw [if_pos w2, if_neg w3] at hV
    obtain ⟨s1, s2, s3, s4⟩ := lp_st h0 w
    exact ih w _ _ s2 m0 m2 hV
  clear ih hV hV2 hP
  rw [q232_32]
  repeat' first
    | with_reducible apply And.intro
    | with_reducible assumption
    | with_reducible intro _
    | with_reducible exact hexit (Int32.not_lt.mpr (by assumption))
    | with_reducible exact h0' (Int32.not_le.mp (by assumption)) (Int32.not_lt.mpr (by assumption))
    | with_reducible refine h1' (Int32.not_le.mp (by assumption)) (Int32.not_le.mp (by assumption)) (by assumption) _ _ ?_ ?_
    | with_reducible exact h2' (Int32.not_le.mp (by assumption)) (Int32.not_le.mp (by assumption)) (by assumption)
    | simp only [q232_34, q232_36, q232_39, q232_41, q232_44, q232_46, q232_48, q232_49, q232_50, q232_51, q232_52, q232_55, q232_57, q232_58, q232_60, q232_61, q232_62, q232_64, q232_67, q232_70, q232_73, q232_75, as_nil, as_i, as_r, Nat.reduceAdd, Nat.reduceLeDiff, z_eq0, z_eq1, z_or, z_em, Classical.not_not, not_false_eq_true, not_true_eq_false, true_and, and_true, false_and, and_false, and_self, true_implies, false_implies, implies_true, Option.toList_some, Option.toList_none, List.cons_append, List.nil_append, Nat.add_eq_zero_iff, a_nl_i, a_nl_r, a_nl_n, true_or, or_true, eq_self, ok_4, ok_5, ok_6, ok_7, ok_9, ok_10, ok_20, ok_21, ok_24, ok_30, ok_48, ok_50, ok_60, ok_80, ok_120, ok_180, ok_192, ok_200, ok_900, ok_1000, ok_84000]
  all_goals ((try clear hexit); (try clear h0'); (try clear h1'); (try clear h2'); grind [ui_ap])
end YR
end
section
/-! what bars -/
/-- bars that hang on the ASK, the bench, the SHIFT alone -/
def fxY (Y : Nat → Nat → Int32) (a b s : Int32) : Int32 := if (Y 12 a.toNatClampNeg >>> (b &&& 31)) &&& 1 = 0 then 1 else if (Y 5 b.toNatClampNeg >>> (Y 11 a.toNatClampNeg &&& 31)) &&& 1 = 0 then 2 else if 199 < s ∨ 8 * s < Y 0 0 then 3 else if Y 1 s.toNatClampNeg = 4 ∨ liY Y s = 8 then 4 else if (Y 13 a.toNatClampNeg >>> (Y 1 s.toNatClampNeg &&& 31)) &&& 1 = 0 then 5 else 0
/-- an ASK holds a bench in a SHIFT; another one with the same GEAR holds some bench -/
def hoY (Y : Nat → Nat → Int32) (o b s : Int32) : Prop := 0 ≤ Y 20 o.toNatClampNeg ∧ Y 20 o.toNatClampNeg = b ∧ Y 21 o.toNatClampNeg ≤ s ∧ s < Y 21 o.toNatClampNeg + Y 10 o.toNatClampNeg
def geY (Y : Nat → Nat → Int32) (a o s : Int32) : Prop := ¬ o = a ∧ 0 ≤ Y 20 o.toNatClampNeg ∧ Y 14 o.toNatClampNeg = Y 14 a.toNatClampNeg ∧ 0 ≤ Y 14 a.toNatClampNeg ∧ Y 21 o.toNatClampNeg ≤ s ∧ s < Y 21 o.toNatClampNeg + Y 10 o.toNatClampNeg
/-- what others have: 6, 7 or 0 -/
def hgI (Y : Nat → Nat → Int32) (a b s : Int32) : Nat → Int32 → Int32 → Int32
  | 0, _, g => if g = 0 then 0 else 7
  | k + 1, o, g => if ¬ o = a ∧ (0 ≤ Y 20 o.toNatClampNeg ∧ Y 20 o.toNatClampNeg = b ∧ Y 21 o.toNatClampNeg ≤ s ∧ s < Y 21 o.toNatClampNeg + Y 10 o.toNatClampNeg) then 6 else hgI Y a b s k (o + 1) (if ¬ g = 0 ∨ (¬ o = a ∧ 0 ≤ Y 20 o.toNatClampNeg ∧ Y 14 o.toNatClampNeg = Y 14 a.toNatClampNeg ∧ 0 ≤ Y 14 a.toNatClampNeg ∧ Y 21 o.toNatClampNeg ≤ s ∧ s < Y 21 o.toNatClampNeg + Y 10 o.toNatClampNeg) then 1 else 0)
/-- the least text of a letter that holds at a place -/
def wtA (Y : Nat → Nat → Int32) (g a b s : Int32) : Int32 := hgY Y g s (fcA Y a b s 0) (Y 0 41).toNatClampNeg 0
def lkH (Y : Nat → Nat → Int32) (a b s : Int32) : Prop := bcf (fhY Y a b s) < (if 0 ≤ wtA Y 87 a b s then 2 else 1)
def tnY (Y : Nat → Nat → Int32) (a f : Int32) : Prop := Y 7 a.toNatClampNeg = 1 ∧ (¬ 0 ≤ Y 20 (Y 16 a.toNatClampNeg).toNatClampNeg ∨ f - (Y 21 (Y 16 a.toNatClampNeg).toNatClampNeg + Y 10 (Y 16 a.toNatClampNeg).toNatClampNeg - 1) - 1 < Y 17 a.toNatClampNeg)
def bdY (Y : Nat → Nat → Int32) (a s : Int32) : Prop := Y 7 a.toNatClampNeg = 2 ∧ ¬ (Y 16 a.toNatClampNeg ≤ s ∧ s ≤ Y 17 a.toNatClampNeg)
def brY (Y : Nat → Nat → Int32) (a b s f : Int32) : Int32 := if ¬ fxY Y a b s = 0 then fxY Y a b s else if ¬ hgI Y a b s (Y 0 17).toNatClampNeg 0 0 = 0 then hgI Y a b s (Y 0 17).toNatClampNeg 0 0 else if 0 ≤ wtA Y 66 a b s then 8 else if bcf (fhY Y a b s) < (if 0 ≤ wtA Y 87 a b s then 2 else 1) then 9 else if Y 7 a.toNatClampNeg = 1 ∧ (¬ 0 ≤ Y 20 (Y 16 a.toNatClampNeg).toNatClampNeg ∨ f - (Y 21 (Y 16 a.toNatClampNeg).toNatClampNeg + Y 10 (Y 16 a.toNatClampNeg).toNatClampNeg - 1) - 1 < Y 17 a.toNatClampNeg) then 10 else if Y 7 a.toNatClampNeg = 2 ∧ ¬ (Y 16 a.toNatClampNeg ≤ s ∧ s ≤ Y 17 a.toNatClampNeg) then 11 else 0
/-- FIT -/
def ftI (Y : Nat → Nat → Int32) (a b f : Int32) : Nat → Int32 → Int32
  | 0, _ => 0
  | k + 1, i => if 0 < brY Y a b (f + i) f then brY Y a b (f + i) f else ftI Y a b f k (i + 1)
def ftY (Y : Nat → Nat → Int32) (a b f : Int32) : Int32 := ftI Y a b f (Y 10 a.toNatClampNeg).toNatClampNeg 0
/-- what holds of the model at all times -/
def hbP (Y : Nat → Nat → Int32) : Prop := ∀ b, 0 ≤ Y 6 b ∧ Y 6 b ≤ 255
section YS
variable {d n t M : Nat} {K L : Nat → Nat} {I I0 J J0 J1 J2 : Nat → Nat → Int32} {R : Nat → Nat → Nat} {P : Option Value → AH → Prop} {f : Nat → Int32} {e : Int32}
def moP (M : Nat) (I : Nat → Nat → Int32) : Prop := mR M I ∧ mkP (yv M I) ∧ tsY (yv M I) ∧ tpP M I ∧ inP (yv M I) ∧ hbP (yv M I)
theorem moP_C (h : moP M I0) (hC : mC M I0 I) : moP M I := by
  obtain ⟨h1, h2, h3, h4, h5, h6⟩ := h
  have e : ∀ k j, ¬ (k = 32 ∨ k = 33 ∨ k = 34 ∨ k = 0) → (yv M I) k j = (yv M I0) k j := fun k j q => hC.2 _ _ (by unfold sC; omega)
  have e41 : (yv M I) 0 41 = (yv M I0) 0 41 := hC.2 _ _ (by unfold sC; omega)
  have e2 : I M 2 = I0 M 2 := hC.2 _ _ (by unfold sC; omega)
  refine ⟨hC.1, mkP_C h2 hC, fun x hx => ?_, fun j hj => ?_, fun j hj => ?_, fun b => ?_⟩
  · rw [e41] at hx
    have ew : wtY (yv M I) x = wtY (yv M I0) x := funext (fun j => e _ _ (by omega))
    rw [ew, e 29 x (by omega)]
    exact h3 x hx
  · rw [e2] at hj
    have e3 : I (M + 2) j = I0 (M + 2) j := hC.2 _ _ (by unfold sC; omega)
    have e4 : I (M + 3) j = I0 (M + 3) j := hC.2 _ _ (by unfold sC; omega)
    rw [e3, e4]
    exact h4 j hj
  · rw [e 20 j (by omega), e 21 j (by omega), e 10 j (by omega)]
    exact h5 j hj
  · rw [e 6 b (by omega)]
    exact h6 b
theorem fhY_8 {Y : Nat → Nat → Int32} (h : hbP Y) {a b s : Int32} : 0 ≤ fhY Y a b s ∧ fhY Y a b s ≤ 255 := and_8 (h _)
theorem xt_freeHostsC (hS : m_S M K L R) (hC : mC M I0 I) {a b s : Int32} (hb : 0 ≤ b ∧ b ≤ 5) (hP : P (some (.int (fhY (yv M I0) a b s))) (n, t, K, L, I, R)) : a_does (d + 2) 225 [a_rf M, .int a, .int b, .int s] (n, t, K, L, I, R) P := by
  refine xt_freeHosts hS hC.1 hb ?_
  have hb' := mC_sb hC
  have g17 : 0 ≤ (yv M I) 0 17 ∧ (yv M I) 0 17 ≤ 30 := rg_asks hC.1
  have g10 : ∀ j, 0 ≤ (yv M I) 10 j ∧ (yv M I) 10 j ≤ 4 := rg_length hC.1
  rw [hb' 0 17 (by unfold sb; omega)] at g17
  rw [sbE_r hb' (k := 10) (by omega)] at g10
  have e : fhY (yv M I) a b s = fhY (yv M I0) a b s := fhY_c g17 g10 (sbE_r hb' (by omega)) (hb' 0 17 (by unfold sb; omega)) (hb' 0 9 (by unfold sb; omega)) (fun o _ _ _ => ⟨by rw [mC_row hC (k := 20) (by omega)], by rw [mC_row hC (k := 21) (by omega)], by rw [sbE_r hb' (k := 10) (by omega)], fun _ i _ _ => by rw [mC_row hC (k := 22) (by omega)]⟩)
  rw [e]
  exact hP
theorem xt_isWatched (hS : m_S M K L R) (hm : moP M I0) (hC : mC M I0 I) {a b s : Int32} (ha : 0 ≤ a ∧ a < 30) (hP : ∀ J, mC M I0 J → P (some (.int (if 0 ≤ wtA (yv M I0) 87 a b s then 1 else 0))) (n, t, K, L, J, R)) : a_does (d + 8) 227 [a_rf M, .int a, .int b, .int s] (n, t, K, L, I, R) P := by
  rw [a_enter1 (M := a_m227) rfl (a_cat_rf (a_cat_int (a_cat_int (a_cat_int a_cat_nil)))) (show 4 ≤ 4 by decide)]
  show a_at _ (a_xm a_m227) 0 [some (a_rf M), some (.int a), some (.int b), some (.int s)] [] _ _
  simp only [q227_0, q227_1, q227_3, q227_4, q227_5, q227_6, m_0 hS, m_K hS, as_nil, as_i, as_r, Nat.reduceAdd, Nat.reduceLeDiff, z_eq0, z_eq1, z_or, z_em, Classical.not_not, not_false_eq_true, not_true_eq_false, true_and, and_true, false_and, and_false, and_self, true_implies, false_implies, implies_true, Option.toList_some, Option.toList_none, List.cons_append, List.nil_append, Nat.add_eq_zero_iff, a_nl_i, a_nl_r, a_nl_n, true_or, or_true, eq_self, ok_4, ok_5, ok_6, ok_7, ok_9, ok_10, ok_20, ok_21, ok_24, ok_30, ok_48, ok_50, ok_60, ok_80, ok_120, ok_180, ok_192, ok_200, ok_900, ok_1000, ok_84000]
  refine xt_holding (d := d) hS hC hm.2.1 hm.2.2.1 (g := 87) (by decide) ha (fun J c => ?_)
  have hp := hP J c
  rw [show hgY (yv M I0) 87 s (fcY (yv M I0) a.toNatClampNeg (mkY (cmY (yv M I0)) (hsY (yv M I0)) a) b s 0) ((yv M I0) 0 41).toNatClampNeg 0 = wtA (yv M I0) 87 a b s from rfl]
  generalize wtA (yv M I0) 87 a b s = v at hp ⊢
  clear hP hC c hm
  simp only [q227_9, q227_12, q227_13, q227_16, q227_17, as_nil, as_i, as_r, Nat.reduceAdd, Nat.reduceLeDiff, z_eq0, z_eq1, z_or, z_em, Classical.not_not, not_false_eq_true, not_true_eq_false, true_and, and_true, false_and, and_false, and_self, true_implies, false_implies, implies_true, Option.toList_some, Option.toList_none, List.cons_append, List.nil_append, Nat.add_eq_zero_iff, a_nl_i, a_nl_r, a_nl_n, true_or, or_true, eq_self, ok_4, ok_5, ok_6, ok_7, ok_9, ok_10, ok_20, ok_21, ok_24, ok_30, ok_48, ok_50, ok_60, ok_80, ok_120, ok_180, ok_192, ok_200, ok_900, ok_1000, ok_84000]
  grind
theorem xt_standFor (hS : m_S M K L R) (hm : moP M I0) (hC : mC M I0 I) {a b s : Int32} (ha : 0 ≤ a ∧ a < 30) (hb : 0 ≤ b ∧ b ≤ 5) (hP : ∀ J, mC M I0 J → P (some (.int (sfB (fhY (yv M I0) a b s) (if 0 ≤ wtA (yv M I0) 87 a b s then 2 else 1)))) (n, t, K, L, J, R)) : a_does (d + 9) 232 [a_rf M, .int a, .int b, .int s] (n, t, K, L, I, R) P := by
  rw [a_enter1 (M := a_m232) rfl (a_cat_rf (a_cat_int (a_cat_int (a_cat_int a_cat_nil)))) (show 4 ≤ 8 by decide)]
  show a_at _ (a_xm a_m232) 0 [some (a_rf M), some (.int a), some (.int b), some (.int s), none, none, none, none] [] _ _
  simp only [q232_0, q232_1, q232_2, q232_3, q232_4, m_0 hS, m_K hS, as_nil, as_i, as_r, Nat.reduceAdd, Nat.reduceLeDiff, z_eq0, z_eq1, z_or, z_em, Classical.not_not, not_false_eq_true, not_true_eq_false, true_and, and_true, false_and, and_false, and_self, true_implies, false_implies, implies_true, Option.toList_some, Option.toList_none, List.cons_append, List.nil_append, Nat.add_eq_zero_iff, a_nl_i, a_nl_r, a_nl_n, true_or, or_true, eq_self, ok_4, ok_5, ok_6, ok_7, ok_9, ok_10, ok_20, ok_21, ok_24, ok_30, ok_48, ok_50, ok_60, ok_80, ok_120, ok_180, ok_192, ok_200, ok_900, ok_1000, ok_84000]
  refine xt_freeHostsC (d := d + 6) hS hC hb ?_
  simp only [q232_7, q232_9, q232_10, q232_11, q232_12, q232_13, m_0 hS, m_K hS, as_nil, as_i, as_r, Nat.reduceAdd, Nat.reduceLeDiff, z_eq0, z_eq1, z_or, z_em, Classical.not_not, not_false_eq_true, not_true_eq_false, true_and, and_true, false_and, and_false, and_self, true_implies, false_implies, implies_true, Option.toList_some, Option.toList_none, List.cons_append, List.nil_append, Nat.add_eq_zero_iff, a_nl_i, a_nl_r, a_nl_n, true_or, or_true, eq_self, ok_4, ok_5, ok_6, ok_7, ok_9, ok_10, ok_20, ok_21, ok_24, ok_30, ok_48, ok_50, ok_60, ok_80, ok_120, ok_180, ok_192, ok_200, ok_900, ok_1000, ok_84000]
  refine xt_isWatched (d := d) hS hm hC ha (fun J c => ?_)
  have hp := hP J c
  generalize fhY (yv M I0) a b s = f at hp ⊢
  by_cases w : 0 ≤ wtA (yv M I0) 87 a b s
  · rw [if_pos w] at hp ⊢
    have hl := xt_standFor_32 (d := d + 7) (M := M) (a := a) (b := b) (s := s) (f := f) (P := P) hp 0 (by decide) 2 0 (by decide) (by decide) (by decide) (by rw [lp_0]; rfl)
    clear hP hC c hm hp
    have n10 : ¬ (1 : Int32) = 0 := by decide
    simp only [q232_16, q232_19, q232_20, q232_23, q232_24, q232_26, q232_27, q232_29, q232_30, as_nil, as_i, as_r, Nat.reduceAdd, Nat.reduceLeDiff, z_eq0, z_eq1, z_or, z_em, Classical.not_not, not_false_eq_true, not_true_eq_false, true_and, and_true, false_and, and_false, and_self, true_implies, false_implies, implies_true, Option.toList_some, Option.toList_none, List.cons_append, List.nil_append, Nat.add_eq_zero_iff, a_nl_i, a_nl_r, a_nl_n, true_or, or_true, eq_self, ok_4, ok_5, ok_6, ok_7, ok_9, ok_10, ok_20, ok_21, ok_24, ok_30, ok_48, ok_50, ok_60, ok_80, ok_120, ok_180, ok_192, ok_200, ok_900, ok_1000, ok_84000, n10]
    first
      | exact hl
      | grind
  · rw [if_neg w] at hp ⊢
    have hl := xt_standFor_32 (d := d + 7) (M := M) (a := a) (b := b) (s := s) (f := f) (P := P) hp 0 (by decide) 1 0 (by decide) (by decide) (by decide) (by rw [lp_0]; rfl)
    clear hP hC c hm hp
    simp only [q232_16, q232_19, q232_20, q232_23, q232_24, q232_26, q232_27, q232_29, q232_30, as_nil, as_i, as_r, Nat.reduceAdd, Nat.reduceLeDiff, z_eq0, z_eq1, z_or, z_em, Classical.not_not, not_false_eq_true, not_true_eq_false, true_and, and_true, false_and, and_false, and_self, true_implies, false_implies, implies_true, Option.toList_some, Option.toList_none, List.cons_append, List.nil_append, Nat.add_eq_zero_iff, a_nl_i, a_nl_r, a_nl_n, true_or, or_true, eq_self, ok_4, ok_5, ok_6, ok_7, ok_9, ok_10, ok_20, ok_21, ok_24, ok_30, ok_48, ok_50, ok_60, ok_80, ok_120, ok_180, ok_192, ok_200, ok_900, ok_1000, ok_84000]
    first
      | exact hl
      | grind
theorem xt_isTooNear (hS : m_S M K L R) (hC : mC M I0 I) {a f : Int32} (ha : 0 ≤ a ∧ a < 30) (h0 : ¬ tnY (yv M I0) a f → P (some (.int 0)) (n, t, K, L, I, R)) (h1 : tnY (yv M I0) a f → P (some (.int 1)) (n, t, K, L, I, R)) : a_does (d + 2) 228 [a_rf M, .int a, .int f] (n, t, K, L, I, R) P := by
  have gx := rg_tied hC.1 a.toNatClampNeg
  have e7 : I (M + 7) a.toNatClampNeg = (yv M I0) 7 a.toNatClampNeg := hC.2 _ _ (by unfold sC; omega)
  have e16 : I (M + 16) a.toNatClampNeg = (yv M I0) 16 a.toNatClampNeg := hC.2 _ _ (by unfold sC; omega)
  have e17 : I (M + 17) a.toNatClampNeg = (yv M I0) 17 a.toNatClampNeg := hC.2 _ _ (by unfold sC; omega)
  have e20 : I (M + 20) ((yv M I0) 16 a.toNatClampNeg).toNatClampNeg = (yv M I0) 20 ((yv M I0) 16 a.toNatClampNeg).toNatClampNeg := hC.2 _ _ (by unfold sC; omega)
  have e21 : I (M + 21) ((yv M I0) 16 a.toNatClampNeg).toNatClampNeg = (yv M I0) 21 ((yv M I0) 16 a.toNatClampNeg).toNatClampNeg := hC.2 _ _ (by unfold sC; omega)
  have e10 : I (M + 10) ((yv M I0) 16 a.toNatClampNeg).toNatClampNeg = (yv M I0) 10 ((yv M I0) 16 a.toNatClampNeg).toNatClampNeg := hC.2 _ _ (by unfold sC; omega)
  rw [e7, e16] at gx
  unfold tnY at h0 h1
  clear hC
  rw [a_enter1 (M := a_m228) rfl (a_cat_rf (a_cat_int (a_cat_int a_cat_nil))) (show 3 ≤ 4 by decide)]
  show a_at _ (a_xm a_m228) 0 [some (a_rf M), some (.int a), some (.int f), none] [] _ _
  simp only [q228_0, q228_1, q228_4, q228_5, q228_6, q228_7, q228_10, q228_11, q228_12, q228_13, q228_16, q228_17, q228_18, q228_19, q228_20, q228_21, q228_24, q228_27, q228_28, q228_29, q228_32, q228_33, q228_34, q228_35, q228_38, q228_39, q228_40, q228_41, q228_42, q228_43, q228_44, q228_45, q228_46, q228_47, q228_50, q228_51, q228_52, q228_55, q228_56, q228_59, q228_60, m_0 hS, m_K hS, mR_kind hS, mK_kind hS, mL_kind hS, mR_xOf hS, mK_xOf hS, mL_xOf hS, mR_atShift hS, mK_atShift hS, mL_atShift hS, mR_length hS, mK_length hS, mL_length hS, mR_yOf hS, mK_yOf hS, mL_yOf hS, sp_hasPlace hS, as_nil, as_i, as_r, Nat.reduceAdd, Nat.reduceLeDiff, z_eq0, z_eq1, z_or, z_em, Classical.not_not, not_false_eq_true, not_true_eq_false, true_and, and_true, false_and, and_false, and_self, true_implies, false_implies, implies_true, Option.toList_some, Option.toList_none, List.cons_append, List.nil_append, Nat.add_eq_zero_iff, a_nl_i, a_nl_r, a_nl_n, true_or, or_true, eq_self, ok_4, ok_5, ok_6, ok_7, ok_9, ok_10, ok_20, ok_21, ok_24, ok_30, ok_48, ok_50, ok_60, ok_80, ok_120, ok_180, ok_192, ok_200, ok_900, ok_1000, ok_84000, e7, e16, e17, e20, e21, e10]
  clear e7 e16 e17 e20 e21 e10
  generalize (yv M I0) 7 a.toNatClampNeg = y7 at gx h0 h1 ⊢
  generalize (yv M I0) 16 a.toNatClampNeg = y16 at gx h0 h1 ⊢
  generalize (yv M I0) 17 a.toNatClampNeg = y17 at h0 h1 ⊢
  generalize (yv M I0) 20 y16.toNatClampNeg = y20 at h0 h1 ⊢
  generalize (yv M I0) 21 y16.toNatClampNeg = y21 at h0 h1 ⊢
  generalize (yv M I0) 10 y16.toNatClampNeg = y10 at h0 h1 ⊢
  clear hS
  grind
theorem hgI_rng {Y : Nat → Nat → Int32} {a b s : Int32} : ∀ (k : Nat) (o g : Int32), hgI Y a b s k o g = 0 ∨ hgI Y a b s k o g = 6 ∨ hgI Y a b s k o g = 7 := by
  intro k
  induction k with
  | zero =>
    intro o g
    unfold hgI
    split
    · exact Or.inl rfl
    · exact Or.inr (Or.inr rfl)
  | succ k ih =>
    intro o g
    unfold hgI
    split
    · exact Or.inr (Or.inl rfl)
    · exact ih _ _
theorem xt_barIn_104 (hS : m_S M K L R) (hC : mC M I0 I) {a b s f : Int32} (ha : 0 ≤ a ∧ a < 30) {V : Int32} (h6 : V = 6 → P (some (.int 6)) (n, t, K, L, I, R)) (hn : ∀ g o u, (g = 0 ∨ g = 1) → V = (if g = 0 then 0 else 7) → a_at (d + 8) (a_xm a_m222) 233 [some (a_rf M), some (.int a), some (.int b), some (.int s), some (.int f), some (.int g), some (.int o), u] [] (n, t, K, L, I, R) P) : ∀ o : Int32, o ≤ 30 → ∀ g u, (g = 0 ∨ g = 1) → 0 ≤ o → o ≤ (yv M I0) 0 17 → hgI (yv M I0) a b s (((yv M I0) 0 17).toNatClampNeg - o.toNatClampNeg) o g = V → a_at (d + 8) (a_xm a_m222) 104 [some (a_rf M), some (.int a), some (.int b), some (.int s), some (.int f), some (.int g), some (.int o), u] [] (n, t, K, L, I, R) P := by
  have et : I M 17 = (yv M I0) 0 17 := hC.2 _ _ (by unfold sC; omega)
  have e20 : ∀ j, I (M + 20) j = (yv M I0) 20 j := fun j => hC.2 _ _ (by unfold sC; omega)
  have e21 : ∀ j, I (M + 21) j = (yv M I0) 21 j := fun j => hC.2 _ _ (by unfold sC; omega)
  have e10 : ∀ j, I (M + 10) j = (yv M I0) 10 j := fun j => hC.2 _ _ (by unfold sC; omega)
  have e14 : ∀ j, I (M + 14) j = (yv M I0) 14 j := fun j => hC.2 _ _ (by unfold sC; omega)
  have gt := rg_asks hC.1
  rw [et] at gt
  generalize ez : (yv M I0) 0 17 = z at et gt
  clear hC
  refine up_ind 30 (fun o o30 ih => ?_)
  intro g u hg h0 h1 hV
  have hexit : ¬ o < z → a_at (d + 8) (a_xm a_m222) 233 [some (a_rf M), some (.int a), some (.int b), some (.int s), some (.int f), some (.int g), some (.int o), u] [] (n, t, K, L, I, R) P := fun w => by
    rw [(lp_end h1 w).1] at hV
    exact hn g o u hg hV.symm
  have hV2 : o < z → (if ¬ o = a ∧ (0 ≤ (yv M I0) 20 o.toNatClampNeg ∧ (yv M I0) 20 o.toNatClampNeg = b ∧ (yv M I0) 21 o.toNatClampNeg ≤ s ∧ s < (yv M I0) 21 o.toNatClampNeg + (yv M I0) 10 o.toNatClampNeg) then 6 else hgI (yv M I0) a b s (z.toNatClampNeg - (o + 1).toNatClampNeg) (o + 1) (if ¬ g = 0 ∨ (¬ o = a ∧ 0 ≤ (yv M I0) 20 o.toNatClampNeg ∧ (yv M I0) 14 o.toNatClampNeg = (yv M I0) 14 a.toNatClampNeg ∧ 0 ≤ (yv M I0) 14 a.toNatClampNeg ∧ (yv M I0) 21 o.toNatClampNeg ≤ s ∧ s < (yv M I0) 21 o.toNatClampNeg + (yv M I0) 10 o.toNatClampNeg) then 1 else 0)) = V := fun w => by
    rw [(lp_st h0 w).1] at hV
    exact hV
  have hsix : o < z → (¬ o = a ∧ (0 ≤ (yv M I0) 20 o.toNatClampNeg ∧ (yv M I0) 20 o.toNatClampNeg = b ∧ (yv M I0) 21 o.toNatClampNeg ≤ s ∧ s < (yv M I0) 21 o.toNatClampNeg + (yv M I0) 10 o.toNatClampNeg)) → P (some (.int 6)) (n, t, K, L, I, R) := fun w c => by
    have hV := hV2 w
    rw [if_pos c] at hV
    exact h6 hV.symm
  have hgo : o < z → ¬ (¬ o = a ∧ (0 ≤ (yv M I0) 20 o.toNatClampNeg ∧ (yv M I0) 20 o.toNatClampNeg = b ∧ (yv M I0) 21 o.toNatClampNeg ≤ s ∧ s < (yv M I0) 21 o.toNatClampNeg + (yv M I0) 10 o.toNatClampNeg)) → ∀ g2 u2, g2 = (if ¬ g = 0 ∨ (¬ o = a ∧ 0 ≤ (yv M I0) 20 o.toNatClampNeg ∧ (yv M I0) 14 o.toNatClampNeg = (yv M I0) 14 a.toNatClampNeg ∧ 0 ≤ (yv M I0) 14 a.toNatClampNeg ∧ (yv M I0) 21 o.toNatClampNeg ≤ s ∧ s < (yv M I0) 21 o.toNatClampNeg + (yv M I0) 10 o.toNatClampNeg) then 1 else 0) → a_at (d + 8) (a_xm a_m222) 104 [some (a_rf M), some (.int a), some (.int b), some (.int s), some (.int f), some (.int g2), some (.int (o + 1)), u2] [] (n, t, K, L, I, R) P := fun w c g2 u2 e2 => by
    have hV := hV2 w
    rw [if_neg c, ← e2] at hV
    obtain ⟨s1, s2, s3, s4⟩ := lp_st h0 w
    refine ih (by clear ih hV hV2 hsix hexit h6 hn; grind) g2 u2 ?_ s2 s3 hV
    rw [e2]
    split
    · exact Or.inr rfl
    · exact Or.inl rfl
  have o30' : o < z → 0 ≤ o ∧ o < 30 := fun w => ⟨h0, by clear ih hV hV2 hsix hgo hexit h6 hn; grind⟩
  clear ih hV hV2 h6 hn
  rw [q222_104]
  repeat' first
    | with_reducible apply And.intro
    | with_reducible assumption
    | with_reducible intro _
    | refine hexit ?_
    | refine hgo ?_ ?_ _ _ ?_
    | refine hsix ?_ ?_
    | simp only [q222_106, q222_107, q222_110, q222_113, q222_115, q222_116, q222_119, q222_120, q222_122, q222_123, q222_124, q222_127, q222_130, q222_132, q222_133, q222_135, q222_136, q222_139, q222_140, q222_142, q222_145, q222_148, q222_149, q222_152, q222_154, q222_155, q222_156, q222_159, q222_160, q222_161, q222_164, q222_165, q222_168, q222_169, q222_170, q222_173, q222_174, q222_175, q222_178, q222_180, q222_181, q222_184, q222_185, q222_186, q222_189, q222_191, q222_192, q222_193, q222_196, q222_198, q222_199, q222_200, q222_203, q222_204, q222_207, q222_208, q222_210, q222_212, q222_215, q222_217, q222_220, q222_221, q222_224, q222_225, q222_227, q222_230, m_0 hS, m_K hS, mR_gear hS, mK_gear hS, mL_gear hS, mR_atShift hS, mK_atShift hS, mL_atShift hS, mR_length hS, mK_length hS, mL_length hS, sp_holdsAt hS, sp_hasPlace hS, as_nil, as_i, as_r, Nat.reduceAdd, Nat.reduceLeDiff, z_eq0, z_eq1, z_or, z_em, Classical.not_not, not_false_eq_true, not_true_eq_false, true_and, and_true, false_and, and_false, and_self, true_implies, false_implies, implies_true, Option.toList_some, Option.toList_none, List.cons_append, List.nil_append, Nat.add_eq_zero_iff, a_nl_i, a_nl_r, a_nl_n, true_or, or_true, eq_self, ok_4, ok_5, ok_6, ok_7, ok_9, ok_10, ok_20, ok_21, ok_24, ok_30, ok_48, ok_50, ok_60, ok_80, ok_120, ok_180, ok_192, ok_200, ok_900, ok_1000, ok_84000, et, e20, e21, e10, e14]
  all_goals ((try clear hexit); (try clear hsix); (try clear hgo); (try clear e20); (try clear e21); (try clear e10); (try clear e14); (try clear hS); grind [ui_ap])
end YS
end
section
/-! the reference: what bars, FIT -/
section YT
variable {d n t M : Nat} {K L : Nat → Nat} {I I0 J J0 J1 J2 : Nat → Nat → Int32} {R : Nat → Nat → Nat} {P : Option Value → AH → Prop} {f : Nat → Int32} {e : Int32}
theorem xt_lostNow (hS : m_S M K L R) (hm : moP M I0) (hC : mC M I0 I) {s : Int32} (hs : 0 ≤ s ∧ s ≤ 199) (hP : P (some (.int (liY (yv M I0) s))) (n, t, K, L, I, R)) : a_does (d + 1) 177 [a_rf M, .int s, .int ((yv M I0) 0 0)] (n, t, K, L, I, R) P := by
  have e0 : (yv M I0) 0 0 = I M 0 := (hC.2 _ _ (by unfold sC; omega)).symm
  have hmI := moP_C hm hC
  have e : liY (yv M I0) s = liY (yv M I) s := by
    rw [liY_b (mC_sb hC)]
  rw [e] at hP
  rw [e0]
  exact ce_lostIn hS hmI.1 hmI.2.2.2.1 hs hP
theorem xt_barIn_241 (hS : m_S M K L R) (hm : moP M I0) (hC : mC M I0 I) {a b s f : Int32} (ha : 0 ≤ a ∧ a < 30) (hb : 0 ≤ b ∧ b ≤ 5) {V : Int32} (hV : V = (if 0 ≤ wtA (yv M I0) 66 a b s then 8 else if bcf (fhY (yv M I0) a b s) < (if 0 ≤ wtA (yv M I0) 87 a b s then 2 else 1) then 9 else if (yv M I0) 7 a.toNatClampNeg = 1 ∧ (¬ 0 ≤ (yv M I0) 20 ((yv M I0) 16 a.toNatClampNeg).toNatClampNeg ∨ f - ((yv M I0) 21 ((yv M I0) 16 a.toNatClampNeg).toNatClampNeg + (yv M I0) 10 ((yv M I0) 16 a.toNatClampNeg).toNatClampNeg - 1) - 1 < (yv M I0) 17 a.toNatClampNeg) then 10 else if (yv M I0) 7 a.toNatClampNeg = 2 ∧ ¬ ((yv M I0) 16 a.toNatClampNeg ≤ s ∧ s ≤ (yv M I0) 17 a.toNatClampNeg) then 11 else 0)) (hP : ∀ J, mC M I0 J → P (some (.int V)) (n, t, K, L, J, R)) {g o : Int32} {u : Option Value} : a_at (d + 8) (a_xm a_m222) 241 [some (a_rf M), some (.int a), some (.int b), some (.int s), some (.int f), some (.int g), some (.int o), u] [] (n, t, K, L, I, R) P := by
  simp only [q222_241, q222_242, q222_244, q222_245, q222_246, q222_247, m_0 hS, m_K hS, as_nil, as_i, as_r, Nat.reduceAdd, Nat.reduceLeDiff, z_eq0, z_eq1, z_or, z_em, Classical.not_not, not_false_eq_true, not_true_eq_false, true_and, and_true, false_and, and_false, and_self, true_implies, false_implies, implies_true, Option.toList_some, Option.toList_none, List.cons_append, List.nil_append, Nat.add_eq_zero_iff, a_nl_i, a_nl_r, a_nl_n, true_or, or_true, eq_self, ok_4, ok_5, ok_6, ok_7, ok_9, ok_10, ok_20, ok_21, ok_24, ok_30, ok_48, ok_50, ok_60, ok_80, ok_120, ok_180, ok_192, ok_200, ok_900, ok_1000, ok_84000]
  refine xt_holding (d := d + 1) hS hC hm.2.1 hm.2.2.1 (g := 66) (by decide) ha (fun J c => ?_)
  rw [show hgY (yv M I0) 66 s (fcY (yv M I0) a.toNatClampNeg (mkY (cmY (yv M I0)) (hsY (yv M I0)) a) b s 0) ((yv M I0) 0 41).toNatClampNeg 0 = wtA (yv M I0) 66 a b s from rfl]
  by_cases w8 : 0 ≤ wtA (yv M I0) 66 a b s
  · rw [if_pos w8] at hV
    have hp := hP J c
    rw [hV] at hp
    clear hV hP hm hC c
    simp only [q222_250, q222_253, q222_255, as_nil, as_i, as_r, Nat.reduceAdd, Nat.reduceLeDiff, z_eq0, z_eq1, z_or, z_em, Classical.not_not, not_false_eq_true, not_true_eq_false, true_and, and_true, false_and, and_false, and_self, true_implies, false_implies, implies_true, Option.toList_some, Option.toList_none, List.cons_append, List.nil_append, Nat.add_eq_zero_iff, a_nl_i, a_nl_r, a_nl_n, true_or, or_true, eq_self, ok_4, ok_5, ok_6, ok_7, ok_9, ok_10, ok_20, ok_21, ok_24, ok_30, ok_48, ok_50, ok_60, ok_80, ok_120, ok_180, ok_192, ok_200, ok_900, ok_1000, ok_84000, w8]
    first
      | exact hp
      | grind
  · rw [if_neg w8] at hV
    have h256 : a_at (d + 8) (a_xm a_m222) 256 [some (a_rf M), some (.int a), some (.int b), some (.int s), some (.int f), some (.int g), some (.int o), u] [] (n, t, K, L, J, R) P := by
      simp only [q222_256, q222_257, q222_258, q222_259, q222_260, m_0 hS, m_K hS, as_nil, as_i, as_r, Nat.reduceAdd, Nat.reduceLeDiff, z_eq0, z_eq1, z_or, z_em, Classical.not_not, not_false_eq_true, not_true_eq_false, true_and, and_true, false_and, and_false, and_self, true_implies, false_implies, implies_true, Option.toList_some, Option.toList_none, List.cons_append, List.nil_append, Nat.add_eq_zero_iff, a_nl_i, a_nl_r, a_nl_n, true_or, or_true, eq_self, ok_4, ok_5, ok_6, ok_7, ok_9, ok_10, ok_20, ok_21, ok_24, ok_30, ok_48, ok_50, ok_60, ok_80, ok_120, ok_180, ok_192, ok_200, ok_900, ok_1000, ok_84000]
      refine xt_freeHostsC (d := d + 6) hS c hb ?_
      simp only [q222_263, as_nil, as_i, as_r, Nat.reduceAdd, Nat.reduceLeDiff, z_eq0, z_eq1, z_or, z_em, Classical.not_not, not_false_eq_true, not_true_eq_false, true_and, and_true, false_and, and_false, and_self, true_implies, false_implies, implies_true, Option.toList_some, Option.toList_none, List.cons_append, List.nil_append, Nat.add_eq_zero_iff, a_nl_i, a_nl_r, a_nl_n, true_or, or_true, eq_self, ok_4, ok_5, ok_6, ok_7, ok_9, ok_10, ok_20, ok_21, ok_24, ok_30, ok_48, ok_50, ok_60, ok_80, ok_120, ok_180, ok_192, ok_200, ok_900, ok_1000, ok_84000]
      refine xt_ones (d := d + 7) (fhY_8 hm.2.2.2.2.2) ?_
      simp only [q222_266, q222_267, q222_268, q222_269, q222_270, m_0 hS, m_K hS, as_nil, as_i, as_r, Nat.reduceAdd, Nat.reduceLeDiff, z_eq0, z_eq1, z_or, z_em, Classical.not_not, not_false_eq_true, not_true_eq_false, true_and, and_true, false_and, and_false, and_self, true_implies, false_implies, implies_true, Option.toList_some, Option.toList_none, List.cons_append, List.nil_append, Nat.add_eq_zero_iff, a_nl_i, a_nl_r, a_nl_n, true_or, or_true, eq_self, ok_4, ok_5, ok_6, ok_7, ok_9, ok_10, ok_20, ok_21, ok_24, ok_30, ok_48, ok_50, ok_60, ok_80, ok_120, ok_180, ok_192, ok_200, ok_900, ok_1000, ok_84000]
      refine xt_isWatched (d := d) hS hm c ha (fun J2 c2 => ?_)
      have h287 : ¬ bcf (fhY (yv M I0) a b s) < (if 0 ≤ wtA (yv M I0) 87 a b s then 2 else 1) → a_at (d + 8) (a_xm a_m222) 287 [some (a_rf M), some (.int a), some (.int b), some (.int s), some (.int f), some (.int g), some (.int o), u] [] (n, t, K, L, J2, R) P := fun w9 => by
        rw [if_neg w9] at hV
        have e7 : J2 (M + 7) a.toNatClampNeg = (yv M I0) 7 a.toNatClampNeg := c2.2 _ _ (by unfold sC; omega)
        have e16 : J2 (M + 16) a.toNatClampNeg = (yv M I0) 16 a.toNatClampNeg := c2.2 _ _ (by unfold sC; omega)
        have e17 : J2 (M + 17) a.toNatClampNeg = (yv M I0) 17 a.toNatClampNeg := c2.2 _ _ (by unfold sC; omega)
        simp only [q222_287, q222_288, q222_289, q222_291, m_0 hS, m_K hS, as_nil, as_i, as_r, Nat.reduceAdd, Nat.reduceLeDiff, z_eq0, z_eq1, z_or, z_em, Classical.not_not, not_false_eq_true, not_true_eq_false, true_and, and_true, false_and, and_false, and_self, true_implies, false_implies, implies_true, Option.toList_some, Option.toList_none, List.cons_append, List.nil_append, Nat.add_eq_zero_iff, a_nl_i, a_nl_r, a_nl_n, true_or, or_true, eq_self, ok_4, ok_5, ok_6, ok_7, ok_9, ok_10, ok_20, ok_21, ok_24, ok_30, ok_48, ok_50, ok_60, ok_80, ok_120, ok_180, ok_192, ok_200, ok_900, ok_1000, ok_84000]
        refine xt_isTooNear (d := d + 6) hS c2 ha (fun w10 => ?_) (fun w10 => ?_)
        · unfold tnY at w10
          rw [if_neg w10] at hV
          have hp := hP J2 c2
          rw [hV] at hp
          clear hV hP hm hC c c2
          simp only [q222_294, q222_300, q222_301, q222_304, q222_305, q222_306, q222_307, q222_310, q222_311, q222_312, q222_315, q222_316, q222_317, q222_318, q222_321, q222_322, q222_323, q222_326, q222_329, q222_331, q222_334, q222_335, m_0 hS, m_K hS, mR_kind hS, mK_kind hS, mL_kind hS, mR_xOf hS, mK_xOf hS, mL_xOf hS, mR_yOf hS, mK_yOf hS, mL_yOf hS, sp_in, as_nil, as_i, as_r, Nat.reduceAdd, Nat.reduceLeDiff, z_eq0, z_eq1, z_or, z_em, Classical.not_not, not_false_eq_true, not_true_eq_false, true_and, and_true, false_and, and_false, and_self, true_implies, false_implies, implies_true, Option.toList_some, Option.toList_none, List.cons_append, List.nil_append, Nat.add_eq_zero_iff, a_nl_i, a_nl_r, a_nl_n, true_or, or_true, eq_self, ok_4, ok_5, ok_6, ok_7, ok_9, ok_10, ok_20, ok_21, ok_24, ok_30, ok_48, ok_50, ok_60, ok_80, ok_120, ok_180, ok_192, ok_200, ok_900, ok_1000, ok_84000, e7, e16, e17]
          generalize (yv M I0) 7 a.toNatClampNeg = y7 at hp ⊢
          generalize (yv M I0) 16 a.toNatClampNeg = y16 at hp ⊢
          generalize (yv M I0) 17 a.toNatClampNeg = y17 at hp ⊢
          clear e7 e16 e17 w10 w9
          grind
        · have w10' : (yv M I0) 7 a.toNatClampNeg = 1 ∧ (¬ 0 ≤ (yv M I0) 20 ((yv M I0) 16 a.toNatClampNeg).toNatClampNeg ∨ f - ((yv M I0) 21 ((yv M I0) 16 a.toNatClampNeg).toNatClampNeg + (yv M I0) 10 ((yv M I0) 16 a.toNatClampNeg).toNatClampNeg - 1) - 1 < (yv M I0) 17 a.toNatClampNeg) := w10
          rw [if_pos w10'] at hV
          have hp := hP J2 c2
          rw [hV] at hp
          have n10 : ¬ (1 : Int32) = 0 := by decide
          clear hV hP hm hC c c2
          simp only [q222_294, q222_297, q222_299, as_nil, as_i, as_r, Nat.reduceAdd, Nat.reduceLeDiff, z_eq0, z_eq1, z_or, z_em, Classical.not_not, not_false_eq_true, not_true_eq_false, true_and, and_true, false_and, and_false, and_self, true_implies, false_implies, implies_true, Option.toList_some, Option.toList_none, List.cons_append, List.nil_append, Nat.add_eq_zero_iff, a_nl_i, a_nl_r, a_nl_n, true_or, or_true, eq_self, ok_4, ok_5, ok_6, ok_7, ok_9, ok_10, ok_20, ok_21, ok_24, ok_30, ok_48, ok_50, ok_60, ok_80, ok_120, ok_180, ok_192, ok_200, ok_900, ok_1000, ok_84000, n10]
          first
            | exact hp
            | grind
      have h9 : bcf (fhY (yv M I0) a b s) < (if 0 ≤ wtA (yv M I0) 87 a b s then 2 else 1) → P (some (.int 9)) (n, t, K, L, J2, R) := fun w9 => by
        rw [if_pos w9] at hV
        have hp := hP J2 c2
        rw [hV] at hp
        exact hp
      generalize bcf (fhY (yv M I0) a b s) = q at h287 h9 ⊢
      by_cases w : 0 ≤ wtA (yv M I0) 87 a b s
      · rw [if_pos w] at h287 h9 ⊢
        have n10 : ¬ (1 : Int32) = 0 := by decide
        clear hV hP hm hC c c2
        simp only [q222_273, q222_276, q222_277, q222_280, q222_281, q222_284, q222_286, as_nil, as_i, as_r, Nat.reduceAdd, Nat.reduceLeDiff, z_eq0, z_eq1, z_or, z_em, Classical.not_not, not_false_eq_true, not_true_eq_false, true_and, and_true, false_and, and_false, and_self, true_implies, false_implies, implies_true, Option.toList_some, Option.toList_none, List.cons_append, List.nil_append, Nat.add_eq_zero_iff, a_nl_i, a_nl_r, a_nl_n, true_or, or_true, eq_self, ok_4, ok_5, ok_6, ok_7, ok_9, ok_10, ok_20, ok_21, ok_24, ok_30, ok_48, ok_50, ok_60, ok_80, ok_120, ok_180, ok_192, ok_200, ok_900, ok_1000, ok_84000, n10]
        grind
      · rw [if_neg w] at h287 h9 ⊢
        clear hV hP hm hC c c2
        simp only [q222_273, q222_276, q222_277, q222_280, q222_281, q222_284, q222_286, as_nil, as_i, as_r, Nat.reduceAdd, Nat.reduceLeDiff, z_eq0, z_eq1, z_or, z_em, Classical.not_not, not_false_eq_true, not_true_eq_false, true_and, and_true, false_and, and_false, and_self, true_implies, false_implies, implies_true, Option.toList_some, Option.toList_none, List.cons_append, List.nil_append, Nat.add_eq_zero_iff, a_nl_i, a_nl_r, a_nl_n, true_or, or_true, eq_self, ok_4, ok_5, ok_6, ok_7, ok_9, ok_10, ok_20, ok_21, ok_24, ok_30, ok_48, ok_50, ok_60, ok_80, ok_120, ok_180, ok_192, ok_200, ok_900, ok_1000, ok_84000]
        grind
    clear hV hP hm hC c
    simp only [q222_250, as_nil, as_i, as_r, Nat.reduceAdd, Nat.reduceLeDiff, z_eq0, z_eq1, z_or, z_em, Classical.not_not, not_false_eq_true, not_true_eq_false, true_and, and_true, false_and, and_false, and_self, true_implies, false_implies, implies_true, Option.toList_some, Option.toList_none, List.cons_append, List.nil_append, Nat.add_eq_zero_iff, a_nl_i, a_nl_r, a_nl_n, true_or, or_true, eq_self, ok_4, ok_5, ok_6, ok_7, ok_9, ok_10, ok_20, ok_21, ok_24, ok_30, ok_48, ok_50, ok_60, ok_80, ok_120, ok_180, ok_192, ok_200, ok_900, ok_1000, ok_84000, w8]
    first
      | exact h256
      | grind
theorem xt_barIn (hS : m_S M K L R) (hm : moP M I0) (hC : mC M I0 I) {a b s f : Int32} (ha : 0 ≤ a ∧ a < 30) (hb : 0 ≤ b ∧ b ≤ 5) (hs : 0 ≤ s) (hP : ∀ J, mC M I0 J → P (some (.int (brY (yv M I0) a b s f))) (n, t, K, L, J, R)) : a_does (d + 9) 222 [a_rf M, .int a, .int b, .int s, .int f] (n, t, K, L, I, R) P := by
  have e0 : I M 0 = (yv M I0) 0 0 := hC.2 _ _ (by unfold sC; omega)
  have e12 : I (M + 12) a.toNatClampNeg = (yv M I0) 12 a.toNatClampNeg := hC.2 _ _ (by unfold sC; omega)
  have e5 : I (M + 5) b.toNatClampNeg = (yv M I0) 5 b.toNatClampNeg := hC.2 _ _ (by unfold sC; omega)
  have e11 : I (M + 11) a.toNatClampNeg = (yv M I0) 11 a.toNatClampNeg := hC.2 _ _ (by unfold sC; omega)
  have e1 : I (M + 1) s.toNatClampNeg = (yv M I0) 1 s.toNatClampNeg := hC.2 _ _ (by unfold sC; omega)
  have e13 : I (M + 13) a.toNatClampNeg = (yv M I0) 13 a.toNatClampNeg := hC.2 _ _ (by unfold sC; omega)
  have ga := rg_asks hC.1
  have ea : I M 17 = (yv M I0) 0 17 := hC.2 _ _ (by unfold sC; omega)
  rw [ea] at ga
  unfold brY at hP
  have hfx : ∀ v, ¬ v = 0 → v = fxY (yv M I0) a b s → P (some (.int v)) (n, t, K, L, I, R) := fun v v0 e => by
    have hp := hP I hC
    rw [← e, if_pos v0] at hp
    exact hp
  have h98 : fxY (yv M I0) a b s = 0 → a_at (d + 8) (a_xm a_m222) 98 [some (a_rf M), some (.int a), some (.int b), some (.int s), some (.int f), none, none, none] [] (n, t, K, L, I, R) P := fun z => by
    rw [if_neg (fun q => q z)] at hP
    have hl := xt_barIn_104 (d := d) (n := n) (t := t) (P := P) (a := a) (b := b) (s := s) (f := f) hS hC ha (V := (hgI (yv M I0) a b s ((yv M I0) 0 17).toNatClampNeg 0 0)) (fun e6 => by
      have hp := hP I hC
      rw [e6, if_pos (by decide)] at hp
      exact hp) (fun g o u hg e => by
      by_cases c : g = 0
      · rw [if_pos c] at e
        have h241 := xt_barIn_241 (d := d) (n := n) (t := t) (P := P) (s := s) (f := f) (g := g) (o := o) (u := u) hS hm hC ha hb rfl (fun J cJ => by
          have hp := hP J cJ
          rw [e, if_neg (fun q => q rfl)] at hp
          exact hp)
        clear hP hm hC e hfx
        simp only [q222_233, q222_235, as_nil, as_i, as_r, Nat.reduceAdd, Nat.reduceLeDiff, z_eq0, z_eq1, z_or, z_em, Classical.not_not, not_false_eq_true, not_true_eq_false, true_and, and_true, false_and, and_false, and_self, true_implies, false_implies, implies_true, Option.toList_some, Option.toList_none, List.cons_append, List.nil_append, Nat.add_eq_zero_iff, a_nl_i, a_nl_r, a_nl_n, true_or, or_true, eq_self, ok_4, ok_5, ok_6, ok_7, ok_9, ok_10, ok_20, ok_21, ok_24, ok_30, ok_48, ok_50, ok_60, ok_80, ok_120, ok_180, ok_192, ok_200, ok_900, ok_1000, ok_84000, c]
        first
          | exact h241
          | (rw [c] at h241; exact h241)
          | grind
      · rw [if_neg c] at e
        have hp := hP I hC
        rw [e, if_pos (by decide)] at hp
        clear hP hm hC e hfx
        simp only [q222_233, q222_235, q222_238, q222_240, as_nil, as_i, as_r, Nat.reduceAdd, Nat.reduceLeDiff, z_eq0, z_eq1, z_or, z_em, Classical.not_not, not_false_eq_true, not_true_eq_false, true_and, and_true, false_and, and_false, and_self, true_implies, false_implies, implies_true, Option.toList_some, Option.toList_none, List.cons_append, List.nil_append, Nat.add_eq_zero_iff, a_nl_i, a_nl_r, a_nl_n, true_or, or_true, eq_self, ok_4, ok_5, ok_6, ok_7, ok_9, ok_10, ok_20, ok_21, ok_24, ok_30, ok_48, ok_50, ok_60, ok_80, ok_120, ok_180, ok_192, ok_200, ok_900, ok_1000, ok_84000, c]
        first
          | exact hp
          | grind) 0 (by decide) 0 none (Or.inl rfl) (by decide) ga.1 (by rw [lp_0])
    clear hP hm hC hfx
    simp only [q222_98, q222_99, q222_101, q222_102, as_nil, as_i, as_r, Nat.reduceAdd, Nat.reduceLeDiff, z_eq0, z_eq1, z_or, z_em, Classical.not_not, not_false_eq_true, not_true_eq_false, true_and, and_true, false_and, and_false, and_self, true_implies, false_implies, implies_true, Option.toList_some, Option.toList_none, List.cons_append, List.nil_append, Nat.add_eq_zero_iff, a_nl_i, a_nl_r, a_nl_n, true_or, or_true, eq_self, ok_4, ok_5, ok_6, ok_7, ok_9, ok_10, ok_20, ok_21, ok_24, ok_30, ok_48, ok_50, ok_60, ok_80, ok_120, ok_180, ok_192, ok_200, ok_900, ok_1000, ok_84000]
    exact hl
  have hlost := fun Q => xt_lostNow (d := d + 7) (s := s) (P := Q) (n := n) (t := t) hS hm hC
  have hX : fxY (yv M I0) a b s = fxY (yv M I0) a b s := rfl
  conv at hX => rhs; unfold fxY
  generalize fxY (yv M I0) a b s = F at h98 hfx hX
  clear hP hC hm ea
  rw [a_enter1 (M := a_m222) rfl (a_cat_rf (a_cat_int (a_cat_int (a_cat_int (a_cat_int a_cat_nil))))) (show 5 ≤ 8 by decide)]
  show a_at _ (a_xm a_m222) 0 [some (a_rf M), some (.int a), some (.int b), some (.int s), some (.int f), none, none, none] [] _ _
  repeat' first
    | with_reducible apply And.intro
    | with_reducible assumption
    | with_reducible intro _
    | refine h98 ?_
    | refine hfx _ ?_ ?_
    | refine hlost _ ?_ ?_
    | simp only [q222_0, q222_1, q222_4, q222_5, q222_6, q222_7, q222_8, q222_9, q222_10, q222_13, q222_14, q222_15, q222_16, q222_19, q222_20, q222_21, q222_22, q222_25, q222_26, q222_27, q222_28, q222_29, q222_30, q222_33, q222_34, q222_35, q222_36, q222_39, q222_42, q222_43, q222_44, q222_47, q222_50, q222_51, q222_52, q222_53, q222_56, q222_57, q222_58, q222_59, q222_62, q222_63, q222_64, q222_65, q222_68, q222_71, q222_73, q222_76, q222_77, q222_78, q222_79, q222_82, q222_83, q222_84, q222_85, q222_88, q222_89, q222_90, q222_91, q222_92, q222_93, q222_96, q222_97, m_0 hS, m_K hS, mR_benchSet hS, mK_benchSet hS, mL_benchSet hS, mR_can hS, mK_can hS, mL_can hS, mR_wants hS, mK_wants hS, mL_wants hS, mR_modes hS, mK_modes hS, mL_modes hS, mR_modeSet hS, mK_modeSet hS, mL_modeSet hS, sp_isBegun hS, as_nil, as_i, as_r, Nat.reduceAdd, Nat.reduceLeDiff, z_eq0, z_eq1, z_or, z_em, Classical.not_not, not_false_eq_true, not_true_eq_false, true_and, and_true, false_and, and_false, and_self, true_implies, false_implies, implies_true, Option.toList_some, Option.toList_none, List.cons_append, List.nil_append, Nat.add_eq_zero_iff, a_nl_i, a_nl_r, a_nl_n, true_or, or_true, eq_self, ok_4, ok_5, ok_6, ok_7, ok_9, ok_10, ok_20, ok_21, ok_24, ok_30, ok_48, ok_50, ok_60, ok_80, ok_120, ok_180, ok_192, ok_200, ok_900, ok_1000, ok_84000, e0, e12, e5, e11, e1, e13]
  all_goals ((try clear h98); (try clear hfx); (try clear hlost); (try clear hS); (try clear e0); (try clear e12); (try clear e5); (try clear e11); (try clear e1); (try clear e13); grind [ui_ap])
theorem xt_fitOf_3 (hS : m_S M K L R) (hm : moP M I0) {a b f : Int32} (ha : 0 ≤ a ∧ a < 30) (hb : 0 ≤ b ∧ b ≤ 5) (hf : 0 ≤ f ∧ f ≤ 199) {V : Int32} (hP : ∀ J, mC M I0 J → P (some (.int V)) (n, t, K, L, J, R)) : ∀ i : Int32, i ≤ 4 → ∀ J u, mC M I0 J → 0 ≤ i → i ≤ (yv M I0) 10 a.toNatClampNeg → ftI (yv M I0) a b f (((yv M I0) 10 a.toNatClampNeg).toNatClampNeg - i.toNatClampNeg) i = V → a_at (d + 9) (a_xm a_m221) 3 [some (a_rf M), some (.int a), some (.int b), some (.int f), some (.int i), u] [] (n, t, K, L, J, R) P := by
  have gl := rg_length hm.1 a.toNatClampNeg
  replace gl : 0 ≤ (yv M I0) 10 a.toNatClampNeg ∧ (yv M I0) 10 a.toNatClampNeg ≤ 4 := gl
  refine up_ind 4 (fun i i4 ih => ?_)
  intro J u hJ h0 h1 hV
  have e10 : J (M + 10) a.toNatClampNeg = (yv M I0) 10 a.toNatClampNeg := hJ.2 _ _ (by unfold sC; omega)
  generalize ez : (yv M I0) 10 a.toNatClampNeg = z at gl h1 hV e10 ih
  have hexit : ¬ i < z → P (some (.int 0)) (n, t, K, L, J, R) := fun w => by
    rw [(lp_end h1 w).1] at hV
    rw [show 0 = V from hV]
    exact hP J hJ
  have hV2 : i < z → (if 0 < brY (yv M I0) a b (f + i) f then brY (yv M I0) a b (f + i) f else ftI (yv M I0) a b f (z.toNatClampNeg - (i + 1).toNatClampNeg) (i + 1)) = V := fun w => by
    rw [(lp_st h0 w).1] at hV
    exact hV
  have hcall : i < z → a_does (d + 9) 222 [a_rf M, .int a, .int b, .int (f + i), .int f] (n, t, K, L, J, R) (fun r h' => a_at (d + 9) (a_xm a_m221) 25 [some (a_rf M), some (.int a), some (.int b), some (.int f), some (.int i), u] (r.toList ++ []) h' P) := fun w => by
    have hV := hV2 w
    obtain ⟨s1, s2, s3, s4⟩ := lp_st h0 w
    refine xt_barIn (d := d) hS hm hJ ha hb (by clear ih hV hV2 hP hexit; grind) (fun J2 c2 => ?_)
    generalize brY (yv M I0) a b (f + i) f = v at hV ⊢
    by_cases q : 0 < v
    · rw [if_pos q] at hV
      have hp := hP J2 c2
      rw [← hV] at hp
      clear ih hV hV2 hP hexit hm hJ
      simp only [q221_25, q221_27, q221_29, q221_32, q221_34, as_nil, as_i, as_r, Nat.reduceAdd, Nat.reduceLeDiff, z_eq0, z_eq1, z_or, z_em, Classical.not_not, not_false_eq_true, not_true_eq_false, true_and, and_true, false_and, and_false, and_self, true_implies, false_implies, implies_true, Option.toList_some, Option.toList_none, List.cons_append, List.nil_append, Nat.add_eq_zero_iff, a_nl_i, a_nl_r, a_nl_n, true_or, or_true, eq_self, ok_4, ok_5, ok_6, ok_7, ok_9, ok_10, ok_20, ok_21, ok_24, ok_30, ok_48, ok_50, ok_60, ok_80, ok_120, ok_180, ok_192, ok_200, ok_900, ok_1000, ok_84000, q]
      grind
    · rw [if_neg q] at hV
      have hg := ih (by clear ih hV hV2 hP hexit; grind) J2 (some (.int v)) c2 s2 s3 hV
      clear ih hV hV2 hP hexit hm hJ
      simp only [q221_25, q221_27, q221_29, q221_35, q221_38, as_nil, as_i, as_r, Nat.reduceAdd, Nat.reduceLeDiff, z_eq0, z_eq1, z_or, z_em, Classical.not_not, not_false_eq_true, not_true_eq_false, true_and, and_true, false_and, and_false, and_self, true_implies, false_implies, implies_true, Option.toList_some, Option.toList_none, List.cons_append, List.nil_append, Nat.add_eq_zero_iff, a_nl_i, a_nl_r, a_nl_n, true_or, or_true, eq_self, ok_4, ok_5, ok_6, ok_7, ok_9, ok_10, ok_20, ok_21, ok_24, ok_30, ok_48, ok_50, ok_60, ok_80, ok_120, ok_180, ok_192, ok_200, ok_900, ok_1000, ok_84000, q]
      grind
  clear ih hV hV2 hP hm hJ
  rw [q221_3]
  repeat' first
    | with_reducible apply And.intro
    | with_reducible assumption
    | with_reducible intro _
    | refine hexit ?_
    | refine hcall ?_
    | simp only [q221_5, q221_6, q221_9, q221_10, q221_11, q221_14, q221_15, q221_16, q221_17, q221_18, q221_20, q221_21, q221_22, q221_41, q221_42, m_0 hS, m_K hS, mR_length hS, mK_length hS, mL_length hS, as_nil, as_i, as_r, Nat.reduceAdd, Nat.reduceLeDiff, z_eq0, z_eq1, z_or, z_em, Classical.not_not, not_false_eq_true, not_true_eq_false, true_and, and_true, false_and, and_false, and_self, true_implies, false_implies, implies_true, Option.toList_some, Option.toList_none, List.cons_append, List.nil_append, Nat.add_eq_zero_iff, a_nl_i, a_nl_r, a_nl_n, true_or, or_true, eq_self, ok_4, ok_5, ok_6, ok_7, ok_9, ok_10, ok_20, ok_21, ok_24, ok_30, ok_48, ok_50, ok_60, ok_80, ok_120, ok_180, ok_192, ok_200, ok_900, ok_1000, ok_84000, e10]
  all_goals ((try clear hexit); (try clear hcall); (try clear hS); grind [ui_ap])
theorem xt_fitOf (hS : m_S M K L R) (hm : moP M I0) (hC : mC M I0 I) {a b f : Int32} (ha : 0 ≤ a ∧ a < 30) (hb : 0 ≤ b ∧ b ≤ 5) (hf : 0 ≤ f ∧ f ≤ 199) (hP : ∀ J, mC M I0 J → P (some (.int (ftY (yv M I0) a b f))) (n, t, K, L, J, R)) : a_does (d + 10) 221 [a_rf M, .int a, .int b, .int f] (n, t, K, L, I, R) P := by
  have gl := rg_length hm.1 a.toNatClampNeg
  replace gl : 0 ≤ (yv M I0) 10 a.toNatClampNeg ∧ (yv M I0) 10 a.toNatClampNeg ≤ 4 := gl
  have hl := xt_fitOf_3 (d := d) (n := n) (t := t) (P := P) hS hm ha hb hf hP 0 (by decide) I none hC (by decide) gl.1 (by rw [lp_0]; rfl)
  clear hP hC hm
  rw [a_enter1 (M := a_m221) rfl (a_cat_rf (a_cat_int (a_cat_int (a_cat_int a_cat_nil)))) (show 4 ≤ 6 by decide)]
  show a_at _ (a_xm a_m221) 0 [some (a_rf M), some (.int a), some (.int b), some (.int f), none, none] [] _ _
  simp only [q221_0, q221_1, as_nil, as_i, as_r, Nat.reduceAdd, Nat.reduceLeDiff, z_eq0, z_eq1, z_or, z_em, Classical.not_not, not_false_eq_true, not_true_eq_false, true_and, and_true, false_and, and_false, and_self, true_implies, false_implies, implies_true, Option.toList_some, Option.toList_none, List.cons_append, List.nil_append, Nat.add_eq_zero_iff, a_nl_i, a_nl_r, a_nl_n, true_or, or_true, eq_self, ok_4, ok_5, ok_6, ok_7, ok_9, ok_10, ok_20, ok_21, ok_24, ok_30, ok_48, ok_50, ok_60, ok_80, ok_120, ok_180, ok_192, ok_200, ok_900, ok_1000, ok_84000]
  exact hl
end YT
end
section
/-! what others have -/
section YU
variable {Y : Nat → Nat → Int32} {W T : Int32 → Nat → Int32}
theorem nx_or {i o : Int32} (h : i ≤ o) : o = i ∨ i + 1 ≤ o := by
  by_cases e : o = i
  · exact Or.inl e
  · right
    have a := Int32.le_iff_toInt_le.mp h
    have b := Int32.toInt_lt o
    have b2 := Int32.le_toInt i
    have c1 : (1 : Int32).toInt = 1 := rfl
    have ne : ¬ i.toInt = o.toInt := fun q => e (Int32.toInt_inj.mp q).symm
    have e2 : (i + 1).toInt = i.toInt + 1 := by rw [ti_add (by omega), c1]
    rw [Int32.le_iff_toInt_le, e2]
    omega
theorem hg_is {a b s m : Int32} : ∀ (k : Nat) (o g : Int32), (g = 0 ∨ g = 1) → 0 ≤ o → o ≤ m → m.toNatClampNeg = o.toNatClampNeg + k → ((∃ x : Int32, o ≤ x ∧ x < m ∧ ¬ x = a ∧ hoY Y x b s) ∧ hgI Y a b s k o g = 6) ∨ (¬ (∃ x : Int32, o ≤ x ∧ x < m ∧ ¬ x = a ∧ hoY Y x b s) ∧ ((¬ g = 0 ∨ ∃ x : Int32, o ≤ x ∧ x < m ∧ geY Y a x s) ∧ hgI Y a b s k o g = 7)) ∨ (¬ (∃ x : Int32, o ≤ x ∧ x < m ∧ ¬ x = a ∧ hoY Y x b s) ∧ (¬ (¬ g = 0 ∨ ∃ x : Int32, o ≤ x ∧ x < m ∧ geY Y a x s) ∧ hgI Y a b s k o g = 0)) := by
  intro k
  induction k with
  | zero =>
    intro o g hg h0 h1 h2
    have e : o = m := cl_inj h0 (Int32.le_trans h0 h1) (by omega)
    subst e
    have n1 : ¬ (∃ x : Int32, o ≤ x ∧ x < o ∧ ¬ x = a ∧ hoY Y x b s) := fun ⟨x, x1, x2, _⟩ => absurd x2 (Int32.not_lt.mpr x1)
    have n2 : ¬ (∃ x : Int32, o ≤ x ∧ x < o ∧ geY Y a x s) := fun ⟨x, x1, x2, _⟩ => absurd x2 (Int32.not_lt.mpr x1)
    unfold hgI
    rcases hg with e | e
    · subst e
      exact Or.inr (Or.inr ⟨n1, fun q => q.elim (fun z => z rfl) n2, rfl⟩)
    · subst e
      exact Or.inr (Or.inl ⟨n1, Or.inl (by decide), rfl⟩)
  | succ k ih =>
    intro o g hg h0 h1 h2
    have w : o < m := cl_lt2 h0 (Int32.le_trans h0 h1) (by omega)
    obtain ⟨s1, s2, s3, s4⟩ := lp_st h0 w
    unfold hgI
    by_cases c : ¬ o = a ∧ (0 ≤ Y 20 o.toNatClampNeg ∧ Y 20 o.toNatClampNeg = b ∧ Y 21 o.toNatClampNeg ≤ s ∧ s < Y 21 o.toNatClampNeg + Y 10 o.toNatClampNeg)
    · rw [if_pos c]
      exact Or.inl ⟨⟨o, Int32.le_refl _, w, c.1, c.2⟩, rfl⟩
    · rw [if_neg c]
      have e1 : (∃ x : Int32, o ≤ x ∧ x < m ∧ ¬ x = a ∧ hoY Y x b s) ↔ ∃ x : Int32, o + 1 ≤ x ∧ x < m ∧ ¬ x = a ∧ hoY Y x b s := ⟨fun ⟨x, x1, x2, x3, x4⟩ => by
        rcases nx_or x1 with e | e
        · subst e
          exact absurd ⟨x3, x4⟩ c
        · exact ⟨x, e, x2, x3, x4⟩, fun ⟨x, x1, x2, x3, x4⟩ => ⟨x, Int32.le_trans (Int32.le_of_lt (lt_p1 w)) x1, x2, x3, x4⟩⟩
      by_cases c2 : ¬ g = 0 ∨ (¬ o = a ∧ 0 ≤ Y 20 o.toNatClampNeg ∧ Y 14 o.toNatClampNeg = Y 14 a.toNatClampNeg ∧ 0 ≤ Y 14 a.toNatClampNeg ∧ Y 21 o.toNatClampNeg ≤ s ∧ s < Y 21 o.toNatClampNeg + Y 10 o.toNatClampNeg)
      · rw [if_pos c2]
        have e2 : (¬ g = 0 ∨ ∃ x : Int32, o ≤ x ∧ x < m ∧ geY Y a x s) := c2.elim Or.inl (fun z => Or.inr ⟨o, Int32.le_refl _, w, z⟩)
        rcases ih (o + 1) 1 (Or.inr rfl) s2 s3 (by omega) with q | q | q
        · exact Or.inl ⟨e1.mpr q.1, q.2⟩
        · exact Or.inr (Or.inl ⟨fun z => q.1 (e1.mp z), e2, q.2.2⟩)
        · exact absurd (Or.inl (by decide)) q.2.1
      · rw [if_neg c2]
        have e2 : (¬ g = 0 ∨ ∃ x : Int32, o ≤ x ∧ x < m ∧ geY Y a x s) ↔ (¬ (0 : Int32) = 0 ∨ ∃ x : Int32, o + 1 ≤ x ∧ x < m ∧ geY Y a x s) := ⟨fun z => by
          rcases z with z | ⟨x, x1, x2, x3⟩
          · exact absurd (Or.inl z) c2
          · rcases nx_or x1 with e | e
            · subst e
              exact absurd (Or.inr x3) c2
            · exact Or.inr ⟨x, e, x2, x3⟩, fun z => by
          rcases z with z | ⟨x, x1, x2, x3⟩
          · exact absurd rfl z
          · exact Or.inr ⟨x, Int32.le_trans (Int32.le_of_lt (lt_p1 w)) x1, x2, x3⟩⟩
        rcases ih (o + 1) 0 (Or.inl rfl) s2 s3 (by omega) with q | q | q
        · exact Or.inl ⟨e1.mpr q.1, q.2⟩
        · exact Or.inr (Or.inl ⟨fun z => q.1 (e1.mp z), e2.mpr q.2.1, q.2.2⟩)
        · exact Or.inr (Or.inr ⟨fun z => q.1 (e1.mp z), fun z => q.2.1 (e2.mp z), q.2.2⟩)
/-- the class looks for the same GEAR bench by bench -/
def geC (W : Int32 → Nat → Int32) (G : Nat → Int32) (a b s m : Int32) : Nat → Int32 → Int32
  | 0, _ => 0
  | k + 1, x => if (¬ x = b ∧ ¬ W x s.toNatClampNeg = -9 ∧ ¬ W x s.toNatClampNeg = a) ∧ (0 ≤ W x s.toNatClampNeg ∧ W x s.toNatClampNeg < m) ∧ G (W x s.toNatClampNeg).toNatClampNeg = G a.toNatClampNeg then 1 else geC W G a b s m k (x + 1)
theorem geC_is {G : Nat → Int32} {a b s m n : Int32} : ∀ (k : Nat) (x : Int32), 0 ≤ x → x ≤ n → n.toNatClampNeg = x.toNatClampNeg + k → ((∃ y : Int32, x ≤ y ∧ y < n ∧ (¬ y = b ∧ ¬ W y s.toNatClampNeg = -9 ∧ ¬ W y s.toNatClampNeg = a) ∧ (0 ≤ W y s.toNatClampNeg ∧ W y s.toNatClampNeg < m) ∧ G (W y s.toNatClampNeg).toNatClampNeg = G a.toNatClampNeg) ∧ geC W G a b s m k x = 1) ∨ (¬ (∃ y : Int32, x ≤ y ∧ y < n ∧ (¬ y = b ∧ ¬ W y s.toNatClampNeg = -9 ∧ ¬ W y s.toNatClampNeg = a) ∧ (0 ≤ W y s.toNatClampNeg ∧ W y s.toNatClampNeg < m) ∧ G (W y s.toNatClampNeg).toNatClampNeg = G a.toNatClampNeg) ∧ geC W G a b s m k x = 0) := by
  intro k
  induction k with
  | zero =>
    intro x h0 h1 h2
    have e : x = n := cl_inj h0 (Int32.le_trans h0 h1) (by omega)
    subst e
    exact Or.inr ⟨fun ⟨y, y1, y2, _⟩ => absurd y2 (Int32.not_lt.mpr y1), rfl⟩
  | succ k ih =>
    intro x h0 h1 h2
    have w : x < n := cl_lt2 h0 (Int32.le_trans h0 h1) (by omega)
    obtain ⟨s1, s2, s3, s4⟩ := lp_st h0 w
    unfold geC
    by_cases c : (¬ x = b ∧ ¬ W x s.toNatClampNeg = -9 ∧ ¬ W x s.toNatClampNeg = a) ∧ (0 ≤ W x s.toNatClampNeg ∧ W x s.toNatClampNeg < m) ∧ G (W x s.toNatClampNeg).toNatClampNeg = G a.toNatClampNeg
    · rw [if_pos c]
      exact Or.inl ⟨⟨x, Int32.le_refl _, w, c⟩, rfl⟩
    · rw [if_neg c]
      rcases ih (x + 1) s2 s3 (by omega) with ⟨⟨y, y1, y2, y3⟩, q⟩ | ⟨q1, q2⟩
      · exact Or.inl ⟨⟨y, Int32.le_trans (Int32.le_of_lt (lt_p1 w)) y1, y2, y3⟩, q⟩
      · refine Or.inr ⟨fun ⟨y, y1, y2, y3⟩ => ?_, q2⟩
        rcases nx_or y1 with e | e
        · subst e
          exact c y3
        · exact q1 ⟨y, e, y2, y3⟩
theorem sh_in {p l s : Int32} (h0 : 0 ≤ p) (h1 : p + l ≤ 200) (hl : 0 ≤ l ∧ l ≤ 4) (hp : p ≤ 200) : (p ≤ s ∧ s < p + l) ↔ ∃ i : Int32, 0 ≤ i ∧ i < l ∧ s = p + i := by
  refine ⟨fun ⟨q1, q2⟩ => ⟨s - p, ?_, ?_, ?_⟩, fun ⟨i, i1, i2, i3⟩ => ?_⟩
  · grind
  · grind
  · grind
  · subst i3
    grind
theorem had_is (hp : plP W T Y) (hl : ∀ j, 0 ≤ Y 10 j ∧ Y 10 j ≤ 4) {a b s : Int32} (hb : 0 ≤ b ∧ b < Y 0 6) (hs : 0 ≤ s ∧ s < 200) : (¬ W b s.toNatClampNeg = -9 ∧ ¬ W b s.toNatClampNeg = a) ↔ ∃ x : Int32, 0 ≤ x ∧ x < Y 0 17 ∧ ¬ x = a ∧ hoY Y x b s := by
  refine ⟨fun ⟨q1, q2⟩ => ?_, fun ⟨x, x1, x2, x3, x4, x5, x6, x7⟩ => ?_⟩
  · rcases hp.2 b s hb.1 hb.2 hs.1 hs.2 with ⟨r1, _⟩ | ⟨o, i, o1, o2, o3, i1, i2, i3⟩
    · exact absurd r1 q1
    · have hw := (who_is hp hb hs ⟨o1, o2⟩).mpr ⟨o3, i, i1, i2, i3⟩
      have ho4 : 0 ≤ Y 20 o.toNatClampNeg := by rw [o3]; exact hb.1
      obtain ⟨p1, p2, p3, -⟩ := hp.1 o o1 o2 ho4
      have h200 : Y 21 o.toNatClampNeg ≤ 200 := by
        have := hl o.toNatClampNeg
        clear hp hl hw q1 q2 i1 i2 i3
        grind
      have hr := (sh_in p2.1 p3 (hl _) h200).mpr ⟨i, i1, i2, i3⟩
      exact ⟨o, o1, o2, fun e => q2 (hw.trans e), ho4, o3, hr.1, hr.2⟩
  · obtain ⟨p1, p2, p3, -⟩ := hp.1 x x1 x2 x4
    have h200 : Y 21 x.toNatClampNeg ≤ 200 := by
      have := hl x.toNatClampNeg
      clear hp hl x3 x4 x5 x6 x7
      grind
    obtain ⟨i, i1, i2, i3⟩ := (sh_in p2.1 p3 (hl _) h200).mp ⟨x6, x7⟩
    have hw := (who_is hp hb hs ⟨x1, x2⟩).mpr ⟨x5, i, i1, i2, i3⟩
    rw [hw]
    exact ⟨fun e => absurd x1 (by rw [e]; decide), x3⟩
theorem gear_is (hp : plP W T Y) (hl : ∀ j, 0 ≤ Y 10 j ∧ Y 10 j ≤ 4) {a b s : Int32} (hb : 0 ≤ b ∧ b < Y 0 6) (hs : 0 ≤ s ∧ s < 200) (hg : 0 ≤ Y 14 a.toNatClampNeg) (hn : ¬ ∃ x : Int32, 0 ≤ x ∧ x < Y 0 17 ∧ ¬ x = a ∧ hoY Y x b s) : (∃ y : Int32, 0 ≤ y ∧ y < Y 0 6 ∧ (¬ y = b ∧ ¬ W y s.toNatClampNeg = -9 ∧ ¬ W y s.toNatClampNeg = a) ∧ (0 ≤ W y s.toNatClampNeg ∧ W y s.toNatClampNeg < Y 0 17) ∧ Y 14 (W y s.toNatClampNeg).toNatClampNeg = Y 14 a.toNatClampNeg) ↔ ∃ x : Int32, 0 ≤ x ∧ x < Y 0 17 ∧ geY Y a x s := by
  refine ⟨fun ⟨y, y1, y2, ⟨y3, y4, y5⟩, ⟨y6, y7⟩, y8⟩ => ?_, fun ⟨x, x1, x2, x3, x4, x5, x6, x7, x8⟩ => ?_⟩
  · have hw := (who_is hp ⟨y1, y2⟩ hs ⟨y6, y7⟩).mp rfl
    obtain ⟨e1, i, i1, i2, i3⟩ := hw
    have ho4 : 0 ≤ Y 20 (W y s.toNatClampNeg).toNatClampNeg := by rw [e1]; exact y1
    obtain ⟨p1, p2, p3, -⟩ := hp.1 _ y6 y7 ho4
    have h200 : Y 21 (W y s.toNatClampNeg).toNatClampNeg ≤ 200 := by
      have := hl (W y s.toNatClampNeg).toNatClampNeg
      generalize W y s.toNatClampNeg = o at *
      clear hp hl hn i1 i2 i3
      grind
    have hr := (sh_in p2.1 p3 (hl _) h200).mpr ⟨i, i1, i2, i3⟩
    exact ⟨_, y6, y7, y5, ho4, y8, hg, hr.1, hr.2⟩
  · obtain ⟨p1, p2, p3, -⟩ := hp.1 x x1 x2 x4
    have h200 : Y 21 x.toNatClampNeg ≤ 200 := by
      have := hl x.toNatClampNeg
      clear hp hl hn x3 x4 x5 x6 x7 x8
      grind
    obtain ⟨i, i1, i2, i3⟩ := (sh_in p2.1 p3 (hl _) h200).mp ⟨x7, x8⟩
    have hw := (who_is hp ⟨x4, p1⟩ hs ⟨x1, x2⟩).mpr ⟨rfl, i, i1, i2, i3⟩
    refine ⟨Y 20 x.toNatClampNeg, x4, p1, ⟨fun e => hn ⟨x, x1, x2, x3, x4, e, x7, x8⟩, ?_, ?_⟩, ?_, ?_⟩
    · rw [hw]
      exact fun e => absurd x1 (by rw [e]; decide)
    · rw [hw]
      exact x3
    · rw [hw]
      exact ⟨x1, x2⟩
    · rw [hw]
      exact x5
/-- what others have, as the class finds it -/
theorem hg_class (hp : plP W T Y) (hl : ∀ j, 0 ≤ Y 10 j ∧ Y 10 j ≤ 4) (hn : 0 ≤ Y 0 17) (hn6 : 0 ≤ Y 0 6) {a b s : Int32} (hb : 0 ≤ b ∧ b < Y 0 6) (hs : 0 ≤ s ∧ s < 200) : hgI Y a b s (Y 0 17).toNatClampNeg 0 0 = (if ¬ W b s.toNatClampNeg = -9 ∧ ¬ W b s.toNatClampNeg = a then 6 else if 0 ≤ Y 14 a.toNatClampNeg ∧ geC W (Y 14) a b s (Y 0 17) (Y 0 6).toNatClampNeg 0 = 1 then 7 else 0) := by
  have h1 := had_is hp hl (a := a) hb hs
  have h3 := hg_is (Y := Y) (a := a) (b := b) (s := s) (m := Y 0 17) (Y 0 17).toNatClampNeg 0 0 (Or.inl rfl) (by decide) hn (by rw [show (0 : Int32).toNatClampNeg = 0 from rfl, Nat.zero_add])
  have h4 := geC_is (W := W) (G := Y 14) (a := a) (b := b) (s := s) (m := Y 0 17) (n := Y 0 6) (Y 0 6).toNatClampNeg 0 (by decide) hn6 (by rw [show (0 : Int32).toNatClampNeg = 0 from rfl, Nat.zero_add])
  have d10 : ¬ (0 : Int32) = 1 := by decide
  rcases h3 with ⟨q1, q2⟩ | ⟨q1, q2, q3⟩ | ⟨q1, q2, q3⟩
  · rw [q2, if_pos (h1.mpr q1)]
  · rw [q3, if_neg (fun z => q1 (h1.mp z))]
    obtain ⟨x, x1, x2, x3⟩ := q2.resolve_left (fun z => z rfl)
    have hg : 0 ≤ Y 14 a.toNatClampNeg := x3.2.2.2.1
    have h2 := gear_is hp hl hb hs hg q1
    rcases h4 with ⟨_, r⟩ | ⟨r, _⟩
    · rw [if_pos ⟨hg, r⟩]
    · exact absurd (h2.mpr ⟨x, x1, x2, x3⟩) r
  · rw [q3, if_neg (fun z => q1 (h1.mp z))]
    by_cases hg : 0 ≤ Y 14 a.toNatClampNeg
    · have h2 := gear_is hp hl hb hs hg q1
      rcases h4 with ⟨r, _⟩ | ⟨_, r⟩
      · exact absurd (Or.inr (h2.mp r)) q2
      · rw [if_neg (fun z => d10 (r.symm.trans z.2))]
    · rw [if_neg (fun z => hg z.1)]
end YU
end
section
/-! the class: what bars -/
section YV
variable {d n t C : Nat} {K L : Nat → Nat} {I I0 J J0 J1 J2 : Nat → Nat → Int32} {R : Nat → Nat → Nat} {P : Option Value → AH → Prop}
variable {Y : Nat → Nat → Int32}
/-- what holds of the model's words at all times -/
def yoP (Y : Nat → Nat → Int32) : Prop := (0 ≤ Y 0 41 ∧ Y 0 41 ≤ 20) ∧ (∀ j, 0 ≤ Y 10 j ∧ Y 10 j ≤ 4) ∧ (∀ i : Int32, 0 ≤ i → i < Y 0 17 → 1 ≤ Y 10 i.toNatClampNeg) ∧ (0 ≤ Y 0 9 ∧ Y 0 9 ≤ 3) ∧ (0 ≤ Y 0 17 ∧ Y 0 17 ≤ 30) ∧ (0 ≤ Y 0 6 ∧ Y 0 6 ≤ 6) ∧ inP Y ∧ mkP Y ∧ hbP Y ∧ (∀ i : Int32, 0 ≤ i → i < Y 0 17 → Y 7 i.toNatClampNeg = 1 → 0 ≤ Y 16 i.toNatClampNeg ∧ Y 16 i.toNatClampNeg < Y 0 17)
/-- an ASK of the class is one of the model's -/
def aaP (C : Nat) (K : Nat → Nat) (I Y : Nat → Nat → Int32) (i : Int32) (a : Nat) : Prop := (0 ≤ i ∧ i < Y 0 17) ∧ (K a = 1 ∧ ¬ a = 0 ∧ I a 4 = i) ∧ I a 12 = mkY (cmY Y) (hsY Y) i ∧ alP I Y i a
/-- the class's heap is the model's -/
def cpP (C : Nat) (K L : Nat → Nat) (I : Nat → Nat → Int32) (R : Nat → Nat → Nat) (Y : Nat → Nat → Int32) : Prop := (I (C + 1) 6 = Y 0 0 ∧ (∀ j, I (C + 2) j = Y 1 j) ∧ lsP C I Y) ∧ bhP C K I R Y ∧ asP C K I R Y ∧ txP C K L I R Y ∧ yoP Y
theorem aa_of (hc : cpP C K L I R Y) {i : Int32} (h0 : 0 ≤ i) (h1 : i < Y 0 17) : aaP C K I Y i (R (C + 15) i.toNatClampNeg) := ⟨⟨h0, h1⟩, hc.2.2.1.2.1 i h0 h1, hc.2.2.1.2.2.1 i h0 h1, hc.2.2.1.2.2.2 i h0 h1⟩
theorem aaP_J {a : Nat} {i : Int32} (ap : aaP C K I Y i a) (e : ∀ j, J a j = I a j) : aaP C K J Y i a := by
  obtain ⟨h1, ⟨h2, h3, h4⟩, h5, h6⟩ := ap
  refine ⟨h1, ⟨h2, h3, by rw [e]; exact h4⟩, by rw [e]; exact h5, ?_⟩
  unfold alP at h6 ⊢
  simp only [e]
  exact h6
theorem aaP_C (hT : cT C K L I R) {a : Nat} {i : Int32} (ap : aaP C K I Y i a) (h : dC C K L R I J) : aaP C K J Y i a := aaP_J ap (fun j => dC_at h hT ap.2.1.1 j)
theorem plP_eq {W T W' T' : Int32 → Nat → Int32} (h : plP W T Y) (h1 : ∀ b : Int32, 0 ≤ b → b < Y 0 6 → W' b = W b) (h2 : ∀ b : Int32, 0 ≤ b → b < Y 0 6 → T' b = T b) : plP W' T' Y := by
  refine ⟨fun o o1 o2 o3 => ?_, fun b x b1 b2 x1 x2 => ?_⟩
  · obtain ⟨p1, p2, p3, p4⟩ := h.1 o o1 o2 o3
    rw [h1 _ o3 p1, h2 _ o3 p1]
    exact ⟨p1, p2, p3, p4⟩
  · rw [h1 b b1 b2, h2 b b1 b2]
    exact h.2 b x b1 b2 x1 x2
theorem cpP_C (hT : cT C K L I R) (hc : cpP C K L I R Y) (h : dC C K L R I J) : cpP C K L J R Y := by
  have e : ∀ x j, ¬ x = C + 9 → ¬ x = C + 10 → J x j = I x j := h.2
  obtain ⟨⟨p1, p2, p3⟩, ⟨q1, q2, q3, q4⟩, ⟨r1, r2, r3, r4⟩, hx, hy⟩ := hc
  have eb : ∀ b : Int32, 0 ≤ b → b < Y 0 6 → ∀ j, J (R (C + 16) b.toNatClampNeg) j = I (R (C + 16) b.toNatClampNeg) j := fun b b0 b1 j => by
    have := (hT.g_bnc _ (q3 b b0 b1).1).1
    exact e _ _ (by omega) (by omega)
  have ea : ∀ i : Int32, 0 ≤ i → i < Y 0 17 → ∀ j, J (R (C + 15) i.toNatClampNeg) j = I (R (C + 15) i.toNatClampNeg) j := fun i i0 i1 j => dC_at h hT (r2 i i0 i1).1 j
  refine ⟨⟨by rw [e _ _ (by omega) (by omega)]; exact p1, fun j => by rw [e _ _ (by omega) (by omega)]; exact p2 j, fun s s0 s1 => by rw [e _ _ (by omega) (by omega)]; exact p3 s s0 s1⟩, ⟨by rw [e _ _ (by omega) (by omega)]; exact q1, by rw [e _ _ (by omega) (by omega)]; exact q2, fun b b0 b1 => by rw [eb b b0 b1, eb b b0 b1]; exact q3 b b0 b1, ?_⟩, ⟨by rw [e _ _ (by omega) (by omega)]; exact r1, fun i i0 i1 => by rw [ea i i0 i1]; exact r2 i i0 i1, fun i i0 i1 => by rw [ea i i0 i1]; exact r3 i i0 i1, fun i i0 i1 => ?_⟩, txP_C hT hx h, hy⟩
  · refine plP_eq q4 (fun b b0 b1 => funext (fun j => ?_)) (fun b b0 b1 => funext (fun j => ?_))
    · have g := hT.g_bnc _ (q3 b b0 b1).1
      have := g.2.1.1
      exact e _ _ (by omega) (by omega)
    · have g := hT.g_bnc _ (q3 b b0 b1).1
      have := g.2.2.1.1
      exact e _ _ (by omega) (by omega)
  · have h6 := r4 i i0 i1
    unfold alP at h6 ⊢
    simp only [ea i i0 i1]
    exact h6
theorem bc_255 {x : Int32} (h : 0 ≤ x ∧ x ≤ 255) : (x = 255) = (bcf x = 8) := by
  obtain ⟨k, rfl⟩ := fin256 h
  have key : ∀ k : Fin 256, (Int32.ofNat k.val = 255) ↔ (bcf (Int32.ofNat k.val) = 8) := by decide +kernel
  exact propext (key k)
theorem ce_fixedBar (hT : cT C K L I R) (hc : cpP C K L I R Y) {a : Nat} {i : Int32} (ap : aaP C K I Y i a) {b s : Int32} (hb : 0 ≤ b ∧ b < Y 0 6) (hs : 0 ≤ s) (hP : ∀ v, v = fxY Y i b s → P (some (.int v)) (n, t, K, L, I, R)) : a_does (d + 2) 102 [a_rf (C + 14), a_rf a, .int b, .int s] (n, t, K, L, I, R) P := by
  have hS := hT.s
  obtain ⟨ai, ⟨ha, an0, a4n⟩, am, al⟩ := id ap
  obtain ⟨a1, a2, a4, a3⟩ := hT.g_ask a ha
  have a0 : (a = 0) = False := eq_false an0
  have gA := hT.g_asksR
  have gB := hT.g_benchesR
  have gX := hT.g_textsR
  obtain ⟨⟨c1, c2, c3⟩, ⟨q1, q2, q3, q4⟩, hA, hX, hy⟩ := hc
  obtain ⟨k1, k2, k3, k4⟩ := q3 b hb.1 hb.2
  obtain ⟨⟨h0, h1, h2, h3, h5⟩, ⟨h6, h7, h8, h9⟩, -⟩ := al
  have b6 : b < 6 := Int32.lt_of_lt_of_le hb.2 hy.2.2.2.2.2.1.2
  have hbc : 0 ≤ b ∧ b < I (C + 14) 5 ∧ b < 6 := ⟨hb.1, by rw [q1]; exact hb.2, b6⟩
  have hlo := fun h1 : s < 200 => (bc_255 (hT.g_lost s.toNatClampNeg)).trans (by rw [c3 s hs h1])
  have hX2 : ∀ v, v = fxY Y i b s → P (some (.int v)) (n, t, K, L, I, R) := hP
  unfold fxY at hX2
  rw [Int32.mul_comm 8 s] at hX2
  clear hP hy q3 q4 hA hX
  rw [a_enter1 (M := a_m102) rfl (a_cat_rf (a_cat_rf (a_cat_int (a_cat_int a_cat_nil)))) (show 4 ≤ 5 by decide)]
  show a_at _ (a_xm a_m102) 0 [some (a_rf (C + 14)), some (a_rf a), some (.int b), some (.int s), none] [] _ _
  repeat' first
    | with_reducible apply And.intro
    | with_reducible assumption
    | with_reducible intro _
    | refine hX2 _ ?_
    | simp only [q102_0, q102_1, q102_2, q102_5, q102_7, q102_9, q102_12, q102_13, q102_16, q102_17, q102_18, q102_19, q102_20, q102_23, q102_24, q102_25, q102_27, q102_30, q102_31, q102_34, q102_35, q102_36, q102_37, q102_40, q102_41, q102_42, q102_43, q102_46, q102_49, q102_50, q102_53, q102_54, q102_57, q102_60, q102_61, q102_62, q102_63, q102_66, q102_69, q102_70, q102_71, q102_72, q102_75, q102_76, q102_79, q102_82, q102_83, q102_84, q102_87, q102_90, q102_91, q102_92, q102_93, q102_96, q102_97, q102_100, q102_103, q102_104, q102_105, q102_106, q102_107, q102_108, q102_111, q102_112, q102_115, q102_116, k_14 hS, z_14, r_14_0 hS, k_1 hS, z_1, r_1_0 hS, k_2 hS, l_2 hS, z_2, r_1_1 hS, k_3 hS, l_3 hS, z_3, sp_benchAt hS gB, sp_isShiftC, sp_hasBegun hS, as_nil, as_i, as_r, Nat.reduceAdd, Nat.reduceLeDiff, z_eq0, z_eq1, z_or, z_em, Classical.not_not, not_false_eq_true, not_true_eq_false, true_and, and_true, false_and, and_false, and_self, true_implies, false_implies, implies_true, Option.toList_some, Option.toList_none, List.cons_append, List.nil_append, Nat.add_eq_zero_iff, a_nl_i, a_nl_r, a_nl_n, true_or, or_true, eq_self, a_isRA_22, a_isRA_24, a_isRA_32, a_isA_20, ok_4, ok_5, ok_6, ok_7, ok_9, ok_20, ok_21, ok_30, ok_50, ok_180, ok_192, ok_200, ha, a0, hbc, k1, k2, k3, h6, h3, h7, c1, c2]
  all_goals ((try clear hX2); (try clear hT); (try clear hS); (try clear gA); (try clear gB); (try clear gX); (try clear c3); (try clear c2); grind [ui_ap])
theorem ce_isOthers {b : Nat} (hb : K b = 3) (hT : cT C K L I R) {s k : Int32} (hs : 0 ≤ s ∧ s < 200) (hP : P (some (.int (if ¬ I (R b 2) s.toNatClampNeg = -9 ∧ ¬ I (R b 2) s.toNatClampNeg = k then 1 else 0))) (n, t, K, L, I, R)) : a_does (d + 1) 105 [a_rf b, .int s, .int k] (n, t, K, L, I, R) P := by
  have hS := hT.s
  obtain ⟨b1, ⟨w1, w2, w3⟩, ⟨s1, s2, s3⟩, ⟨h1, h2, h3⟩, ⟨p1, p2, p3⟩, q1⟩ := hT.g_bnc b hb
  have b0 : (b = 0) = False := eq_false (by omega)
  have w0 : (R b 2 = 0) = False := eq_false (by omega)
  have s0 : (R b 3 = 0) = False := eq_false (by omega)
  have h0 : (R b 4 = 0) = False := eq_false (by omega)
  have p0 : (R b 5 = 0) = False := eq_false (by omega)
  rw [a_enter1 (M := a_m105) rfl (a_cat_rf (a_cat_int (a_cat_int a_cat_nil))) (show 3 ≤ 3 by decide)]
  show a_at _ (a_xm a_m105) 0 [some (a_rf b), some (.int s), some (.int k)] [] _ _
  repeat' first
    | with_reducible apply And.intro
    | with_reducible assumption
    | with_reducible intro _
    | simp only [q105_0, q105_1, q105_4, q105_5, q105_6, q105_8, q105_11, q105_12, q105_15, q105_16, q105_17, q105_18, q105_21, q105_22, q105_25, q105_26, as_nil, as_i, as_r, Nat.reduceAdd, Nat.reduceLeDiff, z_eq0, z_eq1, z_or, z_em, Classical.not_not, not_false_eq_true, not_true_eq_false, true_and, and_true, false_and, and_false, and_self, true_implies, false_implies, implies_true, Option.toList_some, Option.toList_none, List.cons_append, List.nil_append, Nat.add_eq_zero_iff, a_nl_i, a_nl_r, a_nl_n, true_or, or_true, eq_self, a_isRA_22, a_isRA_24, a_isRA_32, a_isA_20, ok_4, ok_5, ok_6, ok_7, ok_9, ok_20, ok_21, ok_30, ok_50, ok_180, ok_192, ok_200, hb, b0, w0, w2, w3, s0, s2, s3, h0, h2, h3, p0, p2]
  all_goals ((try clear hT); (try clear hS); grind [ui_ap])
theorem ce_isHadByOther (hT : cT C K L I R) (hc : cpP C K L I R Y) {a : Nat} {i : Int32} (ap : aaP C K I Y i a) {b s : Int32} (hb : 0 ≤ b ∧ b < Y 0 6) (hs : 0 ≤ s ∧ s < 200) (hP : P (some (.int (if ¬ (whC C I R) b s.toNatClampNeg = -9 ∧ ¬ (whC C I R) b s.toNatClampNeg = i then 1 else 0))) (n, t, K, L, I, R)) : a_does (d + 2) 104 [a_rf (C + 14), a_rf a, .int b, .int s] (n, t, K, L, I, R) P := by
  have hS := hT.s
  obtain ⟨ai, ⟨ha, an0, a4n⟩, am, al⟩ := id ap
  obtain ⟨a1, a2, a4, a3⟩ := hT.g_ask a ha
  have a0 : (a = 0) = False := eq_false an0
  have gA := hT.g_asksR
  have gB := hT.g_benchesR
  have gX := hT.g_textsR
  obtain ⟨-, ⟨q1, q2, q3, q4⟩, -, -, hy⟩ := hc
  obtain ⟨k1, k2, k3, k4⟩ := q3 b hb.1 hb.2
  have b6 : b < 6 := Int32.lt_of_lt_of_le hb.2 hy.2.2.2.2.2.1.2
  have hbc : 0 ≤ b ∧ b < I (C + 14) 5 ∧ b < 6 := ⟨hb.1, by rw [q1]; exact hb.2, b6⟩
  have hw : (whC C I R) b s.toNatClampNeg = I (R (R (C + 16) b.toNatClampNeg) 2) s.toNatClampNeg := rfl
  rw [a_enter1 (M := a_m104) rfl (a_cat_rf (a_cat_rf (a_cat_int (a_cat_int a_cat_nil)))) (show 4 ≤ 5 by decide)]
  show a_at _ (a_xm a_m104) 0 [some (a_rf (C + 14)), some (a_rf a), some (.int b), some (.int s), none] [] _ _
  simp only [q104_0, q104_1, q104_2, q104_5, q104_7, q104_9, q104_12, q104_14, q104_15, q104_16, q104_19, k_14 hS, z_14, sp_benchAt hS gB, as_nil, as_i, as_r, Nat.reduceAdd, Nat.reduceLeDiff, z_eq0, z_eq1, z_or, z_em, Classical.not_not, not_false_eq_true, not_true_eq_false, true_and, and_true, false_and, and_false, and_self, true_implies, false_implies, implies_true, Option.toList_some, Option.toList_none, List.cons_append, List.nil_append, Nat.add_eq_zero_iff, a_nl_i, a_nl_r, a_nl_n, true_or, or_true, eq_self, a_isRA_22, a_isRA_24, a_isRA_32, a_isA_20, ok_4, ok_5, ok_6, ok_7, ok_9, ok_20, ok_21, ok_30, ok_50, ok_180, ok_192, ok_200, ha, a0, hbc, k1, k2, a4n]
  try simp only [true_and, and_true, true_implies, false_implies, implies_true, not_true_eq_false, not_false_eq_true]
  refine ce_isOthers k1 hT hs ?_
  rw [← hw]
  by_cases c : ¬ (whC C I R) b s.toNatClampNeg = -9 ∧ ¬ (whC C I R) b s.toNatClampNeg = i
  · rw [if_pos c] at hP ⊢
    have n10 : ¬ (1 : Int32) = 0 := by decide
    clear q3 q4 hw hT
    simp only [q104_22, q104_25, q104_26, q104_29, q104_30, as_nil, as_i, as_r, Nat.reduceAdd, Nat.reduceLeDiff, z_eq0, z_eq1, z_or, z_em, Classical.not_not, not_false_eq_true, not_true_eq_false, true_and, and_true, false_and, and_false, and_self, true_implies, false_implies, implies_true, Option.toList_some, Option.toList_none, List.cons_append, List.nil_append, Nat.add_eq_zero_iff, a_nl_i, a_nl_r, a_nl_n, true_or, or_true, eq_self, a_isRA_22, a_isRA_24, a_isRA_32, a_isA_20, ok_4, ok_5, ok_6, ok_7, ok_9, ok_20, ok_21, ok_30, ok_50, ok_180, ok_192, ok_200, ha, a0, n10]
    first
      | exact hP
      | grind
  · rw [if_neg c] at hP ⊢
    clear q3 q4 hw hT
    simp only [q104_22, q104_25, q104_26, q104_29, q104_30, as_nil, as_i, as_r, Nat.reduceAdd, Nat.reduceLeDiff, z_eq0, z_eq1, z_or, z_em, Classical.not_not, not_false_eq_true, not_true_eq_false, true_and, and_true, false_and, and_false, and_self, true_implies, false_implies, implies_true, Option.toList_some, Option.toList_none, List.cons_append, List.nil_append, Nat.add_eq_zero_iff, a_nl_i, a_nl_r, a_nl_n, true_or, or_true, eq_self, a_isRA_22, a_isRA_24, a_isRA_32, a_isA_20, ok_4, ok_5, ok_6, ok_7, ok_9, ok_20, ok_21, ok_30, ok_50, ok_180, ok_192, ok_200, ha, a0]
    first
      | exact hP
      | grind
theorem le_isGearElsewhere_12 (hT : cT C K L I R) (hc : cpP C K L I R Y) {a : Nat} {i : Int32} (ap : aaP C K I Y i a) {b s : Int32} (hs : 0 ≤ s ∧ s < 200) {V : Int32} (hP : P (some (.int V)) (n, t, K, L, I, R)) : ∀ x : Int32, x ≤ 6 → ∀ u w, 0 ≤ x → x ≤ Y 0 6 → geC (whC C I R) (Y 14) i b s (Y 0 17) ((Y 0 6).toNatClampNeg - x.toNatClampNeg) x = V → a_at (d + 1) (a_xm a_m106) 12 [some (a_rf (C + 14)), some (a_rf a), some (.int b), some (.int s), some (.int x), u, w] [] (n, t, K, L, I, R) P := by
  have hS := hT.s
  obtain ⟨ai, ⟨ha, an0, a4n⟩, am, al⟩ := id ap
  obtain ⟨a1, a2, a4, a3⟩ := hT.g_ask a ha
  have a0 : (a = 0) = False := eq_false an0
  have gA := hT.g_asksR
  have gB := hT.g_benchesR
  have gX := hT.g_textsR
  have aa := fun x : Int32 => aa_of (C := C) (i := x) hc
  obtain ⟨-, ⟨q1, q2, q3, q4⟩, hA, -, hy⟩ := hc
  have e8 : I a 8 = Y 14 i.toNatClampNeg := al.2.1.2.2.1
  have y17 := hy.2.2.2.2.1
  have y6 := hy.2.2.2.2.2.1
  refine up_ind 6 (fun x x6 ih => ?_)
  intro u w h0 h1 hV
  have hexit : ¬ x < Y 0 6 → P (some (.int 0)) (n, t, K, L, I, R) := fun w => by
    rw [(lp_end h1 w).1] at hV
    rw [show 0 = V from hV]
    exact hP
  have hV2 : x < Y 0 6 → (if (¬ x = b ∧ ¬ (whC C I R) x s.toNatClampNeg = -9 ∧ ¬ (whC C I R) x s.toNatClampNeg = i) ∧ (0 ≤ (whC C I R) x s.toNatClampNeg ∧ (whC C I R) x s.toNatClampNeg < Y 0 17) ∧ Y 14 ((whC C I R) x s.toNatClampNeg).toNatClampNeg = Y 14 i.toNatClampNeg then 1 else geC (whC C I R) (Y 14) i b s (Y 0 17) ((Y 0 6).toNatClampNeg - (x + 1).toNatClampNeg) (x + 1)) = V := fun w => by
    rw [(lp_st h0 w).1] at hV
    exact hV
  have hone : x < Y 0 6 → ((¬ x = b ∧ ¬ (whC C I R) x s.toNatClampNeg = -9 ∧ ¬ (whC C I R) x s.toNatClampNeg = i) ∧ (0 ≤ (whC C I R) x s.toNatClampNeg ∧ (whC C I R) x s.toNatClampNeg < Y 0 17) ∧ Y 14 ((whC C I R) x s.toNatClampNeg).toNatClampNeg = Y 14 i.toNatClampNeg) → P (some (.int 1)) (n, t, K, L, I, R) := fun w c => by
    have hV := hV2 w
    rw [if_pos c] at hV
    rw [hV]
    exact hP
  have hgo : x < Y 0 6 → ¬ ((¬ x = b ∧ ¬ (whC C I R) x s.toNatClampNeg = -9 ∧ ¬ (whC C I R) x s.toNatClampNeg = i) ∧ (0 ≤ (whC C I R) x s.toNatClampNeg ∧ (whC C I R) x s.toNatClampNeg < Y 0 17) ∧ Y 14 ((whC C I R) x s.toNatClampNeg).toNatClampNeg = Y 14 i.toNatClampNeg) → ∀ u w, a_at (d + 1) (a_xm a_m106) 12 [some (a_rf (C + 14)), some (a_rf a), some (.int b), some (.int s), some (.int (x + 1)), u, w] [] (n, t, K, L, I, R) P := fun w c u2 w2 => by
    have hV := hV2 w
    rw [if_neg c] at hV
    obtain ⟨s1, s2, s3, s4⟩ := lp_st h0 w
    exact ih (Int32.lt_of_lt_of_le w y6.2) u2 w2 s2 s3 hV
  have h21 : x < Y 0 6 → a_at (d + 1) (a_xm a_m106) 21 [some (a_rf (C + 14)), some (a_rf a), some (.int b), some (.int s), some (.int x), u, w] [] (n, t, K, L, I, R) P := fun w9 => by
    have hone := hone w9
    have hgo := hgo w9
    obtain ⟨k1, k2, k3, k4⟩ := q3 x h0 w9
    have hw : (whC C I R) x s.toNatClampNeg = I (R (R (C + 16) x.toNatClampNeg) 2) s.toNatClampNeg := rfl
    obtain ⟨b1, ⟨w1, w2, w3⟩, -⟩ := hT.g_bnc _ k1
    have w0 : (R (R (C + 16) x.toNatClampNeg) 2 = 0) = False := eq_false (by omega)
    have ok2 : a_ok s (L (R (R (C + 16) x.toNatClampNeg) 2)) := by rw [w3, ok_200]; exact hs
    have hbc : 0 ≤ x ∧ x < I (C + 14) 5 ∧ x < 6 := ⟨h0, by rw [q1]; exact w9, Int32.lt_of_lt_of_le w9 y6.2⟩
    have aw := aa ((whC C I R) x s.toNatClampNeg)
    have hat : I (C + 14) 4 = Y 0 17 := hA.1
    rw [hw] at hone hgo aw
    generalize hz : I (R (R (C + 16) x.toNatClampNeg) 2) s.toNatClampNeg = z at hone hgo aw
    have az : 0 ≤ z → z < Y 0 17 → (K (R (C + 15) z.toNatClampNeg) = 1 ∧ ¬ R (C + 15) z.toNatClampNeg = 0) ∧ I (R (C + 15) z.toNatClampNeg) 8 = Y 14 z.toNatClampNeg := fun z0 z1 => ⟨⟨(aw z0 z1).2.1.1, (aw z0 z1).2.1.2.1⟩, (aw z0 z1).2.2.2.2.1.2.2.1⟩
    have z30 : z < Y 0 17 → z < 30 := fun q => Int32.lt_of_lt_of_le q y17.2
    clear ih hV hV2 hexit hP aw hA aa q3 q4
    simp only [q106_21, q106_22, q106_24, q106_27, q106_29, q106_31, q106_32, k_14 hS, z_14, sp_benchAt hS gB, as_nil, as_i, as_r, Nat.reduceAdd, Nat.reduceLeDiff, z_eq0, z_eq1, z_or, z_em, Classical.not_not, not_false_eq_true, not_true_eq_false, true_and, and_true, false_and, and_false, and_self, true_implies, false_implies, implies_true, Option.toList_some, Option.toList_none, List.cons_append, List.nil_append, Nat.add_eq_zero_iff, a_nl_i, a_nl_r, a_nl_n, true_or, or_true, eq_self, a_isRA_22, a_isRA_24, a_isRA_32, a_isA_20, ok_4, ok_5, ok_6, ok_7, ok_9, ok_20, ok_21, ok_30, ok_50, ok_180, ok_192, ok_200, ha, a0, hbc, k1, k2]
    try simp only [true_and, and_true, true_implies, false_implies, implies_true, not_true_eq_false, not_false_eq_true]
    have h85 : ¬ ((¬ x = b ∧ ¬ z = -9 ∧ ¬ z = i) ∧ (0 ≤ z ∧ z < Y 0 17) ∧ Y 14 z.toNatClampNeg = Y 14 i.toNatClampNeg) → ∀ u w, a_at (d + 1) (a_xm a_m106) 85 [some (a_rf (C + 14)), some (a_rf a), some (.int b), some (.int s), some (.int x), u, w] [] (n, t, K, L, I, R) P := fun c u w => by
      have hg := hgo c u w
      clear hgo hone az
      simp only [q106_85, q106_88, as_nil, as_i, as_r, Nat.reduceAdd, Nat.reduceLeDiff, z_eq0, z_eq1, z_or, z_em, Classical.not_not, not_false_eq_true, not_true_eq_false, true_and, and_true, false_and, and_false, and_self, true_implies, false_implies, implies_true, Option.toList_some, Option.toList_none, List.cons_append, List.nil_append, Nat.add_eq_zero_iff, a_nl_i, a_nl_r, a_nl_n, true_or, or_true, eq_self, a_isRA_22, a_isRA_24, a_isRA_32, a_isA_20, ok_4, ok_5, ok_6, ok_7, ok_9, ok_20, ok_21, ok_30, ok_50, ok_180, ok_192, ok_200]
      exact hg
    have h35 : ¬ x = b → a_at (d + 1) (a_xm a_m106) 35 [some (a_rf (C + 14)), some (a_rf a), some (.int b), some (.int s), some (.int x), some (a_rf (R (C + 16) x.toNatClampNeg)), w] [] (n, t, K, L, I, R) P := fun xb => by
      simp only [q106_35, q106_37, q106_40, q106_42, q106_43, q106_44, q106_47, k_14 hS, z_14, as_nil, as_i, as_r, Nat.reduceAdd, Nat.reduceLeDiff, z_eq0, z_eq1, z_or, z_em, Classical.not_not, not_false_eq_true, not_true_eq_false, true_and, and_true, false_and, and_false, and_self, true_implies, false_implies, implies_true, Option.toList_some, Option.toList_none, List.cons_append, List.nil_append, Nat.add_eq_zero_iff, a_nl_i, a_nl_r, a_nl_n, true_or, or_true, eq_self, a_isRA_22, a_isRA_24, a_isRA_32, a_isA_20, ok_4, ok_5, ok_6, ok_7, ok_9, ok_20, ok_21, ok_30, ok_50, ok_180, ok_192, ok_200, ha, a0, hbc, k1, k2, a4n]
      try simp only [true_and, and_true, true_implies, false_implies, implies_true, not_true_eq_false, not_false_eq_true]
      refine ce_isOthers k1 hT hs ?_
      rw [hz]
      by_cases c1 : ¬ z = -9 ∧ ¬ z = i
      · rw [if_pos c1]
        have n10 : ¬ (1 : Int32) = 0 := by decide
        simp only [q106_50, q106_53, q106_54, q106_56, q106_59, q106_60, q106_61, q106_64, q106_66, q106_68, q106_71, q106_73, q106_76, q106_77, q106_80, q106_83, q106_84, k_14 hS, z_14, sp_askAt hS gA, as_nil, as_i, as_r, Nat.reduceAdd, Nat.reduceLeDiff, z_eq0, z_eq1, z_or, z_em, Classical.not_not, not_false_eq_true, not_true_eq_false, true_and, and_true, false_and, and_false, and_self, true_implies, false_implies, implies_true, Option.toList_some, Option.toList_none, List.cons_append, List.nil_append, Nat.add_eq_zero_iff, a_nl_i, a_nl_r, a_nl_n, true_or, or_true, eq_self, a_isRA_22, a_isRA_24, a_isRA_32, a_isA_20, ok_4, ok_5, ok_6, ok_7, ok_9, ok_20, ok_21, ok_30, ok_50, ok_180, ok_192, ok_200, ha, a0, n10, k1, k2, w0, w2, ok2, hz, hat, e8]
        try simp only [true_and, and_true, true_implies, false_implies, implies_true, not_true_eq_false, not_false_eq_true]
        by_cases c2 : 0 ≤ z ∧ z < Y 0 17
        · obtain ⟨⟨az1, az2⟩, az3⟩ := az c2.1 c2.2
          have c3 := z30 c2.2
          have h85 := fun (q : ¬ Y 14 z.toNatClampNeg = Y 14 i.toNatClampNeg) => h85 (fun c => q c.2.2) (some (a_rf (R (C + 16) x.toNatClampNeg))) (some (a_rf (R (C + 15) z.toNatClampNeg)))
          have hone := fun q => hone ⟨⟨xb, c1⟩, c2, q⟩
          clear hgo az hT
          simp only [az1, az2, az3, c2.1, c2.2, c3]
          grind
        · have h85 := h85 (fun c => c2 c.2.1) (some (a_rf (R (C + 16) x.toNatClampNeg))) (some (a_rf 0))
          have c2' : ¬ (0 ≤ z ∧ z < Y 0 17 ∧ z < 30) := fun q => c2 ⟨q.1, q.2.1⟩
          clear hgo az hT hone
          simp only [c2']
          grind
      · rw [if_neg c1]
        have h85 := h85 (fun c => c1 c.1.2) (some (a_rf (R (C + 16) x.toNatClampNeg))) w
        clear hgo az hT hone
        simp only [q106_50, as_nil, as_i, as_r, Nat.reduceAdd, Nat.reduceLeDiff, z_eq0, z_eq1, z_or, z_em, Classical.not_not, not_false_eq_true, not_true_eq_false, true_and, and_true, false_and, and_false, and_self, true_implies, false_implies, implies_true, Option.toList_some, Option.toList_none, List.cons_append, List.nil_append, Nat.add_eq_zero_iff, a_nl_i, a_nl_r, a_nl_n, true_or, or_true, eq_self, a_isRA_22, a_isRA_24, a_isRA_32, a_isA_20, ok_4, ok_5, ok_6, ok_7, ok_9, ok_20, ok_21, ok_30, ok_50, ok_180, ok_192, ok_200, ha, a0]
        first
          | exact h85
          | grind
    have h85 := fun q => h85 (fun c => c.1.1 q) (some (a_rf (R (C + 16) x.toNatClampNeg))) w
    clear hgo az hT hone
    grind
  clear ih hV hV2 hP hgo hone q3 q4 hA aa
  rw [q106_12]
  simp only [q106_14, q106_15, q106_18, q106_91, q106_92, k_14 hS, z_14, as_nil, as_i, as_r, Nat.reduceAdd, Nat.reduceLeDiff, z_eq0, z_eq1, z_or, z_em, Classical.not_not, not_false_eq_true, not_true_eq_false, true_and, and_true, false_and, and_false, and_self, true_implies, false_implies, implies_true, Option.toList_some, Option.toList_none, List.cons_append, List.nil_append, Nat.add_eq_zero_iff, a_nl_i, a_nl_r, a_nl_n, true_or, or_true, eq_self, a_isRA_22, a_isRA_24, a_isRA_32, a_isA_20, ok_4, ok_5, ok_6, ok_7, ok_9, ok_20, ok_21, ok_30, ok_50, ok_180, ok_192, ok_200, ha, a0, q1]
  clear hT
  grind
theorem ce_isGearElsewhere (hT : cT C K L I R) (hc : cpP C K L I R Y) {a : Nat} {i : Int32} (ap : aaP C K I Y i a) {b s : Int32} (hs : 0 ≤ s ∧ s < 200) (hP : P (some (.int (if 0 ≤ Y 14 i.toNatClampNeg ∧ geC (whC C I R) (Y 14) i b s (Y 0 17) (Y 0 6).toNatClampNeg 0 = 1 then 1 else 0))) (n, t, K, L, I, R)) : a_does (d + 2) 106 [a_rf (C + 14), a_rf a, .int b, .int s] (n, t, K, L, I, R) P := by
  have hS := hT.s
  obtain ⟨ai, ⟨ha, an0, a4n⟩, am, al⟩ := id ap
  obtain ⟨a1, a2, a4, a3⟩ := hT.g_ask a ha
  have a0 : (a = 0) = False := eq_false an0
  have e8 : I a 8 = Y 14 i.toNatClampNeg := al.2.1.2.2.1
  have y6 := hc.2.2.2.2.2.2.2.2.2.1
  have h4 := geC_is (W := (whC C I R)) (G := Y 14) (a := i) (b := b) (s := s) (m := Y 0 17) (n := Y 0 6) (Y 0 6).toNatClampNeg 0 (by decide) y6.1 (by rw [show (0 : Int32).toNatClampNeg = 0 from rfl, Nat.zero_add])
  have h01 : geC (whC C I R) (Y 14) i b s (Y 0 17) (Y 0 6).toNatClampNeg 0 = 0 ∨ geC (whC C I R) (Y 14) i b s (Y 0 17) (Y 0 6).toNatClampNeg 0 = 1 := h4.elim (fun q => Or.inr q.2) (fun q => Or.inl q.2)
  have d10 : ¬ (0 : Int32) = 1 := by decide
  by_cases c : 0 ≤ Y 14 i.toNatClampNeg
  · have hp : P (some (.int (geC (whC C I R) (Y 14) i b s (Y 0 17) (Y 0 6).toNatClampNeg 0))) (n, t, K, L, I, R) := by
      rcases h01 with e | e
      · rw [if_neg (fun q => d10 (e.symm.trans q.2))] at hP
        rw [e]
        exact hP
      · rw [if_pos ⟨c, e⟩] at hP
        rw [e]
        exact hP
    have hl := le_isGearElsewhere_12 (d := d) hT hc ap (b := b) hs hp 0 (by decide) none none (by decide) y6.1 (by rw [lp_0])
    have c' : ¬ Y 14 i.toNatClampNeg < 0 := Int32.not_lt.mpr c
    clear hP hp h4 h01
    rw [a_enter1 (M := a_m106) rfl (a_cat_rf (a_cat_rf (a_cat_int (a_cat_int a_cat_nil)))) (show 4 ≤ 7 by decide)]
    show a_at _ (a_xm a_m106) 0 [some (a_rf (C + 14)), some (a_rf a), some (.int b), some (.int s), none, none, none] [] _ _
    simp only [q106_0, q106_1, q106_4, q106_7, q106_8, q106_9, q106_10, k_14 hS, z_14, as_nil, as_i, as_r, Nat.reduceAdd, Nat.reduceLeDiff, z_eq0, z_eq1, z_or, z_em, Classical.not_not, not_false_eq_true, not_true_eq_false, true_and, and_true, false_and, and_false, and_self, true_implies, false_implies, implies_true, Option.toList_some, Option.toList_none, List.cons_append, List.nil_append, Nat.add_eq_zero_iff, a_nl_i, a_nl_r, a_nl_n, true_or, or_true, eq_self, a_isRA_22, a_isRA_24, a_isRA_32, a_isA_20, ok_4, ok_5, ok_6, ok_7, ok_9, ok_20, ok_21, ok_30, ok_50, ok_180, ok_192, ok_200, ha, a0, e8, c', c]
    first
      | exact hl
      | grind
  · rw [if_neg (fun q => c q.1)] at hP
    have c' : Y 14 i.toNatClampNeg < 0 := Int32.not_le.mp c
    clear h4 h01
    rw [a_enter1 (M := a_m106) rfl (a_cat_rf (a_cat_rf (a_cat_int (a_cat_int a_cat_nil)))) (show 4 ≤ 7 by decide)]
    show a_at _ (a_xm a_m106) 0 [some (a_rf (C + 14)), some (a_rf a), some (.int b), some (.int s), none, none, none] [] _ _
    simp only [q106_0, q106_1, q106_4, q106_7, q106_8, k_14 hS, z_14, as_nil, as_i, as_r, Nat.reduceAdd, Nat.reduceLeDiff, z_eq0, z_eq1, z_or, z_em, Classical.not_not, not_false_eq_true, not_true_eq_false, true_and, and_true, false_and, and_false, and_self, true_implies, false_implies, implies_true, Option.toList_some, Option.toList_none, List.cons_append, List.nil_append, Nat.add_eq_zero_iff, a_nl_i, a_nl_r, a_nl_n, true_or, or_true, eq_self, a_isRA_22, a_isRA_24, a_isRA_32, a_isA_20, ok_4, ok_5, ok_6, ok_7, ok_9, ok_20, ok_21, ok_30, ok_50, ok_180, ok_192, ok_200, ha, a0, e8, c', c]
    first
      | exact hP
      | grind
theorem ce_freeHostsA (hT : cT C K L I R) (hc : cpP C K L I R Y) {a : Nat} {i : Int32} (ap : aaP C K I Y i a) {b s : Int32} (hb : 0 ≤ b ∧ b < Y 0 6) (hs : 0 ≤ s ∧ s < 200) (hP : P (some (.int (fhY Y i b s))) (n, t, K, L, I, R)) : a_does (d + 2) 108 [a_rf (C + 14), a_rf a, .int b, .int s] (n, t, K, L, I, R) P := by
  have hy := hc.2.2.2.2
  refine ce_freeHosts hT hc.2.1 hy.2.1 hy.2.2.2.1 hy.2.2.2.2.1 ap.2.1.1 hb hs ?_
  rw [ap.2.1.2.2]
  exact hP
theorem ce_lacksHosts (hT : cT C K L I R) (hc : cpP C K L I R Y) {a : Nat} {i : Int32} (ap : aaP C K I Y i a) {b s w : Int32} (hb : 0 ≤ b ∧ b < Y 0 6) (hs : 0 ≤ s ∧ s < 200) (h0 : ¬ bcf (fhY Y i b s) < (if w = 0 then 1 else 2) → P (some (.int 0)) (n, t, K, L, I, R)) (h1 : bcf (fhY Y i b s) < (if w = 0 then 1 else 2) → P (some (.int 1)) (n, t, K, L, I, R)) : a_does (d + 3) 107 [a_rf (C + 14), a_rf a, .int b, .int s, .int w] (n, t, K, L, I, R) P := by
  have hS := hT.s
  obtain ⟨ai, ⟨ha, an0, a4n⟩, am, al⟩ := id ap
  obtain ⟨a1, a2, a4, a3⟩ := hT.g_ask a ha
  have a0 : (a = 0) = False := eq_false an0
  rw [a_enter1 (M := a_m107) rfl (a_cat_rf (a_cat_rf (a_cat_int (a_cat_int (a_cat_int a_cat_nil))))) (show 5 ≤ 5 by decide)]
  show a_at _ (a_xm a_m107) 0 [some (a_rf (C + 14)), some (a_rf a), some (.int b), some (.int s), some (.int w)] [] _ _
  simp only [q107_0, q107_1, q107_2, q107_3, q107_4, k_14 hS, z_14, as_nil, as_i, as_r, Nat.reduceAdd, Nat.reduceLeDiff, z_eq0, z_eq1, z_or, z_em, Classical.not_not, not_false_eq_true, not_true_eq_false, true_and, and_true, false_and, and_false, and_self, true_implies, false_implies, implies_true, Option.toList_some, Option.toList_none, List.cons_append, List.nil_append, Nat.add_eq_zero_iff, a_nl_i, a_nl_r, a_nl_n, true_or, or_true, eq_self, a_isRA_22, a_isRA_24, a_isRA_32, a_isA_20, ok_4, ok_5, ok_6, ok_7, ok_9, ok_20, ok_21, ok_30, ok_50, ok_180, ok_192, ok_200, ha, a0]
  try simp only [true_and, and_true, true_implies, false_implies, implies_true, not_true_eq_false, not_false_eq_true]
  refine ce_freeHostsA hT hc ap hb hs ?_
  simp only [q107_7, as_nil, as_i, as_r, Nat.reduceAdd, Nat.reduceLeDiff, z_eq0, z_eq1, z_or, z_em, Classical.not_not, not_false_eq_true, not_true_eq_false, true_and, and_true, false_and, and_false, and_self, true_implies, false_implies, implies_true, Option.toList_some, Option.toList_none, List.cons_append, List.nil_append, Nat.add_eq_zero_iff, a_nl_i, a_nl_r, a_nl_n, true_or, or_true, eq_self, a_isRA_22, a_isRA_24, a_isRA_32, a_isA_20, ok_4, ok_5, ok_6, ok_7, ok_9, ok_20, ok_21, ok_30, ok_50, ok_180, ok_192, ok_200, sp_bitCount]
  generalize bcf (fhY Y i b s) = q at h0 h1 ⊢
  clear hc ap al am hT
  by_cases c : w = 0
  · rw [if_pos c] at h0 h1
    simp only [q107_10, q107_12, q107_15, q107_16, q107_19, q107_20, q107_23, q107_24, q107_27, q107_28, as_nil, as_i, as_r, Nat.reduceAdd, Nat.reduceLeDiff, z_eq0, z_eq1, z_or, z_em, Classical.not_not, not_false_eq_true, not_true_eq_false, true_and, and_true, false_and, and_false, and_self, true_implies, false_implies, implies_true, Option.toList_some, Option.toList_none, List.cons_append, List.nil_append, Nat.add_eq_zero_iff, a_nl_i, a_nl_r, a_nl_n, true_or, or_true, eq_self, a_isRA_22, a_isRA_24, a_isRA_32, a_isA_20, ok_4, ok_5, ok_6, ok_7, ok_9, ok_20, ok_21, ok_30, ok_50, ok_180, ok_192, ok_200, c]
    grind
  · rw [if_neg c] at h0 h1
    simp only [q107_10, q107_12, q107_15, q107_16, q107_19, q107_20, q107_23, q107_24, q107_27, q107_28, as_nil, as_i, as_r, Nat.reduceAdd, Nat.reduceLeDiff, z_eq0, z_eq1, z_or, z_em, Classical.not_not, not_false_eq_true, not_true_eq_false, true_and, and_true, false_and, and_false, and_self, true_implies, false_implies, implies_true, Option.toList_some, Option.toList_none, List.cons_append, List.nil_append, Nat.add_eq_zero_iff, a_nl_i, a_nl_r, a_nl_n, true_or, or_true, eq_self, a_isRA_22, a_isRA_24, a_isRA_32, a_isA_20, ok_4, ok_5, ok_6, ok_7, ok_9, ok_20, ok_21, ok_30, ok_50, ok_180, ok_192, ok_200, c]
    grind
theorem ce_isTooNear (hT : cT C K L I R) (hc : cpP C K L I R Y) {a : Nat} {i : Int32} (ap : aaP C K I Y i a) {f : Int32} (h0 : ¬ tnY Y i f → P (some (.int 0)) (n, t, K, L, I, R)) (h1 : tnY Y i f → P (some (.int 1)) (n, t, K, L, I, R)) : a_does (d + 2) 110 [a_rf (C + 14), a_rf a, .int f] (n, t, K, L, I, R) P := by
  have hS := hT.s
  obtain ⟨ai, ⟨ha, an0, a4n⟩, am, al⟩ := id ap
  obtain ⟨a1, a2, a4, a3⟩ := hT.g_ask a ha
  have a0 : (a = 0) = False := eq_false an0
  have gA := hT.g_asksR
  have gB := hT.g_benchesR
  have gX := hT.g_textsR
  have e5 : I a 5 = Y 7 i.toNatClampNeg := al.1.2.2.2.2
  unfold tnY at h0 h1
  by_cases c : Y 7 i.toNatClampNeg = 1
  · obtain ⟨e10, e11⟩ := al.2.2.1 (Or.inl c)
    obtain ⟨x0, x1⟩ := hc.2.2.2.2.2.2.2.2.2.2.2.2.2 i ai.1 ai.2 c
    have ax := aa_of hc x0 x1
    have e4 : I (C + 14) 4 = Y 0 17 := hc.2.2.1.1
    have x30 : Y 16 i.toNatClampNeg < 30 := Int32.lt_of_lt_of_le x1 hc.2.2.2.2.2.2.2.2.1.2
    have n0 := ax.2.1.2.1
    have k1 := ax.2.1.1
    have f2 := ax.2.2.2.1.2.2.1
    have f13 := ax.2.2.2.2.2.2.1.1
    have f14 := ax.2.2.2.2.2.2.1.2
    clear ax hc ap al am
    rw [a_enter1 (M := a_m110) rfl (a_cat_rf (a_cat_rf (a_cat_int a_cat_nil))) (show 3 ≤ 4 by decide)]
    show a_at _ (a_xm a_m110) 0 [some (a_rf (C + 14)), some (a_rf a), some (.int f), none] [] _ _
    simp only [q110_0, q110_1, q110_4, q110_5, q110_8, q110_9, q110_10, q110_11, q110_12, q110_15, q110_18, q110_19, q110_20, q110_23, q110_24, q110_27, q110_30, q110_31, q110_32, q110_35, q110_36, q110_37, q110_38, q110_39, q110_42, q110_45, q110_46, q110_49, q110_50, k_14 hS, z_14, sp_askAt hS gA, sp_isPlaced, sp_last, as_nil, as_i, as_r, Nat.reduceAdd, Nat.reduceLeDiff, z_eq0, z_eq1, z_or, z_em, Classical.not_not, not_false_eq_true, not_true_eq_false, true_and, and_true, false_and, and_false, and_self, true_implies, false_implies, implies_true, Option.toList_some, Option.toList_none, List.cons_append, List.nil_append, Nat.add_eq_zero_iff, a_nl_i, a_nl_r, a_nl_n, true_or, or_true, eq_self, a_isRA_22, a_isRA_24, a_isRA_32, a_isA_20, ok_4, ok_5, ok_6, ok_7, ok_9, ok_20, ok_21, ok_30, ok_50, ok_180, ok_192, ok_200, ha, a0, e5, c, e10, e11, e4, x0, x1, x30, n0, k1, f2, f13, f14]
    generalize Y 20 (Y 16 i.toNatClampNeg).toNatClampNeg = y20 at h0 h1 ⊢
    generalize Y 21 (Y 16 i.toNatClampNeg).toNatClampNeg = y21 at h0 h1 ⊢
    generalize Y 10 (Y 16 i.toNatClampNeg).toNatClampNeg = y10 at h0 h1 ⊢
    clear hT hS gA gB gX
    grind
  · have h0 := h0 (fun q => c q.1)
    clear hc ap al am
    rw [a_enter1 (M := a_m110) rfl (a_cat_rf (a_cat_rf (a_cat_int a_cat_nil))) (show 3 ≤ 4 by decide)]
    show a_at _ (a_xm a_m110) 0 [some (a_rf (C + 14)), some (a_rf a), some (.int f), none] [] _ _
    simp only [q110_0, q110_1, q110_4, q110_5, q110_8, q110_9, k_14 hS, z_14, as_nil, as_i, as_r, Nat.reduceAdd, Nat.reduceLeDiff, z_eq0, z_eq1, z_or, z_em, Classical.not_not, not_false_eq_true, not_true_eq_false, true_and, and_true, false_and, and_false, and_self, true_implies, false_implies, implies_true, Option.toList_some, Option.toList_none, List.cons_append, List.nil_append, Nat.add_eq_zero_iff, a_nl_i, a_nl_r, a_nl_n, true_or, or_true, eq_self, a_isRA_22, a_isRA_24, a_isRA_32, a_isA_20, ok_4, ok_5, ok_6, ok_7, ok_9, ok_20, ok_21, ok_30, ok_50, ok_180, ok_192, ok_200, ha, a0, e5, c]
    first
      | exact h0
      | grind
theorem ce_isBeyondDays (hT : cT C K L I R) {a : Nat} {i : Int32} (ap : aaP C K I Y i a) {s : Int32} (h0 : ¬ bdY Y i s → P (some (.int 0)) (n, t, K, L, I, R)) (h1 : bdY Y i s → P (some (.int 1)) (n, t, K, L, I, R)) : a_does (d + 1) 111 [a_rf (C + 14), a_rf a, .int s] (n, t, K, L, I, R) P := by
  have hS := hT.s
  obtain ⟨ai, ⟨ha, an0, a4n⟩, am, al⟩ := id ap
  obtain ⟨a1, a2, a4, a3⟩ := hT.g_ask a ha
  have a0 : (a = 0) = False := eq_false an0
  have e5 : I a 5 = Y 7 i.toNatClampNeg := al.1.2.2.2.2
  unfold bdY at h0 h1
  by_cases c : Y 7 i.toNatClampNeg = 2
  · obtain ⟨e10, e11⟩ := al.2.2.1 (Or.inr c)
    clear ap al am
    rw [a_enter1 (M := a_m111) rfl (a_cat_rf (a_cat_rf (a_cat_int a_cat_nil))) (show 3 ≤ 3 by decide)]
    show a_at _ (a_xm a_m111) 0 [some (a_rf (C + 14)), some (a_rf a), some (.int s)] [] _ _
    simp only [q111_0, q111_1, q111_4, q111_5, q111_8, q111_9, q111_10, q111_13, q111_16, q111_17, q111_18, q111_21, q111_24, q111_25, q111_28, q111_29, k_14 hS, z_14, as_nil, as_i, as_r, Nat.reduceAdd, Nat.reduceLeDiff, z_eq0, z_eq1, z_or, z_em, Classical.not_not, not_false_eq_true, not_true_eq_false, true_and, and_true, false_and, and_false, and_self, true_implies, false_implies, implies_true, Option.toList_some, Option.toList_none, List.cons_append, List.nil_append, Nat.add_eq_zero_iff, a_nl_i, a_nl_r, a_nl_n, true_or, or_true, eq_self, a_isRA_22, a_isRA_24, a_isRA_32, a_isA_20, ok_4, ok_5, ok_6, ok_7, ok_9, ok_20, ok_21, ok_30, ok_50, ok_180, ok_192, ok_200, ha, a0, e5, c, e10, e11]
    clear hT hS
    grind
  · have h0 := h0 (fun q => c q.1)
    clear ap al am
    rw [a_enter1 (M := a_m111) rfl (a_cat_rf (a_cat_rf (a_cat_int a_cat_nil))) (show 3 ≤ 3 by decide)]
    show a_at _ (a_xm a_m111) 0 [some (a_rf (C + 14)), some (a_rf a), some (.int s)] [] _ _
    simp only [q111_0, q111_1, q111_4, q111_5, q111_8, q111_9, q111_10, q111_13, q111_16, q111_17, q111_18, q111_21, q111_24, q111_25, q111_28, q111_29, k_14 hS, z_14, as_nil, as_i, as_r, Nat.reduceAdd, Nat.reduceLeDiff, z_eq0, z_eq1, z_or, z_em, Classical.not_not, not_false_eq_true, not_true_eq_false, true_and, and_true, false_and, and_false, and_self, true_implies, false_implies, implies_true, Option.toList_some, Option.toList_none, List.cons_append, List.nil_append, Nat.add_eq_zero_iff, a_nl_i, a_nl_r, a_nl_n, true_or, or_true, eq_self, a_isRA_22, a_isRA_24, a_isRA_32, a_isA_20, ok_4, ok_5, ok_6, ok_7, ok_9, ok_20, ok_21, ok_30, ok_50, ok_180, ok_192, ok_200, ha, a0, e5, c]
    first
      | exact h0
      | grind
theorem hgY_rng {g s : Int32} {fc : Nat → Int32} : ∀ (k : Nat) (x : Int32), 0 ≤ x → x.toNatClampNeg + k ≤ 20 → hgY Y g s fc k x = -9 ∨ 0 ≤ hgY Y g s fc k x := by
  intro k
  induction k with
  | zero => intro x h0 h1; exact Or.inl rfl
  | succ k ih =>
    intro x h0 h1
    have w : x < 20 := cl_lt2 h0 (by decide) (by rw [show (20 : Int32).toNatClampNeg = 20 from rfl]; omega)
    obtain ⟨s1, s2, s3, s4⟩ := lp_st h0 w
    unfold hgY
    split
    · exact Or.inr h0
    · exact ih _ s2 (by omega)
theorem wtA_rng (ht : 0 ≤ Y 0 41 ∧ Y 0 41 ≤ 20) {g x b s : Int32} : (wtA Y g x b s = -9) = (¬ 0 ≤ wtA Y g x b s) := by
  have h := cl_le0 ht.1 ht.2
  rw [show (20 : Int32).toNatClampNeg = 20 from rfl] at h
  have := hgY_rng (Y := Y) (g := g) (s := s) (fc := fcA Y x b s 0) (Y 0 41).toNatClampNeg 0 (by decide) (by rw [show (0 : Int32).toNatClampNeg = 0 from rfl]; omega)
  refine propext ⟨fun e => by rw [e]; decide, fun q => this.resolve_right q⟩
theorem ce_leastA (hT : cT C K L I R) (hc : cpP C K L I R Y) {a : Nat} {i : Int32} (ap : aaP C K I Y i a) {l b s : Int32} (hs : 0 ≤ s ∧ s ≤ 199) (hP : ∀ J, dC C K L R I J → P (some (.int (wtA Y l i b s))) (n, t, K, L, J, R)) : a_does (d + 3) 86 [a_rf (C + 7), .int l, a_rf a, .int b, .int s] (n, t, K, L, I, R) P := ce_least hT hc.2.2.2.1 ap.2.1.1 hs (lq_fc ap.2.2.2 ap.2.2.1) hP
theorem fx_lt {x b s : Int32} (h : fxY Y x b s = 0) : s ≤ 199 := by
  unfold fxY at h
  refine Classical.byContradiction (fun w => ?_)
  have w2 : 199 < s := Int32.not_le.mp w
  revert h
  split
  · intro h; exact absurd h (by decide)
  · split
    · intro h; exact absurd h (by decide)
    · rw [if_pos (Or.inl w2)]
      intro h; exact absurd h (by decide)
theorem brY_rng {x b s f : Int32} : 0 ≤ brY Y x b s f := by
  have h1 : 0 ≤ fxY Y x b s := by
    unfold fxY
    repeat' split
    all_goals decide
  have h2 : 0 ≤ hgI Y x b s (Y 0 17).toNatClampNeg 0 0 := by
    rcases hgI_rng (Y := Y) (a := x) (b := b) (s := s) (Y 0 17).toNatClampNeg 0 0 with e | e | e <;> rw [e] <;> decide
  unfold brY
  repeat' split
  all_goals first
    | exact h1
    | exact h2
    | decide
end YV
section YW
variable {d n t C : Nat} {K L : Nat → Nat} {I I0 J J0 J1 J2 : Nat → Nat → Int32} {R : Nat → Nat → Nat} {P : Option Value → AH → Prop}
variable {Y : Nat → Nat → Int32}
theorem ce_barIn (hT : cT C K L I R) (hc : cpP C K L I R Y) {a : Nat} {i : Int32} (ap : aaP C K I Y i a) {b s f : Int32} (hb : 0 ≤ b ∧ b < Y 0 6) (hs : 0 ≤ s) (hP : ∀ J, dC C K L R I J → P (some (.int (brY Y i b s f))) (n, t, K, L, J, R)) : a_does (d + 4) 101 [a_rf (C + 14), a_rf a, .int b, .int f, .int s] (n, t, K, L, I, R) P := by
  have hS := hT.s
  obtain ⟨ai, ⟨ha, an0, a4n⟩, am, al⟩ := id ap
  obtain ⟨a1, a2, a4, a3⟩ := hT.g_ask a ha
  have a0 : (a = 0) = False := eq_false an0
  have hy := hc.2.2.2.2
  have n10 : ¬ (1 : Int32) = 0 := by decide
  have hV : brY Y i b s f = brY Y i b s f := rfl
  conv at hV => rhs; unfold brY
  generalize brY Y i b s f = V at hP hV
  rw [a_enter1 (M := a_m101) rfl (a_cat_rf (a_cat_rf (a_cat_int (a_cat_int (a_cat_int a_cat_nil))))) (show 5 ≤ 6 by decide)]
  show a_at _ (a_xm a_m101) 0 [some (a_rf (C + 14)), some (a_rf a), some (.int b), some (.int f), some (.int s), none] [] _ _
  simp only [q101_0, q101_1, q101_2, q101_3, q101_5, k_14 hS, z_14, as_nil, as_i, as_r, Nat.reduceAdd, Nat.reduceLeDiff, z_eq0, z_eq1, z_or, z_em, Classical.not_not, not_false_eq_true, not_true_eq_false, true_and, and_true, false_and, and_false, and_self, true_implies, false_implies, implies_true, Option.toList_some, Option.toList_none, List.cons_append, List.nil_append, Nat.add_eq_zero_iff, a_nl_i, a_nl_r, a_nl_n, true_or, or_true, eq_self, a_isRA_22, a_isRA_24, a_isRA_32, a_isA_20, ok_4, ok_5, ok_6, ok_7, ok_9, ok_20, ok_21, ok_30, ok_50, ok_180, ok_192, ok_200, ha, a0]
  refine ce_fixedBar (d := d + 1) hT hc ap hb hs (fun v ev => ?_)
  rw [← ev] at hV
  by_cases c0 : v = 0
  · rw [if_neg (fun q => q c0)] at hV
    have hs2 : 0 ≤ s ∧ s ≤ 199 := ⟨hs, fx_lt (ev.symm.trans c0)⟩
    have hs3 : 0 ≤ s ∧ s < 200 := ⟨hs, by clear hP hV hc ap al hy ev; grind⟩
    rw [hg_class hc.2.1.2.2.2 hy.2.1 hy.2.2.2.2.1.1 hy.2.2.2.2.2.1.1 hb hs3] at hV
    simp only [q101_8, q101_10, q101_12, q101_15, q101_17, q101_18, q101_19, q101_20, q101_21, q101_23, k_14 hS, z_14, as_nil, as_i, as_r, Nat.reduceAdd, Nat.reduceLeDiff, z_eq0, z_eq1, z_or, z_em, Classical.not_not, not_false_eq_true, not_true_eq_false, true_and, and_true, false_and, and_false, and_self, true_implies, false_implies, implies_true, Option.toList_some, Option.toList_none, List.cons_append, List.nil_append, Nat.add_eq_zero_iff, a_nl_i, a_nl_r, a_nl_n, true_or, or_true, eq_self, a_isRA_22, a_isRA_24, a_isRA_32, a_isA_20, ok_4, ok_5, ok_6, ok_7, ok_9, ok_20, ok_21, ok_30, ok_50, ok_180, ok_192, ok_200, ha, a0, c0]
    try simp only [true_and, and_true, true_implies, false_implies, implies_true, not_true_eq_false, not_false_eq_true]
    refine ce_isHadByOther (d := d + 1) hT hc ap hb hs3 ?_
    by_cases c6 : ¬ (whC C I R) b s.toNatClampNeg = -9 ∧ ¬ (whC C I R) b s.toNatClampNeg = i
    · rw [if_pos c6] at hV ⊢
      rw [if_pos (by decide)] at hV
      have hp := hP I (dC_refl hT)
      rw [hV] at hp
      clear hP hV hc ap al hy ev
      simp only [q101_26, q101_29, q101_31, as_nil, as_i, as_r, Nat.reduceAdd, Nat.reduceLeDiff, z_eq0, z_eq1, z_or, z_em, Classical.not_not, not_false_eq_true, not_true_eq_false, true_and, and_true, false_and, and_false, and_self, true_implies, false_implies, implies_true, Option.toList_some, Option.toList_none, List.cons_append, List.nil_append, Nat.add_eq_zero_iff, a_nl_i, a_nl_r, a_nl_n, true_or, or_true, eq_self, a_isRA_22, a_isRA_24, a_isRA_32, a_isA_20, ok_4, ok_5, ok_6, ok_7, ok_9, ok_20, ok_21, ok_30, ok_50, ok_180, ok_192, ok_200, ha, a0, n10]
      first
        | exact hp
        | grind
    · rw [if_neg c6] at hV ⊢
      simp only [q101_26, q101_29, q101_31, q101_32, q101_33, q101_34, q101_35, q101_37, k_14 hS, z_14, as_nil, as_i, as_r, Nat.reduceAdd, Nat.reduceLeDiff, z_eq0, z_eq1, z_or, z_em, Classical.not_not, not_false_eq_true, not_true_eq_false, true_and, and_true, false_and, and_false, and_self, true_implies, false_implies, implies_true, Option.toList_some, Option.toList_none, List.cons_append, List.nil_append, Nat.add_eq_zero_iff, a_nl_i, a_nl_r, a_nl_n, true_or, or_true, eq_self, a_isRA_22, a_isRA_24, a_isRA_32, a_isA_20, ok_4, ok_5, ok_6, ok_7, ok_9, ok_20, ok_21, ok_30, ok_50, ok_180, ok_192, ok_200, ha, a0]
      try simp only [true_and, and_true, true_implies, false_implies, implies_true, not_true_eq_false, not_false_eq_true]
      refine ce_isGearElsewhere (d := d + 1) hT hc ap hs3 ?_
      by_cases c7 : 0 ≤ Y 14 i.toNatClampNeg ∧ geC (whC C I R) (Y 14) i b s (Y 0 17) (Y 0 6).toNatClampNeg 0 = 1
      · rw [if_pos c7] at hV ⊢
        rw [if_pos (by decide)] at hV
        have hp := hP I (dC_refl hT)
        rw [hV] at hp
        clear hP hV hc ap al hy ev
        simp only [q101_40, q101_43, q101_45, as_nil, as_i, as_r, Nat.reduceAdd, Nat.reduceLeDiff, z_eq0, z_eq1, z_or, z_em, Classical.not_not, not_false_eq_true, not_true_eq_false, true_and, and_true, false_and, and_false, and_self, true_implies, false_implies, implies_true, Option.toList_some, Option.toList_none, List.cons_append, List.nil_append, Nat.add_eq_zero_iff, a_nl_i, a_nl_r, a_nl_n, true_or, or_true, eq_self, a_isRA_22, a_isRA_24, a_isRA_32, a_isA_20, ok_4, ok_5, ok_6, ok_7, ok_9, ok_20, ok_21, ok_30, ok_50, ok_180, ok_192, ok_200, ha, a0, n10]
        first
          | exact hp
          | grind
      · rw [if_neg c7] at hV ⊢
        rw [if_neg (fun q => q rfl)] at hV
        simp only [q101_40, q101_43, q101_45, q101_46, q101_47, q101_50, q101_52, q101_53, q101_54, q101_56, k_14 hS, z_14, r_14_1 hS, k_7 hS, z_7, as_nil, as_i, as_r, Nat.reduceAdd, Nat.reduceLeDiff, z_eq0, z_eq1, z_or, z_em, Classical.not_not, not_false_eq_true, not_true_eq_false, true_and, and_true, false_and, and_false, and_self, true_implies, false_implies, implies_true, Option.toList_some, Option.toList_none, List.cons_append, List.nil_append, Nat.add_eq_zero_iff, a_nl_i, a_nl_r, a_nl_n, true_or, or_true, eq_self, a_isRA_22, a_isRA_24, a_isRA_32, a_isA_20, ok_4, ok_5, ok_6, ok_7, ok_9, ok_20, ok_21, ok_30, ok_50, ok_180, ok_192, ok_200, ha, a0]
        try simp only [true_and, and_true, true_implies, false_implies, implies_true, not_true_eq_false, not_false_eq_true]
        refine ce_leastA (d := d) hT hc ap hs2 (fun J1 j1 => ?_)
        by_cases c8 : 0 ≤ wtA Y 66 i b s
        · rw [if_pos c8] at hV
          have hp := hP J1 j1
          rw [hV] at hp
          have c8' : ¬ wtA Y 66 i b s = -9 := by rw [wtA_rng hy.1]; exact fun q => q c8
          clear hP hV hc ap al hy ev
          simp only [q101_59, q101_61, q101_64, q101_66, as_nil, as_i, as_r, Nat.reduceAdd, Nat.reduceLeDiff, z_eq0, z_eq1, z_or, z_em, Classical.not_not, not_false_eq_true, not_true_eq_false, true_and, and_true, false_and, and_false, and_self, true_implies, false_implies, implies_true, Option.toList_some, Option.toList_none, List.cons_append, List.nil_append, Nat.add_eq_zero_iff, a_nl_i, a_nl_r, a_nl_n, true_or, or_true, eq_self, a_isRA_22, a_isRA_24, a_isRA_32, a_isA_20, ok_4, ok_5, ok_6, ok_7, ok_9, ok_20, ok_21, ok_30, ok_50, ok_180, ok_192, ok_200, ha, a0, c8']
          first
            | exact hp
            | grind
        · rw [if_neg c8] at hV
          have c8' : wtA Y 66 i b s = -9 := by rw [wtA_rng hy.1]; exact c8
          have hT1 := j1.1
          have hS1 := hT1.s
          have hc1 := cpP_C hT hc j1
          have ap1 := aaP_C hT ap j1
          simp only [q101_59, q101_61, q101_64, q101_66, q101_67, q101_68, q101_69, q101_70, q101_72, q101_73, q101_76, q101_78, q101_79, q101_80, q101_82, k_14 hS, z_14, r_14_1 hS, k_7 hS, z_7, as_nil, as_i, as_r, Nat.reduceAdd, Nat.reduceLeDiff, z_eq0, z_eq1, z_or, z_em, Classical.not_not, not_false_eq_true, not_true_eq_false, true_and, and_true, false_and, and_false, and_self, true_implies, false_implies, implies_true, Option.toList_some, Option.toList_none, List.cons_append, List.nil_append, Nat.add_eq_zero_iff, a_nl_i, a_nl_r, a_nl_n, true_or, or_true, eq_self, a_isRA_22, a_isRA_24, a_isRA_32, a_isA_20, ok_4, ok_5, ok_6, ok_7, ok_9, ok_20, ok_21, ok_30, ok_50, ok_180, ok_192, ok_200, ha, a0, c8']
          try simp only [true_and, and_true, true_implies, false_implies, implies_true, not_true_eq_false, not_false_eq_true]
          refine ce_leastA (d := d) hT1 hc1 ap1 hs2 (fun J2 j2 => ?_)
          have hT2 := j2.1
          have hS2 := hT2.s
          have hc2 := cpP_C hT1 hc1 j2
          have ap2 := aaP_C hT1 ap1 j2
          have j12 := dC_C j1 j2
          have h104 : ¬ bcf (fhY Y i b s) < (if 0 ≤ wtA Y 87 i b s then 2 else 1) → a_at (d + 3) (a_xm a_m101) 104 [some (a_rf (C + 14)), some (a_rf a), some (.int b), some (.int f), some (.int s), some (.int v)] [] (n, t, K, L, J2, R) P := fun w9 => by
            rw [if_neg w9] at hV
            simp only [q101_104, q101_105, q101_106, q101_107, k_14 hS, z_14, as_nil, as_i, as_r, Nat.reduceAdd, Nat.reduceLeDiff, z_eq0, z_eq1, z_or, z_em, Classical.not_not, not_false_eq_true, not_true_eq_false, true_and, and_true, false_and, and_false, and_self, true_implies, false_implies, implies_true, Option.toList_some, Option.toList_none, List.cons_append, List.nil_append, Nat.add_eq_zero_iff, a_nl_i, a_nl_r, a_nl_n, true_or, or_true, eq_self, a_isRA_22, a_isRA_24, a_isRA_32, a_isA_20, ok_4, ok_5, ok_6, ok_7, ok_9, ok_20, ok_21, ok_30, ok_50, ok_180, ok_192, ok_200, ha, a0]
            try simp only [true_and, and_true, true_implies, false_implies, implies_true, not_true_eq_false, not_false_eq_true]
            refine ce_isTooNear (d := d + 1) hT2 hc2 ap2 (fun w10 => ?_) (fun w10 => ?_)
            · unfold tnY at w10
              rw [if_neg w10] at hV
              simp only [q101_110, q101_113, q101_115, q101_116, q101_117, q101_118, q101_120, k_14 hS, z_14, as_nil, as_i, as_r, Nat.reduceAdd, Nat.reduceLeDiff, z_eq0, z_eq1, z_or, z_em, Classical.not_not, not_false_eq_true, not_true_eq_false, true_and, and_true, false_and, and_false, and_self, true_implies, false_implies, implies_true, Option.toList_some, Option.toList_none, List.cons_append, List.nil_append, Nat.add_eq_zero_iff, a_nl_i, a_nl_r, a_nl_n, true_or, or_true, eq_self, a_isRA_22, a_isRA_24, a_isRA_32, a_isA_20, ok_4, ok_5, ok_6, ok_7, ok_9, ok_20, ok_21, ok_30, ok_50, ok_180, ok_192, ok_200, ha, a0]
              try simp only [true_and, and_true, true_implies, false_implies, implies_true, not_true_eq_false, not_false_eq_true]
              refine ce_isBeyondDays (d := d + 2) hT2 ap2 (fun w11 => ?_) (fun w11 => ?_)
              · unfold bdY at w11
                rw [if_neg w11] at hV
                have hp := hP J2 j12
                rw [hV] at hp
                clear hP hV hc ap al hy ev hc1 ap1 hc2 ap2
                simp only [q101_123, q101_126, q101_128, q101_131, q101_132, as_nil, as_i, as_r, Nat.reduceAdd, Nat.reduceLeDiff, z_eq0, z_eq1, z_or, z_em, Classical.not_not, not_false_eq_true, not_true_eq_false, true_and, and_true, false_and, and_false, and_self, true_implies, false_implies, implies_true, Option.toList_some, Option.toList_none, List.cons_append, List.nil_append, Nat.add_eq_zero_iff, a_nl_i, a_nl_r, a_nl_n, true_or, or_true, eq_self, a_isRA_22, a_isRA_24, a_isRA_32, a_isA_20, ok_4, ok_5, ok_6, ok_7, ok_9, ok_20, ok_21, ok_30, ok_50, ok_180, ok_192, ok_200, ha, a0]
                first
                  | exact hp
                  | grind
              · unfold bdY at w11
                rw [if_pos w11] at hV
                have hp := hP J2 j12
                rw [hV] at hp
                clear hP hV hc ap al hy ev hc1 ap1 hc2 ap2
                simp only [q101_123, q101_126, q101_128, q101_131, q101_132, as_nil, as_i, as_r, Nat.reduceAdd, Nat.reduceLeDiff, z_eq0, z_eq1, z_or, z_em, Classical.not_not, not_false_eq_true, not_true_eq_false, true_and, and_true, false_and, and_false, and_self, true_implies, false_implies, implies_true, Option.toList_some, Option.toList_none, List.cons_append, List.nil_append, Nat.add_eq_zero_iff, a_nl_i, a_nl_r, a_nl_n, true_or, or_true, eq_self, a_isRA_22, a_isRA_24, a_isRA_32, a_isA_20, ok_4, ok_5, ok_6, ok_7, ok_9, ok_20, ok_21, ok_30, ok_50, ok_180, ok_192, ok_200, ha, a0, n10]
                first
                  | exact hp
                  | grind
            · unfold tnY at w10
              rw [if_pos w10] at hV
              have hp := hP J2 j12
              rw [hV] at hp
              clear hP hV hc ap al hy ev hc1 ap1 hc2 ap2
              simp only [q101_110, q101_113, q101_115, as_nil, as_i, as_r, Nat.reduceAdd, Nat.reduceLeDiff, z_eq0, z_eq1, z_or, z_em, Classical.not_not, not_false_eq_true, not_true_eq_false, true_and, and_true, false_and, and_false, and_self, true_implies, false_implies, implies_true, Option.toList_some, Option.toList_none, List.cons_append, List.nil_append, Nat.add_eq_zero_iff, a_nl_i, a_nl_r, a_nl_n, true_or, or_true, eq_self, a_isRA_22, a_isRA_24, a_isRA_32, a_isA_20, ok_4, ok_5, ok_6, ok_7, ok_9, ok_20, ok_21, ok_30, ok_50, ok_180, ok_192, ok_200, ha, a0, n10]
              first
                | exact hp
                | grind
          have h98 : ∀ w : Int32, (if w = 0 then (1 : Int32) else 2) = (if 0 ≤ wtA Y 87 i b s then 2 else 1) → a_does (d + 3) 107 [a_rf (C + 14), a_rf a, .int b, .int s, .int w] (n, t, K, L, J2, R) (fun r h' => a_at (d + 3) (a_xm a_m101) 98 [some (a_rf (C + 14)), some (a_rf a), some (.int b), some (.int f), some (.int s), some (.int v)] (r.toList ++ []) h' P) := fun w ew => by
            refine ce_lacksHosts (d := d) hT2 hc2 ap2 hb hs3 (fun w9 => ?_) (fun w9 => ?_)
            · rw [ew] at w9
              have h104 := h104 w9
              clear hP hV hc ap al hy ev hc1 ap1 hc2 ap2
              simp only [q101_98, as_nil, as_i, as_r, Nat.reduceAdd, Nat.reduceLeDiff, z_eq0, z_eq1, z_or, z_em, Classical.not_not, not_false_eq_true, not_true_eq_false, true_and, and_true, false_and, and_false, and_self, true_implies, false_implies, implies_true, Option.toList_some, Option.toList_none, List.cons_append, List.nil_append, Nat.add_eq_zero_iff, a_nl_i, a_nl_r, a_nl_n, true_or, or_true, eq_self, a_isRA_22, a_isRA_24, a_isRA_32, a_isA_20, ok_4, ok_5, ok_6, ok_7, ok_9, ok_20, ok_21, ok_30, ok_50, ok_180, ok_192, ok_200, ha, a0]
              first
                | exact h104
                | grind
            · rw [ew] at w9
              rw [if_pos w9] at hV
              have hp := hP J2 j12
              rw [hV] at hp
              clear hP hV hc ap al hy ev hc1 ap1 hc2 ap2 h104
              simp only [q101_98, q101_101, q101_103, as_nil, as_i, as_r, Nat.reduceAdd, Nat.reduceLeDiff, z_eq0, z_eq1, z_or, z_em, Classical.not_not, not_false_eq_true, not_true_eq_false, true_and, and_true, false_and, and_false, and_self, true_implies, false_implies, implies_true, Option.toList_some, Option.toList_none, List.cons_append, List.nil_append, Nat.add_eq_zero_iff, a_nl_i, a_nl_r, a_nl_n, true_or, or_true, eq_self, a_isRA_22, a_isRA_24, a_isRA_32, a_isA_20, ok_4, ok_5, ok_6, ok_7, ok_9, ok_20, ok_21, ok_30, ok_50, ok_180, ok_192, ok_200, ha, a0, n10]
              first
                | exact hp
                | grind
          by_cases cw : 0 ≤ wtA Y 87 i b s
          · have cw' : ¬ wtA Y 87 i b s = -9 := by rw [wtA_rng hy.1]; exact fun q => q cw
            have h98 := h98 1 (by rw [if_pos cw, if_neg n10])
            rw [c0] at h98
            clear hP hV hc ap al hy ev hc1 ap1 hc2 ap2 h104
            simp only [q101_85, q101_87, q101_90, q101_91, q101_95, k_14 hS, z_14, as_nil, as_i, as_r, Nat.reduceAdd, Nat.reduceLeDiff, z_eq0, z_eq1, z_or, z_em, Classical.not_not, not_false_eq_true, not_true_eq_false, true_and, and_true, false_and, and_false, and_self, true_implies, false_implies, implies_true, Option.toList_some, Option.toList_none, List.cons_append, List.nil_append, Nat.add_eq_zero_iff, a_nl_i, a_nl_r, a_nl_n, true_or, or_true, eq_self, a_isRA_22, a_isRA_24, a_isRA_32, a_isA_20, ok_4, ok_5, ok_6, ok_7, ok_9, ok_20, ok_21, ok_30, ok_50, ok_180, ok_192, ok_200, ha, a0, cw']
            first
              | exact h98
              | grind
          · have cw' : wtA Y 87 i b s = -9 := by rw [wtA_rng hy.1]; exact cw
            have h98 := h98 0 (by rw [if_neg cw, if_pos rfl])
            rw [c0] at h98
            clear hP hV hc ap al hy ev hc1 ap1 hc2 ap2 h104
            simp only [q101_85, q101_87, q101_90, q101_91, q101_94, q101_95, k_14 hS, z_14, as_nil, as_i, as_r, Nat.reduceAdd, Nat.reduceLeDiff, z_eq0, z_eq1, z_or, z_em, Classical.not_not, not_false_eq_true, not_true_eq_false, true_and, and_true, false_and, and_false, and_self, true_implies, false_implies, implies_true, Option.toList_some, Option.toList_none, List.cons_append, List.nil_append, Nat.add_eq_zero_iff, a_nl_i, a_nl_r, a_nl_n, true_or, or_true, eq_self, a_isRA_22, a_isRA_24, a_isRA_32, a_isA_20, ok_4, ok_5, ok_6, ok_7, ok_9, ok_20, ok_21, ok_30, ok_50, ok_180, ok_192, ok_200, ha, a0, cw']
            first
              | exact h98
              | grind
  · rw [if_pos c0] at hV
    have hp := hP I (dC_refl hT)
    rw [hV] at hp
    clear hP hV hc ap al hy ev
    simp only [q101_8, q101_10, q101_12, q101_15, q101_17, as_nil, as_i, as_r, Nat.reduceAdd, Nat.reduceLeDiff, z_eq0, z_eq1, z_or, z_em, Classical.not_not, not_false_eq_true, not_true_eq_false, true_and, and_true, false_and, and_false, and_self, true_implies, false_implies, implies_true, Option.toList_some, Option.toList_none, List.cons_append, List.nil_append, Nat.add_eq_zero_iff, a_nl_i, a_nl_r, a_nl_n, true_or, or_true, eq_self, a_isRA_22, a_isRA_24, a_isRA_32, a_isA_20, ok_4, ok_5, ok_6, ok_7, ok_9, ok_20, ok_21, ok_30, ok_50, ok_180, ok_192, ok_200, ha, a0, c0]
    first
      | exact hp
      | grind
theorem le_firstBar_3 (hT0 : cT C K L I R) (hc : cpP C K L I R Y) {a : Nat} {i : Int32} (ap : aaP C K I Y i a) {b f : Int32} (hb : 0 ≤ b ∧ b < Y 0 6) (hf : 0 ≤ f ∧ f ≤ 199) {V : Int32} (hP : ∀ J, dC C K L R I J → P (some (.int V)) (n, t, K, L, J, R)) : ∀ x : Int32, x ≤ 4 → ∀ J u, dC C K L R I J → 0 ≤ x → x ≤ Y 10 i.toNatClampNeg → ftI Y i b f ((Y 10 i.toNatClampNeg).toNatClampNeg - x.toNatClampNeg) x = V → a_at (d + 4) (a_xm a_m100) 3 [some (a_rf (C + 14)), some (a_rf a), some (.int b), some (.int f), some (.int x), u] [] (n, t, K, L, J, R) P := by
  have y10 := hc.2.2.2.2.2.1 i.toNatClampNeg
  refine up_ind 4 (fun x x4 ih => ?_)
  intro J u hJ h0 h1 hV
  have hT := hJ.1
  have hcJ := cpP_C hT0 hc hJ
  have apJ := aaP_C hT0 ap hJ
  have hS := hT.s
  obtain ⟨ai, ⟨ha, an0, a4n⟩, am, al⟩ := id apJ
  have a0 : (a = 0) = False := eq_false an0
  have e2 : J a 2 = Y 10 i.toNatClampNeg := al.1.2.2.1
  generalize ez : Y 10 i.toNatClampNeg = z at y10 h1 hV ih e2
  have hexit : ¬ x < z → P (some (.int 0)) (n, t, K, L, J, R) := fun w => by
    rw [(lp_end h1 w).1] at hV
    rw [show 0 = V from hV]
    exact hP J hJ
  have hV2 : x < z → (if 0 < brY Y i b (f + x) f then brY Y i b (f + x) f else ftI Y i b f (z.toNatClampNeg - (x + 1).toNatClampNeg) (x + 1)) = V := fun w => by
    rw [(lp_st h0 w).1] at hV
    exact hV
  have hcall : x < z → a_does (d + 4) 101 [a_rf (C + 14), a_rf a, .int b, .int f, .int (f + x)] (n, t, K, L, J, R) (fun r h' => a_at (d + 4) (a_xm a_m100) 23 [some (a_rf (C + 14)), some (a_rf a), some (.int b), some (.int f), some (.int x), u] (r.toList ++ []) h' P) := fun w => by
    have hV := hV2 w
    obtain ⟨s1, s2, s3, s4⟩ := lp_st h0 w
    refine ce_barIn (d := d) hT hcJ apJ hb (by clear ih hV hV2 hP hexit; grind) (fun J2 c2 => ?_)
    have hS2 := c2.1.s
    have g0 := brY_rng (Y := Y) (x := i) (b := b) (s := f + x) (f := f)
    generalize brY Y i b (f + x) f = v at hV g0 ⊢
    by_cases q : 0 < v
    · rw [if_pos q] at hV
      have hp := hP J2 (dC_C hJ c2)
      rw [← hV] at hp
      have q' : ¬ v = 0 := fun e => by rw [e] at q; exact absurd q (by decide)
      clear ih hV hV2 hP hexit hc ap hcJ apJ
      simp only [q100_23, q100_25, q100_27, q100_30, q100_32, as_nil, as_i, as_r, Nat.reduceAdd, Nat.reduceLeDiff, z_eq0, z_eq1, z_or, z_em, Classical.not_not, not_false_eq_true, not_true_eq_false, true_and, and_true, false_and, and_false, and_self, true_implies, false_implies, implies_true, Option.toList_some, Option.toList_none, List.cons_append, List.nil_append, Nat.add_eq_zero_iff, a_nl_i, a_nl_r, a_nl_n, true_or, or_true, eq_self, a_isRA_22, a_isRA_24, a_isRA_32, a_isA_20, ok_4, ok_5, ok_6, ok_7, ok_9, ok_20, ok_21, ok_30, ok_50, ok_180, ok_192, ok_200, q']
      first
        | exact hp
        | grind
    · rw [if_neg q] at hV
      have q' : v = 0 := Int32.le_antisymm (Int32.not_lt.mp q) g0
      have hg := ih (by clear ih hV hV2 hP hexit; grind) J2 (some (.int v)) (dC_C hJ c2) s2 s3 hV
      clear ih hV hV2 hP hexit hc ap hcJ apJ
      subst q'
      simp only [q100_23, q100_25, q100_27, q100_33, q100_36, as_nil, as_i, as_r, Nat.reduceAdd, Nat.reduceLeDiff, z_eq0, z_eq1, z_or, z_em, Classical.not_not, not_false_eq_true, not_true_eq_false, true_and, and_true, false_and, and_false, and_self, true_implies, false_implies, implies_true, Option.toList_some, Option.toList_none, List.cons_append, List.nil_append, Nat.add_eq_zero_iff, a_nl_i, a_nl_r, a_nl_n, true_or, or_true, eq_self, a_isRA_22, a_isRA_24, a_isRA_32, a_isA_20, ok_4, ok_5, ok_6, ok_7, ok_9, ok_20, ok_21, ok_30, ok_50, ok_180, ok_192, ok_200]
      first
        | exact hg
        | grind
  clear ih hV hV2 hP hc ap hcJ apJ
  rw [q100_3]
  repeat' first
    | with_reducible apply And.intro
    | with_reducible assumption
    | with_reducible intro _
    | refine hexit ?_
    | refine hcall ?_
    | simp only [q100_5, q100_6, q100_9, q100_12, q100_13, q100_14, q100_15, q100_16, q100_17, q100_19, q100_20, q100_39, q100_40, k_14 hS, z_14, as_nil, as_i, as_r, Nat.reduceAdd, Nat.reduceLeDiff, z_eq0, z_eq1, z_or, z_em, Classical.not_not, not_false_eq_true, not_true_eq_false, true_and, and_true, false_and, and_false, and_self, true_implies, false_implies, implies_true, Option.toList_some, Option.toList_none, List.cons_append, List.nil_append, Nat.add_eq_zero_iff, a_nl_i, a_nl_r, a_nl_n, true_or, or_true, eq_self, a_isRA_22, a_isRA_24, a_isRA_32, a_isA_20, ok_4, ok_5, ok_6, ok_7, ok_9, ok_20, ok_21, ok_30, ok_50, ok_180, ok_192, ok_200, ha, a0, e2]
  all_goals ((try clear hexit); (try clear hcall); (try clear hS); (try clear hT); (try clear hT0); grind [ui_ap])
theorem ce_firstBar (hT : cT C K L I R) (hc : cpP C K L I R Y) {a : Nat} {i : Int32} (ap : aaP C K I Y i a) {b f : Int32} (hb : 0 ≤ b ∧ b < Y 0 6) (hf : 0 ≤ f ∧ f ≤ 199) (hP : ∀ J, dC C K L R I J → P (some (.int (ftY Y i b f))) (n, t, K, L, J, R)) : a_does (d + 5) 100 [a_rf (C + 14), a_rf a, .int b, .int f] (n, t, K, L, I, R) P := by
  have hS := hT.s
  have hl := le_firstBar_3 (d := d) (n := n) (t := t) (P := P) hT hc ap hb hf hP 0 (by decide) I none (dC_refl hT) (by decide) (hc.2.2.2.2.2.1 i.toNatClampNeg).1 (by rw [lp_0]; rfl)
  clear hP hc ap
  rw [a_enter1 (M := a_m100) rfl (a_cat_rf (a_cat_rf (a_cat_int (a_cat_int a_cat_nil)))) (show 4 ≤ 6 by decide)]
  show a_at _ (a_xm a_m100) 0 [some (a_rf (C + 14)), some (a_rf a), some (.int b), some (.int f), none, none] [] _ _
  simp only [q100_0, q100_1, as_nil, as_i, as_r, Nat.reduceAdd, Nat.reduceLeDiff, z_eq0, z_eq1, z_or, z_em, Classical.not_not, not_false_eq_true, not_true_eq_false, true_and, and_true, false_and, and_false, and_self, true_implies, false_implies, implies_true, Option.toList_some, Option.toList_none, List.cons_append, List.nil_append, Nat.add_eq_zero_iff, a_nl_i, a_nl_r, a_nl_n, true_or, or_true, eq_self, a_isRA_22, a_isRA_24, a_isRA_32, a_isA_20, ok_4, ok_5, ok_6, ok_7, ok_9, ok_20, ok_21, ok_30, ok_50, ok_180, ok_192, ok_200]
  exact hl
end YW
end
section
/-! giving and taking back: the model's words, the reference -/
section YX1
variable {Y Z : Nat → Nat → Int32}
theorem wtA_b (h : sbE Y Z) {g a b s : Int32} : wtA Z g a b s = wtA Y g a b s := by
  unfold wtA
  rw [hgY_b h, fcA_b h, h 0 41 (by unfold sb; omega)]
theorem fxY_b (h : sbE Y Z) {a b s : Int32} : fxY Z a b s = fxY Y a b s := by
  unfold fxY
  rw [sbE_r h (k := 12) (by omega), sbE_r h (k := 5) (by omega), sbE_r h (k := 11) (by omega), h 0 0 (by unfold sb; omega), sbE_r h (k := 1) (by omega), liY_b h, sbE_r h (k := 13) (by omega)]
/-- who would stand in the i-th SHIFT of a place -/
def sdY (Y : Nat → Nat → Int32) (a b s i : Int32) : Int32 := sfB (fhY Y a b (s + i)) (if 0 ≤ wtA Y 87 a b (s + i) then 2 else 1)
theorem sdY_c {a b s i : Int32} (hn : 0 ≤ Y 0 17 ∧ Y 0 17 ≤ 30) (hl : ∀ j, 0 ≤ Y 10 j ∧ Y 10 j ≤ 4) (hs : sbE Y Z) (hq : ∀ o : Int32, 0 ≤ o → o < 30 → ¬ o = a → Z 20 o.toNatClampNeg = Y 20 o.toNatClampNeg ∧ Z 21 o.toNatClampNeg = Y 21 o.toNatClampNeg ∧ (0 ≤ Y 20 o.toNatClampNeg → ∀ i : Int32, 0 ≤ i → i < Y 10 o.toNatClampNeg → Z 22 (4 * o + i).toNatClampNeg = Y 22 (4 * o + i).toNatClampNeg)) : sdY Z a b s i = sdY Y a b s i := by
  unfold sdY
  rw [fhY_c hn hl (sbE_r hs (by omega)) (hs 0 17 (by unfold sb; omega)) (hs 0 9 (by unfold sb; omega)) (fun o o0 o1 on => ⟨(hq o o0 o1 on).1, (hq o o0 o1 on).2.1, by rw [sbE_r hs (k := 10) (by omega)], (hq o o0 o1 on).2.2⟩), wtA_b hs]
/-- an ASK has a place; has none -/
def puY (Y : Nat → Nat → Int32) (a b s : Int32) : Nat → Nat → Int32 := fun k j => if k = 20 ∧ j = a.toNatClampNeg then b else if k = 21 ∧ j = a.toNatClampNeg then s else if k = 22 ∧ 4 * a.toNatClampNeg ≤ j ∧ j < 4 * a.toNatClampNeg + (Y 10 a.toNatClampNeg).toNatClampNeg then sdY Y a b s (Int32.ofNat (j - 4 * a.toNatClampNeg)) else Y k j
def unY (Y : Nat → Nat → Int32) (a : Int32) : Nat → Nat → Int32 := fun k j => if (k = 20 ∨ k = 21) ∧ j = a.toNatClampNeg then -9 else Y k j
theorem puY_b {a b s : Int32} : sbE Y (puY Y a b s) := fun k j h => by
  unfold sb at h
  unfold puY
  rw [if_neg (by omega), if_neg (by omega), if_neg (by omega)]
theorem unY_b {a : Int32} : sbE Y (unY Y a) := fun k j h => by
  unfold sb at h
  unfold unY
  rw [if_neg (by omega)]
end YX1
/-- cells of the model that aren't looked at here: its reader's, what happened, how often it refused -/
def mk0 (k j : Nat) : Prop := k = 23 ∨ k = 24 ∨ k = 25 ∨ k = 26 ∨ k = 32 ∨ k = 33 ∨ k = 34 ∨ (k = 0 ∧ (j = 35 ∨ (46 ≤ j ∧ j ≤ 51) ∨ j = 54 ∨ j = 56))
def yR (M : Nat) (I J : Nat → Nat → Int32) (Y : Nat → Nat → Int32) : Prop := mR M J ∧ (∀ x j, (x < M ∨ M + 52 < x) → J x j = I x j) ∧ ∀ k j, k ≤ 52 → ¬ mk0 k j → J (M + k) j = Y k j
section YX2
variable {d n t M : Nat} {K L : Nat → Nat} {I I0 J J0 J1 J2 : Nat → Nat → Int32} {R : Nat → Nat → Nat} {P : Option Value → AH → Prop} {f : Nat → Int32} {e : Int32}
theorem moP_S (h : moP M I0) (hC : mS M I0 I) : moP M I := by
  obtain ⟨h1, h2, h3, h4, h5, h6⟩ := h
  have e : ∀ k j, ¬ (k = 32 ∨ k = 33 ∨ k = 34 ∨ k = 0 ∨ k = 22) → (yv M I) k j = yv M I0 k j := fun k j q => hC.2 _ _ (by unfold sC; omega) (by omega)
  have e41 : (yv M I) 0 41 = yv M I0 0 41 := hC.2 _ _ (by unfold sC; omega) (by omega)
  have e2 : I M 2 = I0 M 2 := hC.2 _ _ (by unfold sC; omega) (by omega)
  refine ⟨hC.1, fun k q => ?_, fun x hx => ?_, fun j hj => ?_, fun j hj => ?_, fun b => ?_⟩
  · rw [e 38 k (by omega)] at q
    rw [e 36 k (by omega)]
    exact h2 k q
  · rw [e41] at hx
    have ew : wtY (yv M I) x = wtY (yv M I0) x := funext (fun j => e _ _ (by omega))
    rw [ew, e 29 x (by omega)]
    exact h3 x hx
  · rw [e2] at hj
    have e3 : I (M + 2) j = I0 (M + 2) j := hC.2 _ _ (by unfold sC; omega) (by omega)
    have e4 : I (M + 3) j = I0 (M + 3) j := hC.2 _ _ (by unfold sC; omega) (by omega)
    rw [e3, e4]
    exact h4 j hj
  · rw [e 20 j (by omega), e 21 j (by omega), e 10 j (by omega)]
    exact h5 j hj
  · rw [e 6 b (by omega)]
    exact h6 b
theorem on_sub {a i : Int32} (h : 0 ≤ i) : Int32.ofNat (4 * a.toNatClampNeg + i.toNatClampNeg - 4 * a.toNatClampNeg) = i := by
  rw [show 4 * a.toNatClampNeg + i.toNatClampNeg - 4 * a.toNatClampNeg = i.toNatClampNeg by omega]
  exact (on_cl h).symm
theorem xt_putAt_3 (hS : m_S M K L R) (hm : moP M I) {a b s : Int32} (ha : 0 ≤ a ∧ a < 30) (hb : 0 ≤ b ∧ b ≤ 5) (hP : ∀ J, mR M J → (∀ x j, ¬ sC M x j → J x j = if x = M + 22 ∧ 4 * a.toNatClampNeg ≤ j ∧ j < 4 * a.toNatClampNeg + (I (M + 10) a.toNatClampNeg).toNatClampNeg then sdY (yv M I) a b s (Int32.ofNat (j - 4 * a.toNatClampNeg)) else I x j) → P none (n, t, K, L, (a_ui (a_ui J (M + 20) a.toNatClampNeg b) (M + 21) a.toNatClampNeg s), R)) : ∀ i : Int32, i ≤ 4 → ∀ J, 0 ≤ i → i ≤ I (M + 10) a.toNatClampNeg → mR M J → (∀ x j, ¬ sC M x j → J x j = if x = M + 22 ∧ 4 * a.toNatClampNeg ≤ j ∧ j < 4 * a.toNatClampNeg + i.toNatClampNeg then sdY (yv M I) a b s (Int32.ofNat (j - 4 * a.toNatClampNeg)) else I x j) → a_at (d + 9) (a_xm a_m231) 3 [some (a_rf M), some (.int a), some (.int b), some (.int s), some (.int i)] [] (n, t, K, L, J, R) P := by
  have gl := rg_length hm.1
  have ga := rg_asks hm.1
  have glA := gl a.toNatClampNeg
  refine up_ind 4 (fun i i4 ih => ?_)
  intro J h0 h1 hR hJ
  have el : J (M + 10) a.toNatClampNeg = I (M + 10) a.toNatClampNeg := by rw [hJ _ _ (by unfold sC; omega), if_neg (by omega)]
  generalize ez : I (M + 10) a.toNatClampNeg = z at glA h1 hP ih el
  have hexit : ¬ i < z → P none (n, t, K, L, (a_ui (a_ui J (M + 20) a.toNatClampNeg b) (M + 21) a.toNatClampNeg s), R) := fun w => by
    have e := (lp_end h1 w).2
    subst e
    exact hP J hR hJ
  have hgo : i < z → a_does (d + 9) 232 [a_rf M, .int a, .int b, .int (s + i)] (n, t, K, L, J, R) (fun r h' => a_at (d + 9) (a_xm a_m231) 34 [some (a_rf M), some (.int a), some (.int b), some (.int s), some (.int i)] (r.toList ++ [.int (4 * a + i), a_rf (M + 22)]) h' P) := fun w => by
    obtain ⟨s1, s2, s3, s4⟩ := lp_st h0 w
    have hi : 0 ≤ i ∧ i < 4 := ⟨h0, Int32.lt_of_lt_of_le w glA.2⟩
    obtain ⟨n1, n2, n3⟩ := n4 ha hi
    have hSt : mS M I J := ⟨hR, fun x j p q => by rw [hJ x j p, if_neg (fun e => q e.1)]⟩
    have hmJ := moP_S hm hSt
    have hsb : sbE (yv M I) (yv M J) := fun k j q => by
      unfold sb at q
      exact hSt.2 _ _ (by unfold sC; omega) (by omega)
    refine xt_standFor (d := d) hS hmJ (mC_refl hR) ha hb (fun J2 c2 => ?_)
    have ev : sfB (fhY (yv M J) a b (s + i)) (if 0 ≤ wtA (yv M J) 87 a b (s + i) then 2 else 1) = sdY (yv M I) a b s i := sdY_c (Z := yv M J) ga gl hsb (fun o o0 o1 on => ⟨hSt.2 _ _ (by unfold sC; omega) (by omega), hSt.2 _ _ (by unfold sC; omega) (by omega), fun _ x x0 x1 => by
      have x1 := Int32.lt_of_lt_of_le x1 (gl o.toNatClampNeg).2
      obtain ⟨m1, -, -⟩ := n4 ⟨o0, o1⟩ ⟨x0, x1⟩
      have hx := lt4 ⟨x0, x1⟩
      have hii := lt4 hi
      have hne : ¬ o.toNatClampNeg = a.toNatClampNeg := fun e => on (cl_inj o0 ha.1 e)
      show J (M + 22) _ = I (M + 22) _
      rw [hJ _ _ (by unfold sC; omega), if_neg (by rw [m1]; omega)]⟩)
    rw [ev]
    have hg := ih (by clear ih hP hexit; grind) (a_ui J2 (M + 22) (4 * a + i).toNatClampNeg (sdY (yv M I) a b s i)) s2 s3 (sR_standing c2.1) (fun x j p => by
      rw [ui_ap, n1]
      by_cases e : x = M + 22 ∧ j = 4 * a.toNatClampNeg + i.toNatClampNeg
      · rw [if_pos e, if_pos ⟨e.1, by omega, by omega⟩, e.2, on_sub h0]
      · rw [if_neg e, c2.2 x j p, hJ x j p]
        by_cases e2 : x = M + 22 ∧ 4 * a.toNatClampNeg ≤ j ∧ j < 4 * a.toNatClampNeg + i.toNatClampNeg
        · rw [if_pos e2, if_pos ⟨e2.1, e2.2.1, by omega⟩]
        · rw [if_neg e2, if_neg (fun q => e2 ⟨q.1, q.2.1, by omega⟩)])
    clear ih hP hexit hm hmJ hsb ev hJ hSt c2
    simp only [q231_34, q231_35, q231_38, as_nil, as_i, as_r, Nat.reduceAdd, Nat.reduceLeDiff, z_eq0, z_eq1, z_or, z_em, Classical.not_not, not_false_eq_true, not_true_eq_false, true_and, and_true, false_and, and_false, and_self, true_implies, false_implies, implies_true, Option.toList_some, Option.toList_none, List.cons_append, List.nil_append, Nat.add_eq_zero_iff, a_nl_i, a_nl_r, a_nl_n, true_or, or_true, eq_self, ok_4, ok_5, ok_6, ok_7, ok_9, ok_10, ok_20, ok_21, ok_24, ok_30, ok_48, ok_50, ok_60, ok_80, ok_120, ok_180, ok_192, ok_200, ok_900, ok_1000, ok_84000, mK_standing hS, mL_standing hS]
    first
      | exact hg
      | exact ⟨⟨n2, n3⟩, hg⟩
      | grind
  have a30 : 0 ≤ a ∧ a < 30 := ha
  clear ih hP hm hJ
  rw [q231_3]
  repeat' first
    | with_reducible apply And.intro
    | with_reducible assumption
    | with_reducible intro _
    | refine hexit ?_
    | refine hgo ?_
    | simp only [q231_5, q231_6, q231_9, q231_10, q231_11, q231_14, q231_15, q231_18, q231_19, q231_20, q231_21, q231_23, q231_24, q231_25, q231_26, q231_27, q231_28, q231_30, q231_31, q231_41, q231_42, q231_45, q231_46, q231_47, q231_48, q231_49, q231_52, q231_53, q231_54, q231_55, m_0 hS, m_K hS, mR_length hS, mK_length hS, mL_length hS, mR_standing hS, mK_standing hS, mL_standing hS, mR_atBench hS, mK_atBench hS, mL_atBench hS, mR_atShift hS, mK_atShift hS, mL_atShift hS, as_nil, as_i, as_r, Nat.reduceAdd, Nat.reduceLeDiff, z_eq0, z_eq1, z_or, z_em, Classical.not_not, not_false_eq_true, not_true_eq_false, true_and, and_true, false_and, and_false, and_self, true_implies, false_implies, implies_true, Option.toList_some, Option.toList_none, List.cons_append, List.nil_append, Nat.add_eq_zero_iff, a_nl_i, a_nl_r, a_nl_n, true_or, or_true, eq_self, ok_4, ok_5, ok_6, ok_7, ok_9, ok_10, ok_20, ok_21, ok_24, ok_30, ok_48, ok_50, ok_60, ok_80, ok_120, ok_180, ok_192, ok_200, ok_900, ok_1000, ok_84000, el, a30]
  all_goals ((try clear hexit); (try clear hgo); (try clear hS); grind [ui_ap])
theorem xt_putAt (hS : m_S M K L R) (hm : moP M I) {a b s : Int32} (ha : 0 ≤ a ∧ a < 30) (hb : 0 ≤ b ∧ b ≤ 5) (hs : -9 ≤ s ∧ s ≤ 200) (hP : ∀ J, (∀ x j, ¬ sC M x j → ¬ x = M + 20 → ¬ x = M + 21 → ¬ x = M + 22 → J x j = I x j) → yR M I J (puY (yv M I) a b s) → P none (n, t, K, L, J, R)) : a_does (d + 10) 231 [a_rf M, .int a, .int b, .int s] (n, t, K, L, I, R) P := by
  have gl := rg_length hm.1 a.toNatClampNeg
  have hl := xt_putAt_3 (d := d) (n := n) (t := t) (P := P) hS hm ha hb (s := s) (fun J hR hJ => by
    refine hP _ (fun x j p q1 q2 q3 => by rw [ui_ap, if_neg (fun e => q2 e.1), ui_ap, if_neg (fun e => q1 e.1), hJ x j p, if_neg (fun e => q3 e.1)]) ⟨sR_atShift (sR_atBench hR (by clear hP hJ; grind)) hs, fun x j p => by rw [ui_ap, if_neg (by omega), ui_ap, if_neg (by omega), hJ x j (by unfold sC; omega), if_neg (by omega)], fun k j hk q => ?_⟩
    unfold mk0 at q
    unfold puY
    rw [ui_ap, ui_ap]
    by_cases e1 : k = 20 ∧ j = a.toNatClampNeg
    · rw [if_neg (by omega), if_pos (by omega), if_pos e1]
    · by_cases e2 : k = 21 ∧ j = a.toNatClampNeg
      · rw [if_pos (by omega), if_neg e1, if_pos e2]
      · rw [if_neg (by omega), if_neg (by omega), if_neg e1, if_neg e2, hJ _ _ (by unfold sC; omega)]
        by_cases e3 : k = 22 ∧ 4 * a.toNatClampNeg ≤ j ∧ j < 4 * a.toNatClampNeg + ((yv M I) 10 a.toNatClampNeg).toNatClampNeg
        · rw [if_pos e3, if_pos ⟨by omega, e3.2⟩]
        · rw [if_neg e3, if_neg (fun z => e3 ⟨by omega, z.2⟩)]
          rfl) 0 (by decide) I (by decide) gl.1 hm.1 (fun x j p => by rw [if_neg (by rw [show (0 : Int32).toNatClampNeg = 0 from rfl]; omega)])
  clear hP hm
  rw [a_enter1 (M := a_m231) rfl (a_cat_rf (a_cat_int (a_cat_int (a_cat_int a_cat_nil)))) (show 4 ≤ 5 by decide)]
  show a_at _ (a_xm a_m231) 0 [some (a_rf M), some (.int a), some (.int b), some (.int s), none] [] _ _
  simp only [q231_0, q231_1, as_nil, as_i, as_r, Nat.reduceAdd, Nat.reduceLeDiff, z_eq0, z_eq1, z_or, z_em, Classical.not_not, not_false_eq_true, not_true_eq_false, true_and, and_true, false_and, and_false, and_self, true_implies, false_implies, implies_true, Option.toList_some, Option.toList_none, List.cons_append, List.nil_append, Nat.add_eq_zero_iff, a_nl_i, a_nl_r, a_nl_n, true_or, or_true, eq_self, ok_4, ok_5, ok_6, ok_7, ok_9, ok_10, ok_20, ok_21, ok_24, ok_30, ok_48, ok_50, ok_60, ok_80, ok_120, ok_180, ok_192, ok_200, ok_900, ok_1000, ok_84000]
  exact hl
theorem xt_giveTo0 (hS : m_S M K L R) (hm : moP M I) (hv : I M 35 ≤ 83996) {a b s : Int32} (ha : 0 ≤ a ∧ a < 30) (hb : 0 ≤ b ∧ b ≤ 5) (hs : -9 ≤ s ∧ s ≤ 200) (hP : ∀ J, yR M I J (puY (yv M I) a b s) → P none (n, t, K, L, J, R)) : a_does (d + 11) 230 [a_rf M, .int a, .int b, .int s] (n, t, K, L, I, R) P := by
  rw [a_enter1 (M := a_m230) rfl (a_cat_rf (a_cat_int (a_cat_int (a_cat_int a_cat_nil)))) (show 4 ≤ 5 by decide)]
  show a_at _ (a_xm a_m230) 0 [some (a_rf M), some (.int a), some (.int b), some (.int s), none] [] _ _
  simp only [q230_0, q230_1, q230_2, q230_3, q230_4, m_0 hS, m_K hS, as_nil, as_i, as_r, Nat.reduceAdd, Nat.reduceLeDiff, z_eq0, z_eq1, z_or, z_em, Classical.not_not, not_false_eq_true, not_true_eq_false, true_and, and_true, false_and, and_false, and_self, true_implies, false_implies, implies_true, Option.toList_some, Option.toList_none, List.cons_append, List.nil_append, Nat.add_eq_zero_iff, a_nl_i, a_nl_r, a_nl_n, true_or, or_true, eq_self, ok_4, ok_5, ok_6, ok_7, ok_9, ok_10, ok_20, ok_21, ok_24, ok_30, ok_48, ok_50, ok_60, ok_80, ok_120, ok_180, ok_192, ok_200, ok_900, ok_1000, ok_84000]
  refine xt_putAt (d := d) hS hm ha hb hs (fun J hf hy => ?_)
  simp only [q230_7, q230_8, as_nil, as_i, as_r, Nat.reduceAdd, Nat.reduceLeDiff, z_eq0, z_eq1, z_or, z_em, Classical.not_not, not_false_eq_true, not_true_eq_false, true_and, and_true, false_and, and_false, and_self, true_implies, false_implies, implies_true, Option.toList_some, Option.toList_none, List.cons_append, List.nil_append, Nat.add_eq_zero_iff, a_nl_i, a_nl_r, a_nl_n, true_or, or_true, eq_self, ok_4, ok_5, ok_6, ok_7, ok_9, ok_10, ok_20, ok_21, ok_24, ok_30, ok_48, ok_50, ok_60, ok_80, ok_120, ok_180, ok_192, ok_200, ok_900, ok_1000, ok_84000]
  have ev0 : J M 35 = I M 35 := hf _ _ (by unfold sC; omega) (by omega) (by omega) (by omega)
  have hl := rg_length hy.1 a.toNatClampNeg
  have hv0 := rg_events hy.1
  refine lp_giveTo_10 hS ha (by rw [ev0]; exact hv) hv0.1 (fun J2 hq => ?_) 0 (by decide) J (by decide) hl.1 (hq_refl hy.1)
  refine hP J2 ⟨hq.1, fun x j p => by rw [hq.2.1 x j (by unfold evC; omega)]; exact hy.2.1 x j p, fun k j hk q => ?_⟩
  rw [hq.2.1 _ _ (by unfold mk0 at q; unfold evC; omega)]
  exact hy.2.2 k j hk q
theorem xt_takeFrom0 (hS : m_S M K L R) (hR : mR M I) (hv : I M 35 ≤ 83996) {a : Int32} (ha : 0 ≤ a ∧ a < 30) (hP : ∀ J, yR M I J (unY (yv M I) a) → P none (n, t, K, L, J, R)) : a_does (d + 2) 186 [a_rf M, .int a] (n, t, K, L, I, R) P := by
  have hl := rg_length hR a.toNatClampNeg
  have hv0 := rg_events hR
  rw [a_enter1 (M := a_m186) rfl (a_cat_rf (a_cat_int a_cat_nil)) (show 2 ≤ 3 by decide)]
  show a_at _ (a_xm a_m186) 0 [some (a_rf M), some (.int a), none] [] _ _
  simp only [q186_0, q186_1, as_nil, as_i, as_r, Nat.reduceAdd, Nat.reduceLeDiff, z_eq0, z_eq1, z_or, z_em, Classical.not_not, not_false_eq_true, not_true_eq_false, true_and, and_true, false_and, and_false, and_self, true_implies, false_implies, implies_true, Option.toList_some, Option.toList_none, List.cons_append, List.nil_append, Nat.add_eq_zero_iff, a_nl_i, a_nl_r, a_nl_n, true_or, or_true, eq_self, ok_4, ok_5, ok_6, ok_7, ok_9, ok_10, ok_20, ok_21, ok_24, ok_30, ok_48, ok_50, ok_60, ok_80, ok_120, ok_180, ok_192, ok_200, ok_900, ok_1000, ok_84000]
  refine lp_takeFrom_2 hS ha hv hv0.1 (fun J hq => ?_) 0 (by decide) I (by decide) hl.1 (hq_refl hR)
  refine hP _ ⟨sR_atShift (sR_atBench hq.1 (by decide)) (by decide), fun x j p => by rw [ui_ap, if_neg (by omega), ui_ap, if_neg (by omega), hq.2.1 x j (by unfold evC; omega)], fun k j hk q => ?_⟩
  unfold unY
  unfold mk0 at q
  rw [ui_ap, ui_ap]
  by_cases e1 : (k = 20 ∨ k = 21) ∧ j = a.toNatClampNeg
  · rw [if_pos e1]
    by_cases e2 : k = 20
    · rw [if_neg (by omega), if_pos (by omega)]
    · rw [if_pos (by omega)]
  · rw [if_neg e1, if_neg (by omega), if_neg (by omega), hq.2.1 _ _ (by unfold evC; omega)]
    rfl
/-- with the row of events -/
theorem xt_giveTo (hS : m_S M K L R) (hm : moP M I) {c : Nat} (hF : mF M c I0 I) (hc : c + 4 ≤ 84000) {a b s : Int32} (ha : 0 ≤ a ∧ a < 30) (hb : 0 ≤ b ∧ b ≤ 5) (hs : -9 ≤ s ∧ s ≤ 200) (hP : ∀ J, mF M (c + 4) I0 J → yR M I J (puY (yv M I) a b s) → P none (n, t, K, L, J, R)) : a_does (d + 11) 230 [a_rf M, .int a, .int b, .int s] (n, t, K, L, I, R) P := by
  have h1 := ct_giveTo (d := d) hS hF hc ha hb hs (P := fun r h' => r = none ∧ ∃ J, h' = (n, t, K, L, J, R) ∧ mF M (c + 4) I0 J) (fun J q _ _ => ⟨rfl, J, rfl, q⟩)
  have h2 := xt_giveTo0 (d := d) hS hm (mE_ev hF.2 hF.1.1 hc) ha hb hs (P := fun r h' => r = none ∧ ∃ J, h' = (n, t, K, L, J, R) ∧ yR M I J (puY (yv M I) a b s)) (fun J q => ⟨rfl, J, rfl, q⟩)
  refine (does_and h1 h2).weaken (fun r h' q => ?_)
  obtain ⟨⟨e1, J, e2, q1⟩, ⟨-, J2, e3, q2⟩⟩ := q
  subst e1
  subst e2
  cases e3
  exact hP J q1 q2
theorem xt_takeFrom (hS : m_S M K L R) {c : Nat} (hF : mF M c I0 I) (hc : c + 4 ≤ 84000) {a : Int32} (ha : 0 ≤ a ∧ a < 30) (hP : ∀ J, mF M (c + 4) I0 J → (a < I M 17 → 0 ≤ I (M + 20) a.toNatClampNeg → mF M c I0 J) → yR M I J (unY (yv M I) a) → P none (n, t, K, L, J, R)) : a_does (d + 2) 186 [a_rf M, .int a] (n, t, K, L, I, R) P := by
  have h1 := ct_takeFrom (d := d) hS hF hc ha (P := fun r h' => r = none ∧ ∃ J, h' = (n, t, K, L, J, R) ∧ mF M (c + 4) I0 J ∧ (a < I M 17 → 0 ≤ I (M + 20) a.toNatClampNeg → mF M c I0 J)) (fun J q q2 _ _ => ⟨rfl, J, rfl, q, q2⟩)
  have h2 := xt_takeFrom0 (d := d) hS hF.1.1 (mE_ev hF.2 hF.1.1 hc) ha (P := fun r h' => r = none ∧ ∃ J, h' = (n, t, K, L, J, R) ∧ yR M I J (unY (yv M I) a)) (fun J q => ⟨rfl, J, rfl, q⟩)
  refine (does_and h1 h2).weaken (fun r h' q => ?_)
  obtain ⟨⟨e1, J, e2, q1, q3⟩, ⟨-, J2, e3, q2⟩⟩ := q
  subst e1
  subst e2
  cases e3
  exact hP J q1 q3 q2
end YX2
end

/-! hours lost, what is owed -/
/-- whether an hour is lost, hours lost of a SHIFT, of a place -/
def lkY (Y : Nat → Nat → Int32) (h : Int32) : Int32 := lhu (Y 2) (fun j => Y 2 j + Y 3 j - 1) (Y 4) (Y 0 0) h (Y 0 2).toNatClampNeg 0
def liY (Y : Nat → Nat → Int32) (s : Int32) : Int32 := lsu (lkY Y) (8 * s) 8 0 0
def loI (Y : Nat → Nat → Int32) (s : Int32) : Nat → Int32 → Int32 → Int32
  | 0, _, p => p
  | k + 1, i, p => loI Y s k (i + 1) (p + liY Y (s + i))
def loY (Y : Nat → Nat → Int32) (a : Int32) : Int32 := if 0 ≤ Y 20 a.toNatClampNeg then loI Y (Y 21 a.toNatClampNeg) (Y 10 a.toNatClampNeg).toNatClampNeg 0 0 else 0
/-- the text that counts -/
def coI (Y : Nat → Nat → Int32) (s : Int32) : Nat → Int32 → Int32 → Int32
  | 0, _, b => b
  | k + 1, i, b => coI Y s k (i + 1) (if (wtY Y i.toNatClampNeg 0 = 79 ∧ Y 30 i.toNatClampNeg ≤ s ∧ s < Y 31 i.toNatClampNeg) ∧ (b < 0 ∨ Y 30 b.toNatClampNeg ≤ Y 30 i.toNatClampNeg) then i else b)
def coY (Y : Nat → Nat → Int32) (s : Int32) : Int32 := coI Y s (Y 0 41).toNatClampNeg 0 (-1)
/-- the facts of an ASK at a place -/
def fcA (Y : Nat → Nat → Int32) (a b s l : Int32) : Nat → Int32 := fcY Y a.toNatClampNeg (mkY (cmY Y) (hsY Y) a) b s l
def owC (v n : Int32) : Int32 := if v < 0 then 0 else if n < v then n else v
def owY (Y : Nat → Nat → Int32) (a l : Int32) : Int32 := if coY Y (Y 21 a.toNatClampNeg) < 0 then l / 8 else owC (wvY Y (coY Y (Y 21 a.toNatClampNeg)).toNatClampNeg (fcA Y a (Y 20 a.toNatClampNeg) (Y 21 a.toNatClampNeg) l)) (Y 10 a.toNatClampNeg)
def ohY (Y : Nat → Nat → Int32) (a : Int32) : Int32 := if 0 ≤ Y 20 a.toNatClampNeg then owY Y a (loY Y a) else 0
/-- places are inside the ring -/
def inP (Y : Nat → Nat → Int32) : Prop := ∀ a : Nat, a < 30 → 0 ≤ Y 20 a → (0 ≤ Y 21 a ∧ Y 21 a ≤ 200 ∧ Y 21 a + Y 10 a ≤ 200) ∧ Y 20 a ≤ 5
/-- cells that no place hangs in and that what bars looks at -/
def sb (k j : Nat) : Prop := (k = 0 ∧ (j = 0 ∨ j = 2 ∨ j = 6 ∨ j = 9 ∨ j = 11 ∨ j = 17 ∨ j = 41)) ∨ (1 ≤ k ∧ k ≤ 19) ∨ (28 ≤ k ∧ k ≤ 31) ∨ (35 ≤ k ∧ k ≤ 38)
def sbE (Y Z : Nat → Nat → Int32) : Prop := ∀ k j, sb k j → Z k j = Y k j
section YPB
variable {Y Z : Nat → Nat → Int32}
theorem sbE_r (h : sbE Y Z) {k : Nat} (hk : (1 ≤ k ∧ k ≤ 19) ∨ (28 ≤ k ∧ k ≤ 31) ∨ (35 ≤ k ∧ k ≤ 38)) : Z k = Y k := funext (fun j => h k j (by unfold sb; omega))
theorem cmY_b (h : sbE Y Z) : cmY Z = cmY Y := cmY_eq (fun k => by rw [sbE_r h (k := 38) (by omega)]) (fun k => by rw [sbE_r h (k := 36) (by omega)])
theorem hsY_b (h : sbE Y Z) : hsY Z = hsY Y := by
  funext r
  unfold hsY
  rw [h 0 11 (by unfold sb; omega), h 0 17 (by unfold sb; omega), cmY_b h]
theorem wt_b (h : sbE Y Z) (x : Nat) : wtY Z x = wtY Y x := by
  unfold wtY
  rw [sbE_r h (k := 28) (by omega)]
theorem wv_b (h : sbE Y Z) {x : Nat} {fc : Nat → Int32} : wvY Z x fc = wvY Y x fc := by
  unfold wvY
  rw [wt_b h, sbE_r h (k := 29) (by omega)]
theorem hgY_b (h : sbE Y Z) {g s : Int32} {fc : Nat → Int32} : ∀ (k : Nat) (i : Int32), hgY Z g s fc k i = hgY Y g s fc k i := by
  intro k
  induction k with
  | zero => intro i; rfl
  | succ k ih =>
    intro i
    unfold hgY
    rw [wt_b h, wv_b h, sbE_r h (k := 30) (by omega), sbE_r h (k := 31) (by omega), ih]
theorem fcA_b (h : sbE Y Z) {a b s l : Int32} : fcA Z a b s l = fcA Y a b s l := by
  unfold fcA fcY
  rw [cmY_b h, hsY_b h, sbE_r h (k := 7) (by omega), sbE_r h (k := 8) (by omega), sbE_r h (k := 9) (by omega), sbE_r h (k := 10) (by omega), sbE_r h (k := 15) (by omega)]
theorem lkY_b (h : sbE Y Z) : lkY Z = lkY Y := by
  funext x
  unfold lkY
  rw [sbE_r h (k := 2) (by omega), sbE_r h (k := 3) (by omega), sbE_r h (k := 4) (by omega), h 0 0 (by unfold sb; omega), h 0 2 (by unfold sb; omega)]
theorem liY_b (h : sbE Y Z) : liY Z = liY Y := by
  funext s
  unfold liY
  rw [lkY_b h]
theorem lt4 {i : Int32} (h : 0 ≤ i ∧ i < 4) : i.toNatClampNeg < 4 := show _ < (4 : Int32).toNatClampNeg from cl_lt h.1 h.2
theorem fbI_c {s o m : Int32} (hm : m ≤ 4) (h9 : Z 0 9 = Y 0 9) (h21 : Z 21 o.toNatClampNeg = Y 21 o.toNatClampNeg) (h22 : ∀ i : Int32, 0 ≤ i → i < m → Z 22 (4 * o + i).toNatClampNeg = Y 22 (4 * o + i).toNatClampNeg) : ∀ (k : Nat) (i p : Int32), 0 ≤ i → i ≤ m → i.toNatClampNeg + k ≤ m.toNatClampNeg → fbI Z s o k i p = fbI Y s o k i p := by
  intro k
  induction k with
  | zero => intro i p _ _ _; rfl
  | succ k ih =>
    intro i p h0 h4 h1
    have w : i < m := cl_lt2 h0 (Int32.le_trans h0 h4) (by omega)
    obtain ⟨s1, s2, s3, s4⟩ := lp_st h0 w
    unfold fbI
    rw [h9, h21, h22 i h0 w, ih _ _ s2 s3 (by omega)]
theorem fbO_c {a s : Int32} (hl : ∀ j, 0 ≤ Y 10 j ∧ Y 10 j ≤ 4) (h9 : Z 0 9 = Y 0 9) (hq : ∀ o : Int32, 0 ≤ o → o < 30 → ¬ o = a → Z 20 o.toNatClampNeg = Y 20 o.toNatClampNeg ∧ Z 21 o.toNatClampNeg = Y 21 o.toNatClampNeg ∧ Z 10 o.toNatClampNeg = Y 10 o.toNatClampNeg ∧ (0 ≤ Y 20 o.toNatClampNeg → ∀ i : Int32, 0 ≤ i → i < Y 10 o.toNatClampNeg → Z 22 (4 * o + i).toNatClampNeg = Y 22 (4 * o + i).toNatClampNeg)) : ∀ (k : Nat) (o p : Int32), 0 ≤ o → o ≤ 30 → o.toNatClampNeg + k ≤ 30 → fbO Z a s k o p = fbO Y a s k o p := by
  intro k
  induction k with
  | zero => intro o p _ _ _; rfl
  | succ k ih =>
    intro o p h0 h30 h1
    have w : o < 30 := cl_lt2 h0 (by decide) (by rw [show (30 : Int32).toNatClampNeg = 30 from rfl]; omega)
    obtain ⟨s1, s2, s3, s4⟩ := lp_st h0 w
    unfold fbO
    by_cases e : o = a
    · rw [if_neg (fun z => z.2 e), if_neg (fun z => z.2 e), ih _ _ s2 s3 (by omega)]
    · obtain ⟨q1, q2, q10, q3⟩ := hq o h0 w e
      by_cases c : 0 ≤ Y 20 o.toNatClampNeg
      · rw [q1, q10, fbI_c (hl o.toNatClampNeg).2 h9 q2 (q3 c) _ 0 _ (by decide) (hl o.toNatClampNeg).1 (by rw [show (0 : Int32).toNatClampNeg = 0 from rfl]; omega), ih _ _ s2 s3 (by omega)]
      · rw [q1, if_neg (fun z => c z.1), if_neg (fun z => c z.1), ih _ _ s2 s3 (by omega)]
theorem fhY_c {a b s : Int32} (hn : 0 ≤ Y 0 17 ∧ Y 0 17 ≤ 30) (hl : ∀ j, 0 ≤ Y 10 j ∧ Y 10 j ≤ 4) (h6 : Z 6 = Y 6) (h17 : Z 0 17 = Y 0 17) (h9 : Z 0 9 = Y 0 9) (hq : ∀ o : Int32, 0 ≤ o → o < 30 → ¬ o = a → Z 20 o.toNatClampNeg = Y 20 o.toNatClampNeg ∧ Z 21 o.toNatClampNeg = Y 21 o.toNatClampNeg ∧ Z 10 o.toNatClampNeg = Y 10 o.toNatClampNeg ∧ (0 ≤ Y 20 o.toNatClampNeg → ∀ i : Int32, 0 ≤ i → i < Y 10 o.toNatClampNeg → Z 22 (4 * o + i).toNatClampNeg = Y 22 (4 * o + i).toNatClampNeg)) : fhY Z a b s = fhY Y a b s := by
  have h30 := cl_le0 hn.1 hn.2
  rw [show (30 : Int32).toNatClampNeg = 30 from rfl] at h30
  unfold fhY
  rw [h17, h6, fbO_c hl h9 hq _ 0 0 (by decide) (by decide) (by rw [show (0 : Int32).toNatClampNeg = 0 from rfl]; omega)]
theorem loI_c (h : liY Z = liY Y) {s : Int32} : ∀ (k : Nat) (i p : Int32), loI Z s k i p = loI Y s k i p := by
  intro k
  induction k with
  | zero => intro i p; rfl
  | succ k ih =>
    intro i p
    unfold loI
    rw [h, ih]
theorem loY_c (h : sbE Y Z) (h20 : Z 20 = Y 20) (h21 : Z 21 = Y 21) {a : Int32} : loY Z a = loY Y a := by
  unfold loY
  rw [h20, h21, sbE_r h (k := 10) (by omega), loI_c (liY_b h)]
end YPB
section YP
variable {d n t M : Nat} {K L : Nat → Nat} {I I0 J J0 J1 J2 : Nat → Nat → Int32} {R : Nat → Nat → Nat} {P : Option Value → AH → Prop} {f : Nat → Int32} {e : Int32}
theorem mC_sb (hC : mC M I0 I) : sbE (yv M I0) (yv M I) := fun k j p => hC.2 _ _ (by unfold sb at p; unfold sC; omega)
theorem mC_row (hC : mC M I0 I) {k : Nat} (hk : 20 ≤ k ∧ k ≤ 22) : yv M I k = yv M I0 k := funext (fun j => hC.2 _ _ (by unfold sC; omega))
theorem a_lt30 {a : Int32} (h : 0 ≤ a ∧ a < 30) : a.toNatClampNeg < 30 := show _ < (30 : Int32).toNatClampNeg from cl_lt h.1 h.2
theorem xT_two {f : Nat → Int32} {e : Int32} (hs : (xT f e).1 = true) : (2 : Int32) ≤ e := by
  refine Classical.byContradiction (fun w => ?_)
  unfold xT at hs
  by_cases c0 : 0 < e ∧ (f 0 = 66 ∨ f 0 = 87 ∨ f 0 = 79)
  · rw [if_pos c0] at hs
    by_cases c1 : 1 < e ∧ f 1 = 58
    · have := c1.1
      clear hs c0 c1
      grind
    · rw [if_neg c1] at hs
      exact absurd hs Bool.false_ne_true
  · rw [if_neg c0] at hs
    exact absurd hs Bool.false_ne_true
theorem xt_lossOf_4 (hS : m_S M K L R) (hR : mR M I) (hp : tpP M I) (hi : inP (yv M I)) {a : Int32} (ha : 0 ≤ a ∧ a < 30) (hb : 0 ≤ I (M + 20) a.toNatClampNeg) {V : Int32} (hP : P (some (.int V)) (n, t, K, L, I, R)) : ∀ i : Int32, i ≤ 4 → ∀ v, 0 ≤ i → i ≤ I (M + 10) a.toNatClampNeg → loI (yv M I) (I (M + 21) a.toNatClampNeg) ((I (M + 10) a.toNatClampNeg).toNatClampNeg - i.toNatClampNeg) i v = V → a_at (d + 1) (a_xm a_m189) 4 [some (a_rf M), some (.int a), some (.int v), some (.int i)] [] (n, t, K, L, I, R) P := by
  have gl := rg_length hR a.toNatClampNeg
  have gs := (hi _ (a_lt30 ha) hb).1
  replace gs : 0 ≤ I (M + 21) a.toNatClampNeg ∧ I (M + 21) a.toNatClampNeg ≤ 200 ∧ I (M + 21) a.toNatClampNeg + I (M + 10) a.toNatClampNeg ≤ 200 := gs
  refine up_ind 4 (fun i i4 ih => ?_)
  intro v h0 h1 hV
  have hexit : ¬ i < I (M + 10) a.toNatClampNeg → P (some (.int v)) (n, t, K, L, I, R) := fun w => by
    rw [(lp_end h1 w).1] at hV
    rw [show v = V from hV]
    exact hP
  have hgo : i < I (M + 10) a.toNatClampNeg → a_at (d + 1) (a_xm a_m189) 4 [some (a_rf M), some (.int a), some (.int (v + liY (yv M I) (I (M + 21) a.toNatClampNeg + i))), some (.int (i + 1))] [] (n, t, K, L, I, R) P := fun w => by
    obtain ⟨s1, s2, s3, s4⟩ := lp_st h0 w
    rw [s1] at hV
    exact ih (by clear ih hV hexit hP; grind) _ s2 s3 hV
  have hs : i < I (M + 10) a.toNatClampNeg → 0 ≤ I (M + 21) a.toNatClampNeg + i ∧ I (M + 21) a.toNatClampNeg + i ≤ 199 := fun w => by
    clear ih hV hexit hgo hP
    grind
  have hcall : i < I (M + 10) a.toNatClampNeg → a_does (d + 1) 177 [a_rf M, .int (I (M + 21) a.toNatClampNeg + i), .int (I M 0)] (n, t, K, L, I, R) (fun r h' => a_at (d + 1) (a_xm a_m189) 39 [some (a_rf M), some (.int a), some (.int v), some (.int i)] (r.toList ++ [.int v]) h' P) := fun w => by
    refine ce_lostIn hS hR hp (hs w) ?_
    have hgo := hgo w
    clear ih hV hexit hP
    simp only [q189_39, q189_40, q189_41, q189_44, as_nil, as_i, as_r, Nat.reduceAdd, Nat.reduceLeDiff, z_eq0, z_eq1, z_or, z_em, Classical.not_not, not_false_eq_true, not_true_eq_false, true_and, and_true, false_and, and_false, and_self, true_implies, false_implies, implies_true, Option.toList_some, Option.toList_none, List.cons_append, List.nil_append, Nat.add_eq_zero_iff, a_nl_i, a_nl_r, a_nl_n, true_or, or_true, eq_self, ok_4, ok_5, ok_6, ok_7, ok_9, ok_10, ok_20, ok_21, ok_24, ok_30, ok_48, ok_50, ok_60, ok_80, ok_120, ok_180, ok_192, ok_200, ok_900, ok_1000, ok_84000]
    exact hgo
  clear ih hV hP hgo hp hi
  rw [q189_4]
  repeat' first
    | with_reducible apply And.intro
    | with_reducible assumption
    | with_reducible intro _
    | refine hexit ?_
    | refine hcall ?_
    | simp only [q189_5, q189_6, q189_9, q189_10, q189_11, q189_14, q189_15, q189_16, q189_19, q189_22, q189_23, q189_24, q189_25, q189_28, q189_29, q189_30, q189_31, q189_32, q189_33, q189_36, q189_47, q189_48, m_0 hS, m_K hS, mR_length hS, mK_length hS, mL_length hS, mR_atShift hS, mK_atShift hS, mL_atShift hS, sp_hasPlace hS, as_nil, as_i, as_r, Nat.reduceAdd, Nat.reduceLeDiff, z_eq0, z_eq1, z_or, z_em, Classical.not_not, not_false_eq_true, not_true_eq_false, true_and, and_true, false_and, and_false, and_self, true_implies, false_implies, implies_true, Option.toList_some, Option.toList_none, List.cons_append, List.nil_append, Nat.add_eq_zero_iff, a_nl_i, a_nl_r, a_nl_n, true_or, or_true, eq_self, ok_4, ok_5, ok_6, ok_7, ok_9, ok_10, ok_20, ok_21, ok_24, ok_30, ok_48, ok_50, ok_60, ok_80, ok_120, ok_180, ok_192, ok_200, ok_900, ok_1000, ok_84000]
  all_goals ((try clear hS); (try clear hR); grind [ui_ap])
theorem xt_lossOf (hS : m_S M K L R) (hR : mR M I) (hp : tpP M I) (hi : inP (yv M I)) {a : Int32} (ha : 0 ≤ a ∧ a < 30) (hP : P (some (.int (loY (yv M I) a))) (n, t, K, L, I, R)) : a_does (d + 2) 189 [a_rf M, .int a] (n, t, K, L, I, R) P := by
  have gl := rg_length hR a.toNatClampNeg
  unfold loY at hP
  by_cases c : 0 ≤ I (M + 20) a.toNatClampNeg
  · rw [if_pos (show 0 ≤ (yv M I) 20 a.toNatClampNeg from c)] at hP
    have hl := xt_lossOf_4 (d := d) hS hR hp hi ha c hP 0 (by decide) 0 (by decide) gl.1 (by rw [lp_0]; rfl)
    rw [a_enter1 (M := a_m189) rfl (a_cat_rf (a_cat_int a_cat_nil)) (show 2 ≤ 4 by decide)]
    show a_at _ (a_xm a_m189) 0 [some (a_rf M), some (.int a), none, none] [] _ _
    simp only [q189_0, q189_1, q189_2, q189_3, as_nil, as_i, as_r, Nat.reduceAdd, Nat.reduceLeDiff, z_eq0, z_eq1, z_or, z_em, Classical.not_not, not_false_eq_true, not_true_eq_false, true_and, and_true, false_and, and_false, and_self, true_implies, false_implies, implies_true, Option.toList_some, Option.toList_none, List.cons_append, List.nil_append, Nat.add_eq_zero_iff, a_nl_i, a_nl_r, a_nl_n, true_or, or_true, eq_self, ok_4, ok_5, ok_6, ok_7, ok_9, ok_10, ok_20, ok_21, ok_24, ok_30, ok_48, ok_50, ok_60, ok_80, ok_120, ok_180, ok_192, ok_200, ok_900, ok_1000, ok_84000]
    exact hl
  · rw [if_neg (show ¬ 0 ≤ (yv M I) 20 a.toNatClampNeg from c)] at hP
    rw [a_enter1 (M := a_m189) rfl (a_cat_rf (a_cat_int a_cat_nil)) (show 2 ≤ 4 by decide)]
    show a_at _ (a_xm a_m189) 0 [some (a_rf M), some (.int a), none, none] [] _ _
    simp only [q189_0, q189_1, q189_2, q189_3, as_nil, as_i, as_r, Nat.reduceAdd, Nat.reduceLeDiff, z_eq0, z_eq1, z_or, z_em, Classical.not_not, not_false_eq_true, not_true_eq_false, true_and, and_true, false_and, and_false, and_self, true_implies, false_implies, implies_true, Option.toList_some, Option.toList_none, List.cons_append, List.nil_append, Nat.add_eq_zero_iff, a_nl_i, a_nl_r, a_nl_n, true_or, or_true, eq_self, ok_4, ok_5, ok_6, ok_7, ok_9, ok_10, ok_20, ok_21, ok_24, ok_30, ok_48, ok_50, ok_60, ok_80, ok_120, ok_180, ok_192, ok_200, ok_900, ok_1000, ok_84000]
    rw [q189_4]
    simp only [q189_5, q189_6, q189_9, q189_10, q189_11, q189_14, q189_15, q189_16, q189_19, q189_47, q189_48, m_0 hS, m_K hS, mR_length hS, mK_length hS, mL_length hS, sp_hasPlace hS, as_nil, as_i, as_r, Nat.reduceAdd, Nat.reduceLeDiff, z_eq0, z_eq1, z_or, z_em, Classical.not_not, not_false_eq_true, not_true_eq_false, true_and, and_true, false_and, and_false, and_self, true_implies, false_implies, implies_true, Option.toList_some, Option.toList_none, List.cons_append, List.nil_append, Nat.add_eq_zero_iff, a_nl_i, a_nl_r, a_nl_n, true_or, or_true, eq_self, ok_4, ok_5, ok_6, ok_7, ok_9, ok_10, ok_20, ok_21, ok_24, ok_30, ok_48, ok_50, ok_60, ok_80, ok_120, ok_180, ok_192, ok_200, ok_900, ok_1000, ok_84000, c]
    clear hp hi hR
    grind
theorem xt_owedOf_21 (hS : m_S M K L R) (hC : mC M I0 I) {a l s : Int32} (ha : 0 ≤ a ∧ a < 30) (hs : (yv M I0) 21 a.toNatClampNeg = s) {V : Int32} (hP : ∀ i, a_at (d + 6) (a_xm a_m190) 80 [some (a_rf M), some (.int a), some (.int l), some (.int V), some (.int i)] [] (n, t, K, L, I, R) P) : ∀ i : Int32, i ≤ 20 → ∀ b, 0 ≤ i → i ≤ (yv M I0) 0 41 → b < (yv M I0) 0 41 → coI (yv M I0) s (((yv M I0) 0 41).toNatClampNeg - i.toNatClampNeg) i b = V → a_at (d + 6) (a_xm a_m190) 21 [some (a_rf M), some (.int a), some (.int l), some (.int b), some (.int i)] [] (n, t, K, L, I, R) P := by
  have et : I M 41 = (yv M I0) 0 41 := hC.2 _ _ (by unfold sC; omega)
  have ew : ∀ j, I (M + 28) j = (yv M I0) 28 j := fun j => hC.2 _ _ (by unfold sC; omega)
  have e30 : ∀ j, I (M + 30) j = (yv M I0) 30 j := fun j => hC.2 _ _ (by unfold sC; omega)
  have e31 : ∀ j, I (M + 31) j = (yv M I0) 31 j := fun j => hC.2 _ _ (by unfold sC; omega)
  have e21 : I (M + 21) a.toNatClampNeg = s := (hC.2 _ _ (by unfold sC; omega)).trans hs
  have gt := rg_texts hC.1
  rw [et] at gt
  generalize ez : (yv M I0) 0 41 = z at et gt
  refine up_ind 20 (fun i i20 ih => ?_)
  intro b h0 h1 hb hV
  have hexit : ¬ i < z → a_at (d + 6) (a_xm a_m190) 80 [some (a_rf M), some (.int a), some (.int l), some (.int b), some (.int i)] [] (n, t, K, L, I, R) P := fun w => by
    rw [(lp_end h1 w).1] at hV
    rw [show b = V from hV]
    exact hP i
  have hgo : i < z → ∀ b2, b2 = (if (wtY (yv M I0) i.toNatClampNeg 0 = 79 ∧ (yv M I0) 30 i.toNatClampNeg ≤ s ∧ s < (yv M I0) 31 i.toNatClampNeg) ∧ (b < 0 ∨ (yv M I0) 30 b.toNatClampNeg ≤ (yv M I0) 30 i.toNatClampNeg) then i else b) → a_at (d + 6) (a_xm a_m190) 21 [some (a_rf M), some (.int a), some (.int l), some (.int b2), some (.int (i + 1))] [] (n, t, K, L, I, R) P := fun w b2 e2 => by
    obtain ⟨s1, s2, s3, s4⟩ := lp_st h0 w
    rw [s1] at hV
    have hb2 : b2 < z := by
      rw [e2]
      split
      · exact w
      · exact hb
    subst e2
    exact ih (by clear ih hV hexit hP; grind) _ s2 s3 hb2 hV
  have h30 : i < z → a_at (d + 6) (a_xm a_m190) 30 [some (a_rf M), some (.int a), some (.int l), some (.int b), some (.int i)] [] (n, t, K, L, I, R) P := fun w => by
    have i2 : 0 ≤ i ∧ i < 20 := ⟨h0, by clear ih hV hexit hgo hP; grind⟩
    have hgo := hgo w
    obtain ⟨n1, n2, n3, n4⟩ := n50 i2 (i := 0) ⟨by decide, by decide⟩
    have e0 : I (M + 28) (50 * i).toNatClampNeg = wtY (yv M I0) i.toNatClampNeg 0 := by
      rw [n2, ew]
      rfl
    have n4' : 50 * i < 1000 := by
      clear ih hV hexit hgo hP e0 ew e30 e31
      grind
    have b20 : ¬ b < 0 → 0 ≤ b ∧ b < 20 := fun q => ⟨Int32.not_lt.mp q, by clear ih hV hexit hgo hP e0 ew e30 e31; grind⟩
    have n10 : ¬ (1 : Int32) = 0 := by decide
    clear ih hV hexit hP
    simp only [q190_30, q190_31, q190_33, q190_35, q190_36, q190_39, q190_40, q190_41, m_0 hS, m_K hS, mR_atShift hS, mK_atShift hS, mL_atShift hS, sp_isInForce hS, as_nil, as_i, as_r, Nat.reduceAdd, Nat.reduceLeDiff, z_eq0, z_eq1, z_or, z_em, Classical.not_not, not_false_eq_true, not_true_eq_false, true_and, and_true, false_and, and_false, and_self, true_implies, false_implies, implies_true, Option.toList_some, Option.toList_none, List.cons_append, List.nil_append, Nat.add_eq_zero_iff, a_nl_i, a_nl_r, a_nl_n, true_or, or_true, eq_self, ok_4, ok_5, ok_6, ok_7, ok_9, ok_10, ok_20, ok_21, ok_24, ok_30, ok_48, ok_50, ok_60, ok_80, ok_120, ok_180, ok_192, ok_200, ok_900, ok_1000, ok_84000, e0, e30, e31, e21]
    refine ⟨ha, ⟨n3, n4'⟩, fun _ => i2, ?_⟩
    by_cases c : wtY (yv M I0) i.toNatClampNeg 0 = 79 ∧ (yv M I0) 30 i.toNatClampNeg ≤ s ∧ s < (yv M I0) 31 i.toNatClampNeg
    · rw [if_pos c]
      by_cases c2 : b < 0
      · have hg := hgo i (by rw [if_pos ⟨c, Or.inl c2⟩])
        clear hgo
        simp only [q190_44, q190_47, q190_48, q190_51, q190_52, q190_55, q190_57, q190_58, q190_59, q190_62, q190_63, q190_64, q190_67, q190_69, q190_72, q190_73, q190_74, q190_77, m_0 hS, m_K hS, mR_textFrom hS, mK_textFrom hS, mL_textFrom hS, as_nil, as_i, as_r, Nat.reduceAdd, Nat.reduceLeDiff, z_eq0, z_eq1, z_or, z_em, Classical.not_not, not_false_eq_true, not_true_eq_false, true_and, and_true, false_and, and_false, and_self, true_implies, false_implies, implies_true, Option.toList_some, Option.toList_none, List.cons_append, List.nil_append, Nat.add_eq_zero_iff, a_nl_i, a_nl_r, a_nl_n, true_or, or_true, eq_self, ok_4, ok_5, ok_6, ok_7, ok_9, ok_10, ok_20, ok_21, ok_24, ok_30, ok_48, ok_50, ok_60, ok_80, ok_120, ok_180, ok_192, ok_200, ok_900, ok_1000, ok_84000, n10, c2]
        first
          | exact hg
          | grind
      · have hg := hgo
        have b2 := b20 c2
        simp only [q190_44, q190_47, q190_48, q190_51, q190_52, q190_55, q190_57, q190_58, q190_59, q190_62, q190_63, q190_64, q190_67, q190_69, q190_72, q190_73, q190_74, q190_77, m_0 hS, m_K hS, mR_textFrom hS, mK_textFrom hS, mL_textFrom hS, as_nil, as_i, as_r, Nat.reduceAdd, Nat.reduceLeDiff, z_eq0, z_eq1, z_or, z_em, Classical.not_not, not_false_eq_true, not_true_eq_false, true_and, and_true, false_and, and_false, and_self, true_implies, false_implies, implies_true, Option.toList_some, Option.toList_none, List.cons_append, List.nil_append, Nat.add_eq_zero_iff, a_nl_i, a_nl_r, a_nl_n, true_or, or_true, eq_self, ok_4, ok_5, ok_6, ok_7, ok_9, ok_10, ok_20, ok_21, ok_24, ok_30, ok_48, ok_50, ok_60, ok_80, ok_120, ok_180, ok_192, ok_200, ok_900, ok_1000, ok_84000, n10, c2, e30]
        clear hgo
        grind
    · have hg := hgo b (by rw [if_neg (fun q => c q.1)])
      rw [if_neg c]
      clear hgo
      simp only [q190_44, q190_72, q190_73, q190_74, q190_77, as_nil, as_i, as_r, Nat.reduceAdd, Nat.reduceLeDiff, z_eq0, z_eq1, z_or, z_em, Classical.not_not, not_false_eq_true, not_true_eq_false, true_and, and_true, false_and, and_false, and_self, true_implies, false_implies, implies_true, Option.toList_some, Option.toList_none, List.cons_append, List.nil_append, Nat.add_eq_zero_iff, a_nl_i, a_nl_r, a_nl_n, true_or, or_true, eq_self, ok_4, ok_5, ok_6, ok_7, ok_9, ok_10, ok_20, ok_21, ok_24, ok_30, ok_48, ok_50, ok_60, ok_80, ok_120, ok_180, ok_192, ok_200, ok_900, ok_1000, ok_84000]
      first
        | exact hg
        | grind
  clear ih hV hP hgo ew e30 e31
  rw [q190_21]
  simp only [q190_23, q190_24, q190_27, m_0 hS, m_K hS, as_nil, as_i, as_r, Nat.reduceAdd, Nat.reduceLeDiff, z_eq0, z_eq1, z_or, z_em, Classical.not_not, not_false_eq_true, not_true_eq_false, true_and, and_true, false_and, and_false, and_self, true_implies, false_implies, implies_true, Option.toList_some, Option.toList_none, List.cons_append, List.nil_append, Nat.add_eq_zero_iff, a_nl_i, a_nl_r, a_nl_n, true_or, or_true, eq_self, ok_4, ok_5, ok_6, ok_7, ok_9, ok_10, ok_20, ok_21, ok_24, ok_30, ok_48, ok_50, ok_60, ok_80, ok_120, ok_180, ok_192, ok_200, ok_900, ok_1000, ok_84000, et]
  clear hC
  grind
theorem coI_lo {Y : Nat → Nat → Int32} {s : Int32} : ∀ (k : Nat) (i b : Int32), 0 ≤ i → i.toNatClampNeg + k ≤ 20 → -1 ≤ b → b < i → -1 ≤ coI Y s k i b ∧ coI Y s k i b < i + Int32.ofNat k := by
  intro k
  induction k with
  | zero =>
    intro i b h0 h1 h2 h3
    refine ⟨h2, ?_⟩
    show b < i + 0
    rw [Int32.add_zero]
    exact h3
  | succ k ih =>
    intro i b h0 h1 h2 h3
    unfold coI
    have ei : i < 20 := by
      rw [Int32.lt_iff_toInt_lt]
      have e1 : i.toNatClampNeg = i.toInt.toNat := rfl
      have e2 : (20 : Int32).toInt = 20 := rfl
      omega
    have e1 : (i + 1).toNatClampNeg = i.toNatClampNeg + 1 := (lp_st h0 ei).2.2.2
    have e2 : i + 1 + Int32.ofNat k = i + Int32.ofNat (k + 1) := by
      rw [Int32.add_assoc, show (1 : Int32) + Int32.ofNat k = Int32.ofNat (k + 1) by rw [Int32.ofNat_add]; exact Int32.add_comm _ _]
    have i1 : i < i + 1 := by
      clear ih h1 e1 e2
      grind
    split
    · have := ih (i + 1) i (lp_st h0 ei).2.1 (by omega) (by clear ih e1 e2 h1; grind) i1
      rw [e2] at this
      exact this
    · have := ih (i + 1) b (lp_st h0 ei).2.1 (by omega) h2 (Int32.lt_trans h3 i1)
      rw [e2] at this
      exact this
theorem coY_lo {Y : Nat → Nat → Int32} (ht : 0 ≤ Y 0 41 ∧ Y 0 41 ≤ 20) {s : Int32} : -1 ≤ coY Y s ∧ coY Y s < Y 0 41 := by
  have h20 : (Y 0 41).toNatClampNeg ≤ 20 := cl_le0 ht.1 ht.2
  have := coI_lo (Y := Y) (s := s) (Y 0 41).toNatClampNeg 0 (-1) (by decide) (by show 0 + _ ≤ 20; omega) (by decide) (by decide)
  rw [Int32.zero_add, ← on_cl ht.1] at this
  exact this
theorem coI_is {Y : Nat → Nat → Int32} {s : Int32} : ∀ (k : Nat) (i b : Int32), (0 ≤ b → wtY Y b.toNatClampNeg 0 = 79) → 0 ≤ coI Y s k i b → wtY Y (coI Y s k i b).toNatClampNeg 0 = 79 := by
  intro k
  induction k with
  | zero => intro i b h h0; exact h h0
  | succ k ih =>
    intro i b h h0
    unfold coI at h0 ⊢
    refine ih _ _ (fun q => ?_) h0
    split
    · rename_i c
      exact c.1.1
    · rename_i c
      rw [if_neg c] at q
      exact h q
theorem rT_C (h : mC M I0 J) (h2 : rT M J J2) : mC M I0 J2 := ⟨h2.1, fun x j p => (h2.2.1 x j (by unfold sC at p; omega)).trans (h.2 x j p)⟩
theorem xt_owedOf (hS : m_S M K L R) (hC : mC M I0 I) (hm : mkP (yv M I0)) (hts : tsY (yv M I0)) (hp : tpP M I0) (hi : inP (yv M I0)) {a : Int32} (ha : 0 ≤ a ∧ a < 30) (hP : ∀ J, mC M I0 J → P (some (.int (ohY (yv M I0) a))) (n, t, K, L, J, R)) : a_does (d + 7) 190 [a_rf M, .int a] (n, t, K, L, I, R) P := by
  have hR := hC.1
  have e20 : I (M + 20) a.toNatClampNeg = (yv M I0) 20 a.toNatClampNeg := hC.2 _ _ (by unfold sC; omega)
  have e21 : I (M + 21) a.toNatClampNeg = (yv M I0) 21 a.toNatClampNeg := hC.2 _ _ (by unfold sC; omega)
  have e10 : I (M + 10) a.toNatClampNeg = (yv M I0) 10 a.toNatClampNeg := hC.2 _ _ (by unfold sC; omega)
  have et : I M 41 = (yv M I0) 0 41 := hC.2 _ _ (by unfold sC; omega)
  have gt := rg_texts hR
  rw [et] at gt
  unfold ohY at hP
  by_cases c : 0 ≤ (yv M I0) 20 a.toNatClampNeg
  · rw [if_pos c] at hP
    have el : loY (yv M I) a = loY (yv M I0) a := by
      exact loY_c (mC_sb hC) (mC_row hC (by omega)) (mC_row hC (by omega))
    have hpI : tpP M I := fun j hj => by
      have e0 : I M 2 = I0 M 2 := hC.2 _ _ (by unfold sC; omega)
      have e1 : I (M + 2) j = I0 (M + 2) j := hC.2 _ _ (by unfold sC; omega)
      have e2 : I (M + 3) j = I0 (M + 3) j := hC.2 _ _ (by unfold sC; omega)
      rw [e0] at hj
      rw [e1, e2]
      exact hp j hj
    have hiI : inP (yv M I) := fun j hj => by
      have e0 : (yv M I) 20 j = (yv M I0) 20 j := hC.2 _ _ (by unfold sC; omega)
      have e1 : (yv M I) 21 j = (yv M I0) 21 j := hC.2 _ _ (by unfold sC; omega)
      have e2 : (yv M I) 10 j = (yv M I0) 10 j := hC.2 _ _ (by unfold sC; omega)
      rw [e0, e1, e2]
      exact hi j hj
    obtain ⟨c1, c2⟩ := coY_lo gt (s := (yv M I0) 21 a.toNatClampNeg)
    have c3 := coI_is (Y := (yv M I0)) (s := (yv M I0) 21 a.toNatClampNeg) ((yv M I0) 0 41).toNatClampNeg 0 (-1) (fun q => absurd q (by decide))
    unfold owY at hP
    have h89 : ∀ i, ¬ coY (yv M I0) ((yv M I0) 21 a.toNatClampNeg) < 0 → a_at (d + 6) (a_xm a_m190) 89 [some (a_rf M), some (.int a), some (.int (loY (yv M I0) a)), some (.int (coY (yv M I0) ((yv M I0) 21 a.toNatClampNeg))), some (.int i)] [] (n, t, K, L, I, R) P := fun i w => by
      rw [if_neg w] at hP
      have w0 := Int32.not_lt.mp w
      have hx : 0 ≤ coY (yv M I0) ((yv M I0) 21 a.toNatClampNeg) ∧ coY (yv M I0) ((yv M I0) 21 a.toNatClampNeg) < 20 := ⟨w0, by clear hP hpI hiI hC hm hts hp hi c3; grind⟩
      have hl79 : wtY (yv M I0) (coY (yv M I0) ((yv M I0) 21 a.toNatClampNeg)).toNatClampNeg 0 = 79 := c3 w0
      have hts1 := hts _ (cl_lt w0 c2)
      obtain ⟨r1, r2, r3⟩ := xT_sum hts1.1 hl79
      clear c3 hpI hiI hp hi
      simp only [q190_89, q190_90, q190_91, q190_92, q190_95, q190_96, q190_97, q190_98, q190_101, q190_102, q190_103, q190_104, m_0 hS, m_K hS, mR_atBench hS, mK_atBench hS, mL_atBench hS, mR_atShift hS, mK_atShift hS, mL_atShift hS, as_nil, as_i, as_r, Nat.reduceAdd, Nat.reduceLeDiff, z_eq0, z_eq1, z_or, z_em, Classical.not_not, not_false_eq_true, not_true_eq_false, true_and, and_true, false_and, and_false, and_self, true_implies, false_implies, implies_true, Option.toList_some, Option.toList_none, List.cons_append, List.nil_append, Nat.add_eq_zero_iff, a_nl_i, a_nl_r, a_nl_n, true_or, or_true, eq_self, ok_4, ok_5, ok_6, ok_7, ok_9, ok_10, ok_20, ok_21, ok_24, ok_30, ok_48, ok_50, ok_60, ok_80, ok_120, ok_180, ok_192, ok_200, ok_900, ok_1000, ok_84000, e20, e21]
      refine ⟨ha, ha, xt_findFacts (d := d + 3) hS hC hm ha (fun J m1 m2 => ?_)⟩
      simp only [q190_107, q190_108, q190_109, m_0 hS, m_K hS, as_nil, as_i, as_r, Nat.reduceAdd, Nat.reduceLeDiff, z_eq0, z_eq1, z_or, z_em, Classical.not_not, not_false_eq_true, not_true_eq_false, true_and, and_true, false_and, and_false, and_self, true_implies, false_implies, implies_true, Option.toList_some, Option.toList_none, List.cons_append, List.nil_append, Nat.add_eq_zero_iff, a_nl_i, a_nl_r, a_nl_n, true_or, or_true, eq_self, ok_4, ok_5, ok_6, ok_7, ok_9, ok_10, ok_20, ok_21, ok_24, ok_30, ok_48, ok_50, ok_60, ok_80, ok_120, ok_180, ok_192, ok_200, ok_900, ok_1000, ok_84000]
      refine xt_open (d := d + 5) hS m1 hx (fun J2 m3 m4 m5 m6 m7 => ?_)
      have h2e : (2 : Int32) ≤ (yv M I0) 29 (coY (yv M I0) ((yv M I0) 21 a.toNatClampNeg)).toNatClampNeg := xT_two hts1.1
      simp only [q190_112, q190_113, m_0 hS, m_K hS, as_nil, as_i, as_r, Nat.reduceAdd, Nat.reduceLeDiff, z_eq0, z_eq1, z_or, z_em, Classical.not_not, not_false_eq_true, not_true_eq_false, true_and, and_true, false_and, and_false, and_self, true_implies, false_implies, implies_true, Option.toList_some, Option.toList_none, List.cons_append, List.nil_append, Nat.add_eq_zero_iff, a_nl_i, a_nl_r, a_nl_n, true_or, or_true, eq_self, ok_4, ok_5, ok_6, ok_7, ok_9, ok_10, ok_20, ok_21, ok_24, ok_30, ok_48, ok_50, ok_60, ok_80, ok_120, ok_180, ok_192, ok_200, ok_900, ok_1000, ok_84000]
      refine xe_readSum (d := d + 3) hS m3.1 m4 (by rw [m6]; exact ⟨by decide, h2e⟩) m7 (fun J3 m8 _ _ => ?_)
      rw [m6, ← r3]
      have hf3 : mC M I0 J3 := rT_C m3 m8
      have ev : (xT (wtY (yv M I0) (coY (yv M I0) ((yv M I0) 21 a.toNatClampNeg)).toNatClampNeg) ((yv M I0) 29 (coY (yv M I0) ((yv M I0) 21 a.toNatClampNeg)).toNatClampNeg)).2.2 (J2 (M + 32)) = wvY (yv M I0) (coY (yv M I0) ((yv M I0) 21 a.toNatClampNeg)).toNatClampNeg (fcA (yv M I0) a ((yv M I0) 20 a.toNatClampNeg) ((yv M I0) 21 a.toNatClampNeg) (loY (yv M I0) a)) := xT_q _ _ (fun j hj => by rw [m5, m2 j hj]; rfl)
      have e10' : J3 (M + 10) a.toNatClampNeg = (yv M I0) 10 a.toNatClampNeg := hf3.2 _ _ (by unfold sC; omega)
      rw [ev]
      have hp3 := hP J3 hf3
      unfold owC at hp3
      generalize wvY (yv M I0) (coY (yv M I0) ((yv M I0) 21 a.toNatClampNeg)).toNatClampNeg (fcA (yv M I0) a ((yv M I0) 20 a.toNatClampNeg) ((yv M I0) 21 a.toNatClampNeg) (loY (yv M I0) a)) = v at hp3 ⊢
      clear hP hC hm hts m1 m2 m3 m4 m5 m8 hf3 ev r1 r2 r3
      simp only [q190_116, q190_118, q190_120, q190_123, q190_124, q190_127, q190_129, q190_130, q190_133, q190_134, q190_135, q190_138, q190_139, q190_142, q190_143, q190_144, q190_147, q190_149, m_0 hS, m_K hS, mR_length hS, mK_length hS, mL_length hS, as_nil, as_i, as_r, Nat.reduceAdd, Nat.reduceLeDiff, z_eq0, z_eq1, z_or, z_em, Classical.not_not, not_false_eq_true, not_true_eq_false, true_and, and_true, false_and, and_false, and_self, true_implies, false_implies, implies_true, Option.toList_some, Option.toList_none, List.cons_append, List.nil_append, Nat.add_eq_zero_iff, a_nl_i, a_nl_r, a_nl_n, true_or, or_true, eq_self, ok_4, ok_5, ok_6, ok_7, ok_9, ok_10, ok_20, ok_21, ok_24, ok_30, ok_48, ok_50, ok_60, ok_80, ok_120, ok_180, ok_192, ok_200, ok_900, ok_1000, ok_84000, e10']
      grind
    have hl := xt_owedOf_21 (d := d) (n := n) (t := t) (P := P) (l := loY (yv M I0) a) hS hC ha rfl (V := coY (yv M I0) ((yv M I0) 21 a.toNatClampNeg)) (fun i => by
      have h89 := h89 i
      by_cases w : coY (yv M I0) ((yv M I0) 21 a.toNatClampNeg) < 0
      · have hp2 := hP I hC
        rw [if_pos w] at hp2
        clear h89 hP hpI hiI hC hm hts hp hi c3
        simp only [q190_80, q190_81, q190_84, q190_85, q190_87, q190_88, as_nil, as_i, as_r, Nat.reduceAdd, Nat.reduceLeDiff, z_eq0, z_eq1, z_or, z_em, Classical.not_not, not_false_eq_true, not_true_eq_false, true_and, and_true, false_and, and_false, and_self, true_implies, false_implies, implies_true, Option.toList_some, Option.toList_none, List.cons_append, List.nil_append, Nat.add_eq_zero_iff, a_nl_i, a_nl_r, a_nl_n, true_or, or_true, eq_self, ok_4, ok_5, ok_6, ok_7, ok_9, ok_10, ok_20, ok_21, ok_24, ok_30, ok_48, ok_50, ok_60, ok_80, ok_120, ok_180, ok_192, ok_200, ok_900, ok_1000, ok_84000, w]
        first
          | exact hp2
          | grind
      · have h89 := h89 w
        clear hP hpI hiI hC hm hts hp hi c3
        simp only [q190_80, q190_81, as_nil, as_i, as_r, Nat.reduceAdd, Nat.reduceLeDiff, z_eq0, z_eq1, z_or, z_em, Classical.not_not, not_false_eq_true, not_true_eq_false, true_and, and_true, false_and, and_false, and_self, true_implies, false_implies, implies_true, Option.toList_some, Option.toList_none, List.cons_append, List.nil_append, Nat.add_eq_zero_iff, a_nl_i, a_nl_r, a_nl_n, true_or, or_true, eq_self, ok_4, ok_5, ok_6, ok_7, ok_9, ok_10, ok_20, ok_21, ok_24, ok_30, ok_48, ok_50, ok_60, ok_80, ok_120, ok_180, ok_192, ok_200, ok_900, ok_1000, ok_84000, w]
        first
          | exact h89
          | grind) 0 (by decide) (-1) (by decide) gt.1 (by clear hP h89 hpI hiI hC hm hts hp hi c3; grind) (by rw [lp_0]; rfl)
    clear h89 hP
    rw [a_enter1 (M := a_m190) rfl (a_cat_rf (a_cat_int a_cat_nil)) (show 2 ≤ 5 by decide)]
    show a_at _ (a_xm a_m190) 0 [some (a_rf M), some (.int a), none, none, none] [] _ _
    simp only [q190_0, q190_1, q190_2, q190_5, q190_8, q190_9, q190_10, q190_11, q190_12, m_0 hS, m_K hS, sp_hasPlace hS, as_nil, as_i, as_r, Nat.reduceAdd, Nat.reduceLeDiff, z_eq0, z_eq1, z_or, z_em, Classical.not_not, not_false_eq_true, not_true_eq_false, true_and, and_true, false_and, and_false, and_self, true_implies, false_implies, implies_true, Option.toList_some, Option.toList_none, List.cons_append, List.nil_append, Nat.add_eq_zero_iff, a_nl_i, a_nl_r, a_nl_n, true_or, or_true, eq_self, ok_4, ok_5, ok_6, ok_7, ok_9, ok_10, ok_20, ok_21, ok_24, ok_30, ok_48, ok_50, ok_60, ok_80, ok_120, ok_180, ok_192, ok_200, ok_900, ok_1000, ok_84000, e20, c]
    try simp only [true_and, and_true, true_implies, false_implies, implies_true, not_true_eq_false, not_false_eq_true]
    refine ⟨ha, xt_lossOf (d := d + 4) hS hR hpI hiI ha ?_⟩
    rw [el]
    clear hpI hiI hC hm hts hp hi c3
    simp only [q190_15, q190_16, q190_17, q190_18, q190_19, as_nil, as_i, as_r, Nat.reduceAdd, Nat.reduceLeDiff, z_eq0, z_eq1, z_or, z_em, Classical.not_not, not_false_eq_true, not_true_eq_false, true_and, and_true, false_and, and_false, and_self, true_implies, false_implies, implies_true, Option.toList_some, Option.toList_none, List.cons_append, List.nil_append, Nat.add_eq_zero_iff, a_nl_i, a_nl_r, a_nl_n, true_or, or_true, eq_self, ok_4, ok_5, ok_6, ok_7, ok_9, ok_10, ok_20, ok_21, ok_24, ok_30, ok_48, ok_50, ok_60, ok_80, ok_120, ok_180, ok_192, ok_200, ok_900, ok_1000, ok_84000]
    exact hl
  · rw [if_neg c] at hP
    have hp2 := hP I hC
    clear hP hm hts hp hi hC
    rw [a_enter1 (M := a_m190) rfl (a_cat_rf (a_cat_int a_cat_nil)) (show 2 ≤ 5 by decide)]
    show a_at _ (a_xm a_m190) 0 [some (a_rf M), some (.int a), none, none, none] [] _ _
    simp only [q190_0, q190_1, q190_2, q190_5, q190_8, q190_9, m_0 hS, m_K hS, sp_hasPlace hS, as_nil, as_i, as_r, Nat.reduceAdd, Nat.reduceLeDiff, z_eq0, z_eq1, z_or, z_em, Classical.not_not, not_false_eq_true, not_true_eq_false, true_and, and_true, false_and, and_false, and_self, true_implies, false_implies, implies_true, Option.toList_some, Option.toList_none, List.cons_append, List.nil_append, Nat.add_eq_zero_iff, a_nl_i, a_nl_r, a_nl_n, true_or, or_true, eq_self, ok_4, ok_5, ok_6, ok_7, ok_9, ok_10, ok_20, ok_21, ok_24, ok_30, ok_48, ok_50, ok_60, ok_80, ok_120, ok_180, ok_192, ok_200, ok_900, ok_1000, ok_84000, e20, c]
    first
      | exact ⟨ha, hp2⟩
      | grind
end YP
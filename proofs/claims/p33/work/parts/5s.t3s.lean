/-! what bars -/
/-- bars that hang on the ASK, the bench, the SHIFT alone -/
def fxY (Y : Nat → Nat → Int32) (a b s : Int32) : Int32 := if (Y 12 a.toNatClampNeg >>> (b &&& 31)) &&& 1 = 0 then 1 else if (Y 5 b.toNatClampNeg >>> (Y 11 a.toNatClampNeg &&& 31)) &&& 1 = 0 then 2 else if 199 < s ∨ 8 * s < Y 0 0 then 3 else if Y 1 s.toNatClampNeg = 4 ∨ liY Y s = 8 then 4 else if (Y 13 a.toNatClampNeg >>> (Y 1 s.toNatClampNeg &&& 31)) &&& 1 = 0 then 5 else 0
/-- an ASK holds a bench in a SHIFT; another one with the same GEAR holds some bench -/
def hoY (Y : Nat → Nat → Int32) (o b s : Int32) : Prop := 0 ≤ Y 20 o.toNatClampNeg ∧ Y 20 o.toNatClampNeg = b ∧ Y 21 o.toNatClampNeg ≤ s ∧ s < Y 21 o.toNatClampNeg + Y 10 o.toNatClampNeg
def geY (Y : Nat → Nat → Int32) (a o s : Int32) : Prop := ¬ o = a ∧ 0 ≤ Y 20 o.toNatClampNeg ∧ Y 14 o.toNatClampNeg = Y 14 a.toNatClampNeg ∧ 0 ≤ Y 14 a.toNatClampNeg ∧ Y 21 o.toNatClampNeg ≤ s ∧ s < Y 21 o.toNatClampNeg + Y 10 o.toNatClampNeg
/-- what others have: 6, 7 or 0 -/
def hgI (Y : Nat → Nat → Int32) (a b s : Int32) : Nat → Int32 → Int32 → Int32
  | 0, _, g => if g = 0 then 0 else 7
  | k + 1, o, g => if ¬ o = a ∧ (0 ≤ Y 20 o.toNatClampNeg ∧ Y 20 o.toNatClampNeg = b ∧ Y 21 o.toNatClampNeg ≤ s ∧ s < Y 21 o.toNatClampNeg + Y 10 o.toNatClampNeg) then 6 else hgI Y a b s k (o + 1) (if ¬ g = 0 ∨ (¬ o = a ∧ 0 ≤ Y 20 o.toNatClampNeg ∧ Y 14 o.toNatClampNeg = Y 14 a.toNatClampNeg ∧ 0 ≤ Y 14 a.toNatClampNeg ∧ Y 21 o.toNatClampNeg ≤ s ∧ s < Y 21 o.toNatClampNeg + Y 10 o.toNatClampNeg) then 1 else 0)
/-- the least text of a letter that holds at a place -/
def wtA (Y : Nat → Nat → Int32) (g a b s : Int32) : Int32 := hgY Y g s (fcA Y a b s 0) (Y 0 41).toNatClampNeg 0
def lkH (Y : Nat → Nat → Int32) (a b s : Int32) : Prop := bcf (fhY Y a b s) < (if 0 ≤ wtA Y 87 a b s then 2 else 1)
def tnY (Y : Nat → Nat → Int32) (a f : Int32) : Prop := Y 7 a.toNatClampNeg = 1 ∧ (¬ 0 ≤ Y 20 (Y 16 a.toNatClampNeg).toNatClampNeg ∨ f - (Y 21 (Y 16 a.toNatClampNeg).toNatClampNeg + Y 10 (Y 16 a.toNatClampNeg).toNatClampNeg - 1) - 1 < Y 17 a.toNatClampNeg)
def bdY (Y : Nat → Nat → Int32) (a s : Int32) : Prop := Y 7 a.toNatClampNeg = 2 ∧ ¬ (Y 16 a.toNatClampNeg ≤ s ∧ s ≤ Y 17 a.toNatClampNeg)
def brY (Y : Nat → Nat → Int32) (a b s f : Int32) : Int32 := if ¬ fxY Y a b s = 0 then fxY Y a b s else if ¬ hgI Y a b s (Y 0 17).toNatClampNeg 0 0 = 0 then hgI Y a b s (Y 0 17).toNatClampNeg 0 0 else if 0 ≤ wtA Y 66 a b s then 8 else if bcf (fhY Y a b s) < (if 0 ≤ wtA Y 87 a b s then 2 else 1) then 9 else if Y 7 a.toNatClampNeg = 1 ∧ (¬ 0 ≤ Y 20 (Y 16 a.toNatClampNeg).toNatClampNeg ∨ f - (Y 21 (Y 16 a.toNatClampNeg).toNatClampNeg + Y 10 (Y 16 a.toNatClampNeg).toNatClampNeg - 1) - 1 < Y 17 a.toNatClampNeg) then 10 else if Y 7 a.toNatClampNeg = 2 ∧ ¬ (Y 16 a.toNatClampNeg ≤ s ∧ s ≤ Y 17 a.toNatClampNeg) then 11 else 0
/-- FIT -/
def ftI (Y : Nat → Nat → Int32) (a b f : Int32) : Nat → Int32 → Int32
  | 0, _ => 0
  | k + 1, i => if 0 < brY Y a b (f + i) f then brY Y a b (f + i) f else ftI Y a b f k (i + 1)
def ftY (Y : Nat → Nat → Int32) (a b f : Int32) : Int32 := ftI Y a b f (Y 10 a.toNatClampNeg).toNatClampNeg 0
/-- what holds of the model at all times -/
def hbP (Y : Nat → Nat → Int32) : Prop := ∀ b, 0 ≤ Y 6 b ∧ Y 6 b ≤ 255
section YS
variable {d n t M : Nat} {K L : Nat → Nat} {I I0 J J0 J1 J2 : Nat → Nat → Int32} {R : Nat → Nat → Nat} {P : Option Value → AH → Prop} {f : Nat → Int32} {e : Int32}
def moP (M : Nat) (I : Nat → Nat → Int32) : Prop := mR M I ∧ mkP (yv M I) ∧ tsY (yv M I) ∧ tpP M I ∧ inP (yv M I) ∧ hbP (yv M I)
theorem moP_C (h : moP M I0) (hC : mC M I0 I) : moP M I := by
  obtain ⟨h1, h2, h3, h4, h5, h6⟩ := h
  have e : ∀ k j, ¬ (k = 32 ∨ k = 33 ∨ k = 34 ∨ k = 0) → (yv M I) k j = (yv M I0) k j := fun k j q => hC.2 _ _ (by unfold sC; omega)
  have e41 : (yv M I) 0 41 = (yv M I0) 0 41 := hC.2 _ _ (by unfold sC; omega)
  have e2 : I M 2 = I0 M 2 := hC.2 _ _ (by unfold sC; omega)
  refine ⟨hC.1, mkP_C h2 hC, fun x hx => ?_, fun j hj => ?_, fun j hj => ?_, fun b => ?_⟩
  · rw [e41] at hx
    have ew : wtY (yv M I) x = wtY (yv M I0) x := funext (fun j => e _ _ (by omega))
    rw [ew, e 29 x (by omega)]
    exact h3 x hx
  · rw [e2] at hj
    have e3 : I (M + 2) j = I0 (M + 2) j := hC.2 _ _ (by unfold sC; omega)
    have e4 : I (M + 3) j = I0 (M + 3) j := hC.2 _ _ (by unfold sC; omega)
    rw [e3, e4]
    exact h4 j hj
  · rw [e 20 j (by omega), e 21 j (by omega), e 10 j (by omega)]
    exact h5 j hj
  · rw [e 6 b (by omega)]
    exact h6 b
theorem fhY_8 {Y : Nat → Nat → Int32} (h : hbP Y) {a b s : Int32} : 0 ≤ fhY Y a b s ∧ fhY Y a b s ≤ 255 := and_8 (h _)
theorem xt_freeHostsC (hS : m_S M K L R) (hC : mC M I0 I) {a b s : Int32} (hb : 0 ≤ b ∧ b ≤ 5) (hP : P (some (.int (fhY (yv M I0) a b s))) (n, t, K, L, I, R)) : a_does (d + 2) 225 [a_rf M, .int a, .int b, .int s] (n, t, K, L, I, R) P := by
  refine xt_freeHosts hS hC.1 hb ?_
  have hb' := mC_sb hC
  have g17 : 0 ≤ (yv M I) 0 17 ∧ (yv M I) 0 17 ≤ 30 := rg_asks hC.1
  have g10 : ∀ j, 0 ≤ (yv M I) 10 j ∧ (yv M I) 10 j ≤ 4 := rg_length hC.1
  rw [hb' 0 17 (by unfold sb; omega)] at g17
  rw [sbE_r hb' (k := 10) (by omega)] at g10
  have e : fhY (yv M I) a b s = fhY (yv M I0) a b s := fhY_c g17 g10 (sbE_r hb' (by omega)) (hb' 0 17 (by unfold sb; omega)) (hb' 0 9 (by unfold sb; omega)) (fun o _ _ _ => ⟨by rw [mC_row hC (k := 20) (by omega)], by rw [mC_row hC (k := 21) (by omega)], by rw [sbE_r hb' (k := 10) (by omega)], fun _ i _ _ => by rw [mC_row hC (k := 22) (by omega)]⟩)
  rw [e]
  exact hP
theorem xt_isWatched (hS : m_S M K L R) (hm : moP M I0) (hC : mC M I0 I) {a b s : Int32} (ha : 0 ≤ a ∧ a < 30) (hP : ∀ J, mC M I0 J → P (some (.int (if 0 ≤ wtA (yv M I0) 87 a b s then 1 else 0))) (n, t, K, L, J, R)) : a_does (d + 8) 227 [a_rf M, .int a, .int b, .int s] (n, t, K, L, I, R) P := by
  rw [a_enter1 (M := a_m227) rfl (a_cat_rf (a_cat_int (a_cat_int (a_cat_int a_cat_nil)))) (show 4 ≤ 4 by decide)]
  show a_at _ (a_xm a_m227) 0 [some (a_rf M), some (.int a), some (.int b), some (.int s)] [] _ _
  simp only [q227_0, q227_1, q227_3, q227_4, q227_5, q227_6, m_0 hS, m_K hS, as_nil, as_i, as_r, Nat.reduceAdd, Nat.reduceLeDiff, z_eq0, z_eq1, z_or, z_em, Classical.not_not, not_false_eq_true, not_true_eq_false, true_and, and_true, false_and, and_false, and_self, true_implies, false_implies, implies_true, Option.toList_some, Option.toList_none, List.cons_append, List.nil_append, Nat.add_eq_zero_iff, a_nl_i, a_nl_r, a_nl_n, true_or, or_true, eq_self, ok_4, ok_5, ok_6, ok_7, ok_9, ok_10, ok_20, ok_21, ok_24, ok_30, ok_48, ok_50, ok_60, ok_80, ok_120, ok_180, ok_192, ok_200, ok_900, ok_1000, ok_84000]
  refine xt_holding (d := d) hS hC hm.2.1 hm.2.2.1 (g := 87) (by decide) ha (fun J c => ?_)
  have hp := hP J c
  rw [show hgY (yv M I0) 87 s (fcY (yv M I0) a.toNatClampNeg (mkY (cmY (yv M I0)) (hsY (yv M I0)) a) b s 0) ((yv M I0) 0 41).toNatClampNeg 0 = wtA (yv M I0) 87 a b s from rfl]
  generalize wtA (yv M I0) 87 a b s = v at hp ⊢
  clear hP hC c hm
  simp only [q227_9, q227_12, q227_13, q227_16, q227_17, as_nil, as_i, as_r, Nat.reduceAdd, Nat.reduceLeDiff, z_eq0, z_eq1, z_or, z_em, Classical.not_not, not_false_eq_true, not_true_eq_false, true_and, and_true, false_and, and_false, and_self, true_implies, false_implies, implies_true, Option.toList_some, Option.toList_none, List.cons_append, List.nil_append, Nat.add_eq_zero_iff, a_nl_i, a_nl_r, a_nl_n, true_or, or_true, eq_self, ok_4, ok_5, ok_6, ok_7, ok_9, ok_10, ok_20, ok_21, ok_24, ok_30, ok_48, ok_50, ok_60, ok_80, ok_120, ok_180, ok_192, ok_200, ok_900, ok_1000, ok_84000]
  grind
theorem xt_standFor (hS : m_S M K L R) (hm : moP M I0) (hC : mC M I0 I) {a b s : Int32} (ha : 0 ≤ a ∧ a < 30) (hb : 0 ≤ b ∧ b ≤ 5) (hP : ∀ J, mC M I0 J → P (some (.int (sfB (fhY (yv M I0) a b s) (if 0 ≤ wtA (yv M I0) 87 a b s then 2 else 1)))) (n, t, K, L, J, R)) : a_does (d + 9) 232 [a_rf M, .int a, .int b, .int s] (n, t, K, L, I, R) P := by
  rw [a_enter1 (M := a_m232) rfl (a_cat_rf (a_cat_int (a_cat_int (a_cat_int a_cat_nil)))) (show 4 ≤ 8 by decide)]
  show a_at _ (a_xm a_m232) 0 [some (a_rf M), some (.int a), some (.int b), some (.int s), none, none, none, none] [] _ _
  simp only [q232_0, q232_1, q232_2, q232_3, q232_4, m_0 hS, m_K hS, as_nil, as_i, as_r, Nat.reduceAdd, Nat.reduceLeDiff, z_eq0, z_eq1, z_or, z_em, Classical.not_not, not_false_eq_true, not_true_eq_false, true_and, and_true, false_and, and_false, and_self, true_implies, false_implies, implies_true, Option.toList_some, Option.toList_none, List.cons_append, List.nil_append, Nat.add_eq_zero_iff, a_nl_i, a_nl_r, a_nl_n, true_or, or_true, eq_self, ok_4, ok_5, ok_6, ok_7, ok_9, ok_10, ok_20, ok_21, ok_24, ok_30, ok_48, ok_50, ok_60, ok_80, ok_120, ok_180, ok_192, ok_200, ok_900, ok_1000, ok_84000]
  refine xt_freeHostsC (d := d + 6) hS hC hb ?_
  simp only [q232_7, q232_9, q232_10, q232_11, q232_12, q232_13, m_0 hS, m_K hS, as_nil, as_i, as_r, Nat.reduceAdd, Nat.reduceLeDiff, z_eq0, z_eq1, z_or, z_em, Classical.not_not, not_false_eq_true, not_true_eq_false, true_and, and_true, false_and, and_false, and_self, true_implies, false_implies, implies_true, Option.toList_some, Option.toList_none, List.cons_append, List.nil_append, Nat.add_eq_zero_iff, a_nl_i, a_nl_r, a_nl_n, true_or, or_true, eq_self, ok_4, ok_5, ok_6, ok_7, ok_9, ok_10, ok_20, ok_21, ok_24, ok_30, ok_48, ok_50, ok_60, ok_80, ok_120, ok_180, ok_192, ok_200, ok_900, ok_1000, ok_84000]
  refine xt_isWatched (d := d) hS hm hC ha (fun J c => ?_)
  have hp := hP J c
  generalize fhY (yv M I0) a b s = f at hp ⊢
  by_cases w : 0 ≤ wtA (yv M I0) 87 a b s
  · rw [if_pos w] at hp ⊢
    have hl := xt_standFor_32 (d := d + 7) (M := M) (a := a) (b := b) (s := s) (f := f) (P := P) hp 0 (by decide) 2 0 (by decide) (by decide) (by decide) (by rw [lp_0]; rfl)
    clear hP hC c hm hp
    have n10 : ¬ (1 : Int32) = 0 := by decide
    simp only [q232_16, q232_19, q232_20, q232_23, q232_24, q232_26, q232_27, q232_29, q232_30, as_nil, as_i, as_r, Nat.reduceAdd, Nat.reduceLeDiff, z_eq0, z_eq1, z_or, z_em, Classical.not_not, not_false_eq_true, not_true_eq_false, true_and, and_true, false_and, and_false, and_self, true_implies, false_implies, implies_true, Option.toList_some, Option.toList_none, List.cons_append, List.nil_append, Nat.add_eq_zero_iff, a_nl_i, a_nl_r, a_nl_n, true_or, or_true, eq_self, ok_4, ok_5, ok_6, ok_7, ok_9, ok_10, ok_20, ok_21, ok_24, ok_30, ok_48, ok_50, ok_60, ok_80, ok_120, ok_180, ok_192, ok_200, ok_900, ok_1000, ok_84000, n10]
    first
      | exact hl
      | grind
  · rw [if_neg w] at hp ⊢
    have hl := xt_standFor_32 (d := d + 7) (M := M) (a := a) (b := b) (s := s) (f := f) (P := P) hp 0 (by decide) 1 0 (by decide) (by decide) (by decide) (by rw [lp_0]; rfl)
    clear hP hC c hm hp
    simp only [q232_16, q232_19, q232_20, q232_23, q232_24, q232_26, q232_27, q232_29, q232_30, as_nil, as_i, as_r, Nat.reduceAdd, Nat.reduceLeDiff, z_eq0, z_eq1, z_or, z_em, Classical.not_not, not_false_eq_true, not_true_eq_false, true_and, and_true, false_and, and_false, and_self, true_implies, false_implies, implies_true, Option.toList_some, Option.toList_none, List.cons_append, List.nil_append, Nat.add_eq_zero_iff, a_nl_i, a_nl_r, a_nl_n, true_or, or_true, eq_self, ok_4, ok_5, ok_6, ok_7, ok_9, ok_10, ok_20, ok_21, ok_24, ok_30, ok_48, ok_50, ok_60, ok_80, ok_120, ok_180, ok_192, ok_200, ok_900, ok_1000, ok_84000]
    first
      | exact hl
      | grind
theorem xt_isTooNear (hS : m_S M K L R) (hC : mC M I0 I) {a f : Int32} (ha : 0 ≤ a ∧ a < 30) (h0 : ¬ tnY (yv M I0) a f → P (some (.int 0)) (n, t, K, L, I, R)) (h1 : tnY (yv M I0) a f → P (some (.int 1)) (n, t, K, L, I, R)) : a_does (d + 2) 228 [a_rf M, .int a, .int f] (n, t, K, L, I, R) P := by
  have gx := rg_tied hC.1 a.toNatClampNeg
  have e7 : I (M + 7) a.toNatClampNeg = (yv M I0) 7 a.toNatClampNeg := hC.2 _ _ (by unfold sC; omega)
  have e16 : I (M + 16) a.toNatClampNeg = (yv M I0) 16 a.toNatClampNeg := hC.2 _ _ (by unfold sC; omega)
  have e17 : I (M + 17) a.toNatClampNeg = (yv M I0) 17 a.toNatClampNeg := hC.2 _ _ (by unfold sC; omega)
  have e20 : I (M + 20) ((yv M I0) 16 a.toNatClampNeg).toNatClampNeg = (yv M I0) 20 ((yv M I0) 16 a.toNatClampNeg).toNatClampNeg := hC.2 _ _ (by unfold sC; omega)
  have e21 : I (M + 21) ((yv M I0) 16 a.toNatClampNeg).toNatClampNeg = (yv M I0) 21 ((yv M I0) 16 a.toNatClampNeg).toNatClampNeg := hC.2 _ _ (by unfold sC; omega)
  have e10 : I (M + 10) ((yv M I0) 16 a.toNatClampNeg).toNatClampNeg = (yv M I0) 10 ((yv M I0) 16 a.toNatClampNeg).toNatClampNeg := hC.2 _ _ (by unfold sC; omega)
  rw [e7, e16] at gx
  unfold tnY at h0 h1
  clear hC
  rw [a_enter1 (M := a_m228) rfl (a_cat_rf (a_cat_int (a_cat_int a_cat_nil))) (show 3 ≤ 4 by decide)]
  show a_at _ (a_xm a_m228) 0 [some (a_rf M), some (.int a), some (.int f), none] [] _ _
  simp only [q228_0, q228_1, q228_4, q228_5, q228_6, q228_7, q228_10, q228_11, q228_12, q228_13, q228_16, q228_17, q228_18, q228_19, q228_20, q228_21, q228_24, q228_27, q228_28, q228_29, q228_32, q228_33, q228_34, q228_35, q228_38, q228_39, q228_40, q228_41, q228_42, q228_43, q228_44, q228_45, q228_46, q228_47, q228_50, q228_51, q228_52, q228_55, q228_56, q228_59, q228_60, m_0 hS, m_K hS, mR_kind hS, mK_kind hS, mL_kind hS, mR_xOf hS, mK_xOf hS, mL_xOf hS, mR_atShift hS, mK_atShift hS, mL_atShift hS, mR_length hS, mK_length hS, mL_length hS, mR_yOf hS, mK_yOf hS, mL_yOf hS, sp_hasPlace hS, as_nil, as_i, as_r, Nat.reduceAdd, Nat.reduceLeDiff, z_eq0, z_eq1, z_or, z_em, Classical.not_not, not_false_eq_true, not_true_eq_false, true_and, and_true, false_and, and_false, and_self, true_implies, false_implies, implies_true, Option.toList_some, Option.toList_none, List.cons_append, List.nil_append, Nat.add_eq_zero_iff, a_nl_i, a_nl_r, a_nl_n, true_or, or_true, eq_self, ok_4, ok_5, ok_6, ok_7, ok_9, ok_10, ok_20, ok_21, ok_24, ok_30, ok_48, ok_50, ok_60, ok_80, ok_120, ok_180, ok_192, ok_200, ok_900, ok_1000, ok_84000, e7, e16, e17, e20, e21, e10]
  clear e7 e16 e17 e20 e21 e10
  generalize (yv M I0) 7 a.toNatClampNeg = y7 at gx h0 h1 ⊢
  generalize (yv M I0) 16 a.toNatClampNeg = y16 at gx h0 h1 ⊢
  generalize (yv M I0) 17 a.toNatClampNeg = y17 at h0 h1 ⊢
  generalize (yv M I0) 20 y16.toNatClampNeg = y20 at h0 h1 ⊢
  generalize (yv M I0) 21 y16.toNatClampNeg = y21 at h0 h1 ⊢
  generalize (yv M I0) 10 y16.toNatClampNeg = y10 at h0 h1 ⊢
  clear hS
  grind
theorem hgI_rng {Y : Nat → Nat → Int32} {a b s : Int32} : ∀ (k : Nat) (o g : Int32), hgI Y a b s k o g = 0 ∨ hgI Y a b s k o g = 6 ∨ hgI Y a b s k o g = 7 := by
  intro k
  induction k with
  | zero =>
    intro o g
    unfold hgI
    split
    · exact Or.inl rfl
    · exact Or.inr (Or.inr rfl)
  | succ k ih =>
    intro o g
    unfold hgI
    split
    · exact Or.inr (Or.inl rfl)
    · exact ih _ _
theorem xt_barIn_104 (hS : m_S M K L R) (hC : mC M I0 I) {a b s f : Int32} (ha : 0 ≤ a ∧ a < 30) {V : Int32} (h6 : V = 6 → P (some (.int 6)) (n, t, K, L, I, R)) (hn : ∀ g o u, (g = 0 ∨ g = 1) → V = (if g = 0 then 0 else 7) → a_at (d + 8) (a_xm a_m222) 233 [some (a_rf M), some (.int a), some (.int b), some (.int s), some (.int f), some (.int g), some (.int o), u] [] (n, t, K, L, I, R) P) : ∀ o : Int32, o ≤ 30 → ∀ g u, (g = 0 ∨ g = 1) → 0 ≤ o → o ≤ (yv M I0) 0 17 → hgI (yv M I0) a b s (((yv M I0) 0 17).toNatClampNeg - o.toNatClampNeg) o g = V → a_at (d + 8) (a_xm a_m222) 104 [some (a_rf M), some (.int a), some (.int b), some (.int s), some (.int f), some (.int g), some (.int o), u] [] (n, t, K, L, I, R) P := by
  have et : I M 17 = (yv M I0) 0 17 := hC.2 _ _ (by unfold sC; omega)
  have e20 : ∀ j, I (M + 20) j = (yv M I0) 20 j := fun j => hC.2 _ _ (by unfold sC; omega)
  have e21 : ∀ j, I (M + 21) j = (yv M I0) 21 j := fun j => hC.2 _ _ (by unfold sC; omega)
  have e10 : ∀ j, I (M + 10) j = (yv M I0) 10 j := fun j => hC.2 _ _ (by unfold sC; omega)
  have e14 : ∀ j, I (M + 14) j = (yv M I0) 14 j := fun j => hC.2 _ _ (by unfold sC; omega)
  have gt := rg_asks hC.1
  rw [et] at gt
  generalize ez : (yv M I0) 0 17 = z at et gt
  clear hC
  refine up_ind 30 (fun o o30 ih => ?_)
  intro g u hg h0 h1 hV
  have hexit : ¬ o < z → a_at (d + 8) (a_xm a_m222) 233 [some (a_rf M), some (.int a), some (.int b), some (.int s), some (.int f), some (.int g), some (.int o), u] [] (n, t, K, L, I, R) P := fun w => by
    rw [(lp_end h1 w).1] at hV
    exact hn g o u hg hV.symm
  have hV2 : o < z → (if ¬ o = a ∧ (0 ≤ (yv M I0) 20 o.toNatClampNeg ∧ (yv M I0) 20 o.toNatClampNeg = b ∧ (yv M I0) 21 o.toNatClampNeg ≤ s ∧ s < (yv M I0) 21 o.toNatClampNeg + (yv M I0) 10 o.toNatClampNeg) then 6 else hgI (yv M I0) a b s (z.toNatClampNeg - (o + 1).toNatClampNeg) (o + 1) (if ¬ g = 0 ∨ (¬ o = a ∧ 0 ≤ (yv M I0) 20 o.toNatClampNeg ∧ (yv M I0) 14 o.toNatClampNeg = (yv M I0) 14 a.toNatClampNeg ∧ 0 ≤ (yv M I0) 14 a.toNatClampNeg ∧ (yv M I0) 21 o.toNatClampNeg ≤ s ∧ s < (yv M I0) 21 o.toNatClampNeg + (yv M I0) 10 o.toNatClampNeg) then 1 else 0)) = V := fun w => by
    rw [(lp_st h0 w).1] at hV
    exact hV
  have hsix : o < z → (¬ o = a ∧ (0 ≤ (yv M I0) 20 o.toNatClampNeg ∧ (yv M I0) 20 o.toNatClampNeg = b ∧ (yv M I0) 21 o.toNatClampNeg ≤ s ∧ s < (yv M I0) 21 o.toNatClampNeg + (yv M I0) 10 o.toNatClampNeg)) → P (some (.int 6)) (n, t, K, L, I, R) := fun w c => by
    have hV := hV2 w
    rw [if_pos c] at hV
    exact h6 hV.symm
  have hgo : o < z → ¬ (¬ o = a ∧ (0 ≤ (yv M I0) 20 o.toNatClampNeg ∧ (yv M I0) 20 o.toNatClampNeg = b ∧ (yv M I0) 21 o.toNatClampNeg ≤ s ∧ s < (yv M I0) 21 o.toNatClampNeg + (yv M I0) 10 o.toNatClampNeg)) → ∀ g2 u2, g2 = (if ¬ g = 0 ∨ (¬ o = a ∧ 0 ≤ (yv M I0) 20 o.toNatClampNeg ∧ (yv M I0) 14 o.toNatClampNeg = (yv M I0) 14 a.toNatClampNeg ∧ 0 ≤ (yv M I0) 14 a.toNatClampNeg ∧ (yv M I0) 21 o.toNatClampNeg ≤ s ∧ s < (yv M I0) 21 o.toNatClampNeg + (yv M I0) 10 o.toNatClampNeg) then 1 else 0) → a_at (d + 8) (a_xm a_m222) 104 [some (a_rf M), some (.int a), some (.int b), some (.int s), some (.int f), some (.int g2), some (.int (o + 1)), u2] [] (n, t, K, L, I, R) P := fun w c g2 u2 e2 => by
    have hV := hV2 w
    rw [if_neg c, ← e2] at hV
    obtain ⟨s1, s2, s3, s4⟩ := lp_st h0 w
    refine ih (by clear ih hV hV2 hsix hexit h6 hn; grind) g2 u2 ?_ s2 s3 hV
    rw [e2]
    split
    · exact Or.inr rfl
    · exact Or.inl rfl
  have o30' : o < z → 0 ≤ o ∧ o < 30 := fun w => ⟨h0, by clear ih hV hV2 hsix hgo hexit h6 hn; grind⟩
  clear ih hV hV2 h6 hn
  rw [q222_104]
  repeat' first
    | with_reducible apply And.intro
    | with_reducible assumption
    | with_reducible intro _
    | refine hexit ?_
    | refine hgo ?_ ?_ _ _ ?_
    | refine hsix ?_ ?_
    | simp only [q222_106, q222_107, q222_110, q222_113, q222_115, q222_116, q222_119, q222_120, q222_122, q222_123, q222_124, q222_127, q222_130, q222_132, q222_133, q222_135, q222_136, q222_139, q222_140, q222_142, q222_145, q222_148, q222_149, q222_152, q222_154, q222_155, q222_156, q222_159, q222_160, q222_161, q222_164, q222_165, q222_168, q222_169, q222_170, q222_173, q222_174, q222_175, q222_178, q222_180, q222_181, q222_184, q222_185, q222_186, q222_189, q222_191, q222_192, q222_193, q222_196, q222_198, q222_199, q222_200, q222_203, q222_204, q222_207, q222_208, q222_210, q222_212, q222_215, q222_217, q222_220, q222_221, q222_224, q222_225, q222_227, q222_230, m_0 hS, m_K hS, mR_gear hS, mK_gear hS, mL_gear hS, mR_atShift hS, mK_atShift hS, mL_atShift hS, mR_length hS, mK_length hS, mL_length hS, sp_holdsAt hS, sp_hasPlace hS, as_nil, as_i, as_r, Nat.reduceAdd, Nat.reduceLeDiff, z_eq0, z_eq1, z_or, z_em, Classical.not_not, not_false_eq_true, not_true_eq_false, true_and, and_true, false_and, and_false, and_self, true_implies, false_implies, implies_true, Option.toList_some, Option.toList_none, List.cons_append, List.nil_append, Nat.add_eq_zero_iff, a_nl_i, a_nl_r, a_nl_n, true_or, or_true, eq_self, ok_4, ok_5, ok_6, ok_7, ok_9, ok_10, ok_20, ok_21, ok_24, ok_30, ok_48, ok_50, ok_60, ok_80, ok_120, ok_180, ok_192, ok_200, ok_900, ok_1000, ok_84000, et, e20, e21, e10, e14]
  all_goals ((try clear hexit); (try clear hsix); (try clear hgo); (try clear e20); (try clear e21); (try clear e10); (try clear e14); (try clear hS); grind [ui_ap])
end YS